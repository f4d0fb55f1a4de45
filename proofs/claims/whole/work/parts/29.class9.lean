/-! CLASS: the tape, third -/
theorem nfF_in {bt : Nat → Int32} {t a : Nat} (h : a ≤ t) (k : Nat) : a + nfF bt t a k ≤ t := by
  induction k with
  | zero => exact h
  | succ k ih =>
    unfold nfF
    split
    · next z => have := z.2.1; omega
    · exact ih
theorem tSg_le {bt : Nat → Int32} {t : Nat} {sg : Int32} {z : Nat × Int32} (h : z.1 ≤ t) : (tSg bt t sg z).1 ≤ t := by
  unfold tSg
  split
  · split
    · next g => exact g.1
    · exact h
  · exact h
theorem tNm_le {bt : Nat → Int32} {t : Nat} {mo : Int32} {z : Nat × Int32} (h : z.1 ≤ t) : (tNm bt t mo z).2.1 ≤ t := by
  unfold tNm
  split
  · split
    · exact h
    · split
      · exact h
      · exact nfF_in h 3
  · exact h
def rLaw (bt : Nat → Int32) (t : Nat) (z : Nat × Int32) : Int32 × Nat × Int32 := ((tNm bt t 36 (tSg bt t 119 z)).1, tSg bt t 59 (tNm bt t 36 (tSg bt t 119 z)).2)
theorem u_X6_readLaw_X8 : ∀ w ∈ wsX80, w ∈ wsX6_readLaw := fun _ h => List.mem_cons_of_mem _ (List.mem_append_left _ (List.mem_append_right _ h))
set_option maxHeartbeats 4000000 in
set_option maxRecDepth 100000 in
theorem c_X6_readLaw (l : Launch) (D : va_G) (cI cZ cT : ClassId) (pa : Nat → Nat) (t : Nat) (tf : Int32) (bt : Nat → Int32) (ta : Nat → Nat) (st dy ln rd : Int32) (kd dd nt lf : Nat → Int32) (σ : Nat × Int32) (ht : t ≤ 120) (ha : σ.1 ≤ t) : Met l yX6_readLaw wsX6_readLaw ({ frames := 2, cells := 0, slots := 0, locals := 43 }) (pM D cI cZ cT [.ref (pa 0), .ref (ta 0)] (wTape cI pa (nI t) tf (nI σ.1) σ.2 bt ++ wTown cI ta st dy ln rd kd dd nt lf)) (qM D none (wTape cI pa (nI t) tf (nI (rLaw bt t σ).2.1) ((rLaw bt t σ).2.2) bt ++ wTown cI ta st dy ((rLaw bt t σ).1) rd kd dd nt lf) (adr (wTape cI pa (nI t) tf (nI σ.1) σ.2 bt ++ wTown cI ta st dy ln rd kd dd nt lf))) 0 0 (adr (wTape cI pa (nI t) tf (nI σ.1) σ.2 bt ++ wTown cI ta st dy ln rd kd dd nt lf)) := by
  refine Met.ofW (cc := cX6_readLaw) (maxL := 2) (ret := none) (by decide) rfl ?_
  intro p e s m args below meth c s₁ B hml hv
  obtain ⟨rfl, hP, hD0, hK⟩ := hv
  have hx := B.exec
  have hb := B.bytes
  have hr := B.returns
  have hts := atoms_spec (ws := wsX6_readLaw) B.pre
  have hown : s.vm.findClass RX6 = some m.cls := findClass_of_methodNamed B.named
  have hlocks := B.notSynchronized
  have hD := hD0.toAdr
  have hS : va_S (adr (wTape cI pa (nI t) tf (nI σ.1) σ.2 bt ++ wTown cI ta st dy ln rd kd dd nt lf)) s.heap s.heap [] := va_S.rf
  generalize adr (wTape cI pa (nI t) tf (nI σ.1) σ.2 bt ++ wTown cI ta st dy ln rd kd dd nt lf) = A at hD hS ⊢
  have hl := lv_entry ([.ref (pa 0), .ref (ta 0)]) (n := 2) (Nat.le_of_ble_eq_true rfl)
  rw [lg_entry_eq]
  generalize (lg_sl ([.ref (pa 0), .ref (ta 0)]) ++ List.replicate (2 - (lg_sl ([.ref (pa 0), .ref (ta 0)])).length) Slot.unset).toArray = ls at hl ⊢
  have hl : lv_has ls 2 [(0, .ref (pa 0)), (1, .ref (ta 0))] := hl
  refine lv_aload_n hx hb dX6_readLaw_0 rfl (lv_at hl 0 rfl) ?_
  refine lv_bipush (v := 119) hx hb dX6_readLaw_1 (by decide) ?_
  refine b_callM [0, 1] (va_runV (As := [.int 119]) (rest := []) ⟨hx, hb, hml, hown, hts⟩ (c_X6_takeSign l D cI cZ cT pa t tf bt σ 119 ht ha) (cwV 1 hts gX6_readLaw_X6_takeSign rfl rfl rfl (by decide +kernel) ⟨(Nat.le_of_ble_eq_true rfl), (Nat.le_of_ble_eq_true rfl)⟩) (b_pVM hK hP hD [0, 1] (by decide) rfl rfl 0 rfl rfl) rfl rfl hl.1 rfl (lv_room (Nat.le_of_ble_eq_true rfl)) dX6_readLaw_3 ⟨Nat.zero_le _, Nat.zero_le _⟩).run hP hD hS rfl (Nat.le_of_ble_eq_true rfl) (fun H locs hP hS => ?_)
  have hP : va_P D vwCl (wTape cI pa (nI t) tf (nI (tSg bt t 119 σ).1) ((tSg bt t 119 σ).2) bt ++ wTown cI ta st dy ln rd kd dd nt lf) H := hP
  generalize eq3 : tSg bt t 119 σ = q3 at hP ⊢
  have hP : va_P D vwCl (wTape cI pa (nI t) tf (nI q3.1) q3.2 bt ++ wTown cI ta st dy ln rd kd dd nt lf) H := hP
  have hD : va_D A (wTape cI pa (nI t) tf (nI q3.1) q3.2 bt ++ wTown cI ta st dy ln rd kd dd nt lf) := hD.sameA [(pa 0), (pa 1), (ta 0), (ta 1), (ta 2), (ta 3), (ta 4)] rfl rfl
  have hq3 : q3.1 ≤ t := by rw [← eq3]; first | exact tSg_le ha | exact tNm_le ha
  refine lv_aload_n hx hb dX6_readLaw_6 rfl (lv_at hl 1 rfl) ?_
  refine lv_aload_n hx hb dX6_readLaw_7 rfl (lv_at hl 0 rfl) ?_
  refine lv_bipush (v := 36) hx hb dX6_readLaw_8 (by decide) ?_
  refine b_callM [0, 1] (va_runV (As := [.int 36]) (rest := [.ref (ta 0)]) ⟨hx, hb, hml, hown, hts⟩ (c_X6_takeNumber l D cI cZ cT pa t tf bt q3 36 ht hq3) (cwV 1 hts gX6_readLaw_X6_takeNumber rfl rfl rfl (by decide +kernel) ⟨(Nat.le_of_ble_eq_true rfl), (Nat.le_of_ble_eq_true rfl)⟩) (b_pVM hK hP hD [0, 1] (by decide) rfl rfl 0 rfl rfl) rfl rfl hl.1 rfl (lv_room (Nat.le_of_ble_eq_true rfl)) dX6_readLaw_10 ⟨Nat.zero_le _, Nat.zero_le _⟩).run hP hD hS rfl (Nat.le_of_ble_eq_true rfl) (fun H locs hP hS => ?_)
  have hP : va_P D vwCl (wTape cI pa (nI t) tf (nI (tNm bt t 36 q3).2.1) ((tNm bt t 36 q3).2.2) bt ++ wTown cI ta st dy ln rd kd dd nt lf) H := hP
  generalize eq10 : tNm bt t 36 q3 = q10 at hP ⊢
  have hP : va_P D vwCl (wTape cI pa (nI t) tf (nI q10.2.1) q10.2.2 bt ++ wTown cI ta st dy ln rd kd dd nt lf) H := hP
  have hD : va_D A (wTape cI pa (nI t) tf (nI q10.2.1) q10.2.2 bt ++ wTown cI ta st dy ln rd kd dd nt lf) := hD.sameA [(pa 0), (pa 1), (ta 0), (ta 1), (ta 2), (ta 3), (ta 4)] rfl rfl
  have hq10 : q10.2.1 ≤ t := by rw [← eq10]; first | exact tSg_le hq3 | exact tNm_le hq3
  refine b_put (C := RX8) (T := TX8) (N := 8) hx hb hts u_X6_readLaw_X8 tyX8 tyX8_ok nmX8 hown hK hP hD hS 2 rfl rfl 2 (by decide) (hts (.fieldLink RX6 52 "NoticeWeek$Town" "lines" "I") (List.mem_of_getElem? (i := 1) rfl)) rfl (by decide +kernel) (Nat.le_of_ble_eq_true rfl) dX6_readLaw_13 (fun H locs hP hS => ?_)
  have hP : va_P D vwCl (wTape cI pa (nI t) tf (nI q10.2.1) q10.2.2 bt ++ wTown cI ta st dy q10.1 rd kd dd nt lf) H := hP
  have hD : va_D A (wTape cI pa (nI t) tf (nI q10.2.1) q10.2.2 bt ++ wTown cI ta st dy q10.1 rd kd dd nt lf) := hD.sameA [(pa 0), (pa 1), (ta 0), (ta 1), (ta 2), (ta 3), (ta 4)] rfl rfl
  refine lv_aload_n hx hb dX6_readLaw_16 rfl (lv_at hl 0 rfl) ?_
  refine lv_bipush (v := 59) hx hb dX6_readLaw_17 (by decide) ?_
  refine b_callM [0, 1] (va_runV (As := [.int 59]) (rest := []) ⟨hx, hb, hml, hown, hts⟩ (c_X6_takeSign l D cI cZ cT pa t tf bt q10.2 59 ht hq10) (cwV 1 hts gX6_readLaw_X6_takeSign rfl rfl rfl (by decide +kernel) ⟨(Nat.le_of_ble_eq_true rfl), (Nat.le_of_ble_eq_true rfl)⟩) (b_pVM hK hP hD [0, 1] (by decide) rfl rfl 0 rfl rfl) rfl rfl hl.1 rfl (lv_room (Nat.le_of_ble_eq_true rfl)) dX6_readLaw_19 ⟨Nat.zero_le _, Nat.zero_le _⟩).run hP hD hS rfl (Nat.le_of_ble_eq_true rfl) (fun H locs hP hS => ?_)
  have hP : va_P D vwCl (wTape cI pa (nI t) tf (nI (tSg bt t 59 q10.2).1) ((tSg bt t 59 q10.2).2) bt ++ wTown cI ta st dy q10.1 rd kd dd nt lf) H := hP
  generalize eq19 : tSg bt t 59 q10.2 = q19 at hP ⊢
  have hP : va_P D vwCl (wTape cI pa (nI t) tf (nI q19.1) q19.2 bt ++ wTown cI ta st dy q10.1 rd kd dd nt lf) H := hP
  have hD : va_D A (wTape cI pa (nI t) tf (nI q19.1) q19.2 bt ++ wTown cI ta st dy q10.1 rd kd dd nt lf) := hD.sameA [(pa 0), (pa 1), (ta 0), (ta 1), (ta 2), (ta 3), (ta 4)] rfl rfl
  have E : rLaw bt t σ = (q10.1, q19) := (by unfold rLaw; rw [eq3, eq10, eq19])
  rw [E]
  exact b_vretM hx hb hr hP hS dX6_readLaw_22 hlocks
