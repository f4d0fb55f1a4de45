/-! CLASS: the tape, fifth -/
theorem rB_2 (bt : Nat → Int32) (t : Nat) (z : Nat × Int32) : (rB bt t z).2 = tSg bt t 59 (tNm bt t 60 (tSg bt t 44 (tNm bt t 63 (tSg bt t 44 (tNm bt t 63 z).2)).2)).2 := by unfold rB; dsimp only
theorem rB_le {bt : Nat → Int32} {t : Nat} {z : Nat × Int32} (h : z.1 ≤ t) : (rB bt t z).2.1 ≤ t := by rw [rB_2]; exact tSg_le (tNm_le (tSg_le (tNm_le (tSg_le (tNm_le h)))))
theorem t_add_le {n : Nat} {kd dd nt lf : Nat → Int32} {a b x d : Int32} (h : n ≤ 6) : (t_add n kd dd nt lf a b x d).1 ≤ 6 := by
  unfold t_add
  split
  · show n + 1 ≤ 6; omega
  · exact h
theorem rRd_le {bt : Nat → Int32} {t : Nat} {z : Nat × Int32} {n : Nat} {kd dd nt lf : Nat → Int32} (h : z.1 < t) (hn : n ≤ 6) : (rRd bt t z n kd dd nt lf).1.1 ≤ t ∧ (rRd bt t z n kd dd nt lf).2.1 ≤ 6 := by
  have hB : (rB bt t (z.1 + 1, z.2)).2.1 ≤ t := rB_le h
  unfold rRd
  generalize rB bt t (z.1 + 1, z.2) = B at hB ⊢
  generalize rRk bt t z.1 = kk
  by_cases h1 : kk = 0
  · rw [if_pos h1]; exact ⟨Nat.le_of_lt h, hn⟩
  · rw [if_neg h1]
    by_cases h2 : 6 ≤ n
    · rw [if_pos h2]; exact ⟨Nat.le_of_lt h, hn⟩
    · rw [if_neg h2]
      refine ⟨hB, ?_⟩
      by_cases h3 : B.2.2 = 0
      · rw [if_pos h3]; exact t_add_le hn
      · rw [if_neg h3]; exact hn
def rSt (bt : Nat → Int32) (t : Nat) (x : (Nat × Int32) × TwT) : (Nat × Int32) × TwT := if x.1.2 = 0 ∧ x.1.1 < t then rRd bt t x.1 x.2.1 x.2.2.1 x.2.2.2.1 x.2.2.2.2.1 x.2.2.2.2.2 else x
def rI (bt : Nat → Int32) (t : Nat) (z0 : Nat × Int32) (kd dd nt lf : Nat → Int32) (k : Nat) : (Nat × Int32) × TwT := itr (fun _ x => rSt bt t x) k (z0, (0, kd, dd, nt, lf))
theorem rI_0 (bt : Nat → Int32) (t : Nat) (z0 : Nat × Int32) (kd dd nt lf : Nat → Int32) : rI bt t z0 kd dd nt lf 0 = (z0, (0, kd, dd, nt, lf)) := rfl
theorem rI_s (bt : Nat → Int32) (t : Nat) (z0 : Nat × Int32) (kd dd nt lf : Nat → Int32) (k : Nat) : rI bt t z0 kd dd nt lf (k + 1) = rSt bt t (rI bt t z0 kd dd nt lf k) := rfl
theorem rSt_le {bt : Nat → Int32} {t : Nat} {x : (Nat × Int32) × TwT} (h : x.1.1 ≤ t ∧ x.2.1 ≤ 6) : (rSt bt t x).1.1 ≤ t ∧ (rSt bt t x).2.1 ≤ 6 := by
  unfold rSt
  by_cases g : x.1.2 = 0 ∧ x.1.1 < t
  · rw [if_pos g]; exact rRd_le g.2 h.2
  · rw [if_neg g]; exact h
theorem rI_le {bt : Nat → Int32} {t : Nat} {z0 : Nat × Int32} {kd dd nt lf : Nat → Int32} (h : z0.1 ≤ t) (k : Nat) : (rI bt t z0 kd dd nt lf k).1.1 ≤ t ∧ (rI bt t z0 kd dd nt lf k).2.1 ≤ 6 := by
  induction k with
  | zero => exact ⟨h, Nat.zero_le _⟩
  | succ k ih => rw [rI_s]; exact rSt_le ih
theorem rI_go {bt : Nat → Int32} {t : Nat} {z0 : Nat × Int32} {kd dd nt lf : Nat → Int32} {k : Nat} (h : (rI bt t z0 kd dd nt lf k).1.2 = 0 ∧ (rI bt t z0 kd dd nt lf k).1.1 < t) : rRd bt t (rI bt t z0 kd dd nt lf k).1 (rI bt t z0 kd dd nt lf k).2.1 (rI bt t z0 kd dd nt lf k).2.2.1 (rI bt t z0 kd dd nt lf k).2.2.2.1 (rI bt t z0 kd dd nt lf k).2.2.2.2.1 (rI bt t z0 kd dd nt lf k).2.2.2.2.2 = rI bt t z0 kd dd nt lf (k + 1) := by
  rw [rI_s]; unfold rSt; rw [if_pos h]
theorem rI_stop {bt : Nat → Int32} {t : Nat} {z0 : Nat × Int32} {kd dd nt lf : Nat → Int32} {k : Nat} (h : ¬ ((rI bt t z0 kd dd nt lf k).1.2 = 0 ∧ (rI bt t z0 kd dd nt lf k).1.1 < t)) (j : Nat) : rI bt t z0 kd dd nt lf (k + j) = rI bt t z0 kd dd nt lf k := by
  induction j with
  | zero => rfl
  | succ j ih => rw [← Nat.add_assoc, rI_s, ih]; unfold rSt; rw [if_neg h]
theorem rI_stop7 {bt : Nat → Int32} {t : Nat} {z0 : Nat × Int32} {kd dd nt lf : Nat → Int32} {k : Nat} (hk : k ≤ 7) (h : ¬ ((rI bt t z0 kd dd nt lf k).1.2 = 0 ∧ (rI bt t z0 kd dd nt lf k).1.1 < t)) : rI bt t z0 kd dd nt lf k = rI bt t z0 kd dd nt lf 7 := by
  have := rI_stop h (7 - k); rw [show k + (7 - k) = 7 by omega] at this; exact this.symm
def x_into (bt : Nat → Int32) (t : Nat) (tf : Int32) (kd dd nt lf : Nat → Int32) : Int32 × Int32 × Int32 × Int32 × ((Nat × Int32) × TwT) :=
  if (rI bt t (rLaw bt t (0, 0)).2 kd dd nt lf 7).1.2 = 0 then (-1, tf, 1, (rLaw bt t (0, 0)).1, rI bt t (rLaw bt t (0, 0)).2 kd dd nt lf 7)
  else (nI (rI bt t (rLaw bt t (0, 0)).2 kd dd nt lf 7).1.1, (rI bt t (rLaw bt t (0, 0)).2 kd dd nt lf 7).1.2, 0, (rLaw bt t (0, 0)).1, rI bt t (rLaw bt t (0, 0)).2 kd dd nt lf 7)
theorem rLaw_le {bt : Nat → Int32} {t : Nat} {z : Nat × Int32} (h : z.1 ≤ t) : (rLaw bt t z).2.1 ≤ t := by unfold rLaw; exact tSg_le (tNm_le (tSg_le h))
theorem u_X6_readInto_X6 : ∀ w ∈ wsX60, w ∈ wsX6_readInto := fun _ h => List.mem_cons_of_mem _ (List.mem_append_left _ (List.mem_append_right _ h))
theorem u_X6_readInto_X8 : ∀ w ∈ wsX80, w ∈ wsX6_readInto := fun _ h => List.mem_cons_of_mem _ (List.mem_append_right _ h)
set_option maxHeartbeats 4000000 in
set_option maxRecDepth 100000 in
theorem c_X6_readInto (l : Launch) (D : va_G) (cI cZ cT : ClassId) (pa : Nat → Nat) (t : Nat) (tf tat tw : Int32) (bt : Nat → Int32) (ta : Nat → Nat) (st dy ln rd : Int32) (kd dd nt lf : Nat → Int32) (ht : t ≤ 120) : Met l yX6_readInto wsX6_readInto ({ frames := 3, cells := 0, slots := 0, locals := 68 }) (pM D cI cZ cT [.ref (pa 0), .ref (ta 0)] (wTape cI pa (nI t) tf tat tw bt ++ wTown cI ta st dy ln rd kd dd nt lf)) (qM D (some (.int ((x_into bt t tf kd dd nt lf).1))) (wTape cI pa (nI 0) ((x_into bt t tf kd dd nt lf).2.1) (nI (x_into bt t tf kd dd nt lf).2.2.2.2.1.1) ((x_into bt t tf kd dd nt lf).2.2.2.2.1.2) bt ++ wTown cI ta ((x_into bt t tf kd dd nt lf).2.2.1) 0 ((x_into bt t tf kd dd nt lf).2.2.2.1) (nI (x_into bt t tf kd dd nt lf).2.2.2.2.2.1) ((x_into bt t tf kd dd nt lf).2.2.2.2.2.2.1) ((x_into bt t tf kd dd nt lf).2.2.2.2.2.2.2.1) ((x_into bt t tf kd dd nt lf).2.2.2.2.2.2.2.2.1) ((x_into bt t tf kd dd nt lf).2.2.2.2.2.2.2.2.2)) (adr (wTape cI pa (nI t) tf tat tw bt ++ wTown cI ta st dy ln rd kd dd nt lf))) 0 0 (adr (wTape cI pa (nI t) tf tat tw bt ++ wTown cI ta st dy ln rd kd dd nt lf)) := by
  refine Met.ofW (cc := cX6_readInto) (maxL := 3) (ret := (some .int)) (by decide) rfl ?_
  intro p e s m args below meth c s₁ B hml hv
  obtain ⟨rfl, hP, hD0, hK⟩ := hv
  have hx := B.exec
  have hb := B.bytes
  have hr := B.returns
  have hts := atoms_spec (ws := wsX6_readInto) B.pre
  have hown : s.vm.findClass RX6 = some m.cls := findClass_of_methodNamed B.named
  have hlocks := B.notSynchronized
  have hD := hD0.toAdr
  have hS : va_S (adr (wTape cI pa (nI t) tf tat tw bt ++ wTown cI ta st dy ln rd kd dd nt lf)) s.heap s.heap [] := va_S.rf
  generalize adr (wTape cI pa (nI t) tf tat tw bt ++ wTown cI ta st dy ln rd kd dd nt lf) = A at hD hS ⊢
  have hl := lv_entry ([.ref (pa 0), .ref (ta 0)]) (n := 3) (Nat.le_of_ble_eq_true rfl)
  rw [lg_entry_eq]
  generalize (lg_sl ([.ref (pa 0), .ref (ta 0)]) ++ List.replicate (3 - (lg_sl ([.ref (pa 0), .ref (ta 0)])).length) Slot.unset).toArray = ls at hl ⊢
  have hl : lv_has ls 3 [(0, .ref (pa 0)), (1, .ref (ta 0))] := hl
  refine lv_aload_n hx hb dX6_readInto_0 rfl (lv_at hl 0 rfl) ?_
  refine lv_iconst (v := (nI 0)) hx hb dX6_readInto_1 (by decide) ?_
  refine b_put (C := RX6) (T := TX6) (N := 5) hx hb hts u_X6_readInto_X6 tyX6 tyX6_ok nmX6 hown hK hP hD hS 0 rfl rfl 3 (by decide) (hts (.fieldLink RX6 22 "NoticeWeek$Tape" "at" "I") (List.mem_of_getElem? (i := 1) rfl)) rfl (by decide +kernel) (Nat.le_of_ble_eq_true rfl) dX6_readInto_2 (fun H locs hP hS => ?_)
  have hP : va_P D vwCl (wTape cI pa (nI t) tf (nI 0) tw bt ++ wTown cI ta st dy ln rd kd dd nt lf) H := hP
  have hD : va_D A (wTape cI pa (nI t) tf (nI 0) tw bt ++ wTown cI ta st dy ln rd kd dd nt lf) := hD.sameA [(pa 0), (pa 1), (ta 0), (ta 1), (ta 2), (ta 3), (ta 4)] rfl rfl
  refine lv_aload_n hx hb dX6_readInto_5 rfl (lv_at hl 0 rfl) ?_
  refine lv_iconst (v := 0) hx hb dX6_readInto_6 (by decide) ?_
  refine b_put (C := RX6) (T := TX6) (N := 5) hx hb hts u_X6_readInto_X6 tyX6 tyX6_ok nmX6 hown hK hP hD hS 0 rfl rfl 4 (by decide) (hts (.fieldLink RX6 25 "NoticeWeek$Tape" "flaw" "I") (List.mem_of_getElem? (i := 2) rfl)) rfl (by decide +kernel) (Nat.le_of_ble_eq_true rfl) dX6_readInto_7 (fun H locs hP hS => ?_)
  have hP : va_P D vwCl (wTape cI pa (nI t) tf (nI 0) 0 bt ++ wTown cI ta st dy ln rd kd dd nt lf) H := hP
  have hD : va_D A (wTape cI pa (nI t) tf (nI 0) 0 bt ++ wTown cI ta st dy ln rd kd dd nt lf) := hD.sameA [(pa 0), (pa 1), (ta 0), (ta 1), (ta 2), (ta 3), (ta 4)] rfl rfl
  refine lv_aload_n hx hb dX6_readInto_10 rfl (lv_at hl 1 rfl) ?_
  refine b_callM [2, 3, 4, 5, 6] (va_runV (As := []) (rest := []) ⟨hx, hb, hml, hown, hts⟩ (c_X8_clear l D cI cZ cT ta st dy ln rd kd dd nt lf) (cwV 0 hts gX6_readInto_X8_clear rfl rfl rfl (by decide +kernel) ⟨(Nat.le_of_ble_eq_true rfl), (Nat.le_of_ble_eq_true rfl)⟩) (b_pVM hK hP hD [2, 3, 4, 5, 6] (by decide) rfl rfl 2 rfl rfl) rfl rfl hl.1 rfl (lv_room (Nat.le_of_ble_eq_true rfl)) dX6_readInto_11 ⟨Nat.zero_le _, Nat.zero_le _⟩).run hP hD hS rfl (Nat.le_of_ble_eq_true rfl) (fun H locs hP hS => ?_)
  have hP : va_P D vwCl (wTape cI pa (nI t) tf (nI 0) 0 bt ++ wTown cI ta 0 0 0 (nI 0) kd dd nt lf) H := hP
  have hD : va_D A (wTape cI pa (nI t) tf (nI 0) 0 bt ++ wTown cI ta 0 0 0 (nI 0) kd dd nt lf) := hD.sameA [(pa 0), (pa 1), (ta 0), (ta 1), (ta 2), (ta 3), (ta 4)] rfl rfl
  refine lv_aload_n hx hb dX6_readInto_14 rfl (lv_at hl 0 rfl) ?_
  refine lv_aload_n hx hb dX6_readInto_15 rfl (lv_at hl 1 rfl) ?_
  refine b_callM [0, 1, 2, 3, 4, 5, 6] (va_runV (As := [.ref (ta 0)]) (rest := []) ⟨hx, hb, hml, hown, hts⟩ (c_X6_readLaw l D cI cZ cT pa t tf bt ta 0 0 0 (nI 0) kd dd nt lf (0, 0) ht (Nat.zero_le t)) (cwV 1 hts gX6_readInto_X6_readLaw rfl rfl rfl (by decide +kernel) ⟨(Nat.le_of_ble_eq_true rfl), (Nat.le_of_ble_eq_true rfl)⟩) (b_pVM hK hP hD [0, 1, 2, 3, 4, 5, 6] (by decide) rfl rfl 0 rfl rfl) rfl rfl hl.1 rfl (lv_room (Nat.le_of_ble_eq_true rfl)) dX6_readInto_16 ⟨Nat.zero_le _, Nat.zero_le _⟩).run hP hD hS rfl (Nat.le_of_ble_eq_true rfl) (fun H locs hP hS => ?_)
  have hP : va_P D vwCl (wTape cI pa (nI t) tf (nI (rLaw bt t (0, 0)).2.1) ((rLaw bt t (0, 0)).2.2) bt ++ wTown cI ta 0 0 ((rLaw bt t (0, 0)).1) (nI 0) kd dd nt lf) H := hP
  generalize eq16 : rLaw bt t (0, 0) = q16 at hP ⊢
  have hP : va_P D vwCl (wTape cI pa (nI t) tf (nI q16.2.1) q16.2.2 bt ++ wTown cI ta 0 0 q16.1 (nI 0) kd dd nt lf) H := hP
  have hD : va_D A (wTape cI pa (nI t) tf (nI q16.2.1) q16.2.2 bt ++ wTown cI ta 0 0 q16.1 (nI 0) kd dd nt lf) := hD.sameA [(pa 0), (pa 1), (ta 0), (ta 1), (ta 2), (ta 3), (ta 4)] rfl rfl
  have h16 : q16.2.1 ≤ t := by rw [← eq16]; exact rLaw_le (Nat.zero_le t)
  refine lv_iconst (v := (nI 0)) hx hb dX6_readInto_19 (by decide) ?_
  refine lv_istore_n (lv' := [(2, .int (nI 0)), (0, .ref (pa 0)), (1, .ref (ta 0))]) hx hb dX6_readInto_20 rfl hl (by decide) rfl (fun ls hl => ?_)
  refine b_cutM (jpc := 56) (rest' := []) (I := fun ls H locs => lv_has ls 3 [(0, .ref (pa 0)), (1, .ref (ta 0))] ∧ va_P D vwCl (wTape cI pa (nI t) tf (nI (rI bt t q16.2 kd dd nt lf 7).1.1) ((rI bt t q16.2 kd dd nt lf 7).1.2) bt ++ wTown cI ta 0 0 q16.1 (nI (rI bt t q16.2 kd dd nt lf 7).2.1) ((rI bt t q16.2 kd dd nt lf 7).2.2.1) ((rI bt t q16.2 kd dd nt lf 7).2.2.2.1) ((rI bt t q16.2 kd dd nt lf 7).2.2.2.2.1) ((rI bt t q16.2 kd dd nt lf 7).2.2.2.2.2)) H ∧ va_S A s.heap H locs) (fun ls H locs hI => ?_) (fun K1 => ?_)
  · obtain ⟨hl, hP, hS⟩ := hI
    have hl : lv_has ls 3 [(0, .ref (pa 0)), (1, .ref (ta 0))] := hl
    have hP : va_P D vwCl (wTape cI pa (nI t) tf (nI (rI bt t q16.2 kd dd nt lf 7).1.1) ((rI bt t q16.2 kd dd nt lf 7).1.2) bt ++ wTown cI ta 0 0 q16.1 (nI (rI bt t q16.2 kd dd nt lf 7).2.1) ((rI bt t q16.2 kd dd nt lf 7).2.2.1) ((rI bt t q16.2 kd dd nt lf 7).2.2.2.1) ((rI bt t q16.2 kd dd nt lf 7).2.2.2.2.1) ((rI bt t q16.2 kd dd nt lf 7).2.2.2.2.2)) H := hP
    have hD : va_D A (wTape cI pa (nI t) tf (nI (rI bt t q16.2 kd dd nt lf 7).1.1) ((rI bt t q16.2 kd dd nt lf 7).1.2) bt ++ wTown cI ta 0 0 q16.1 (nI (rI bt t q16.2 kd dd nt lf 7).2.1) ((rI bt t q16.2 kd dd nt lf 7).2.2.1) ((rI bt t q16.2 kd dd nt lf 7).2.2.2.1) ((rI bt t q16.2 kd dd nt lf 7).2.2.2.2.1) ((rI bt t q16.2 kd dd nt lf 7).2.2.2.2.2)) := hD.sameA [(pa 0), (pa 1), (ta 0), (ta 1), (ta 2), (ta 3), (ta 4)] rfl rfl
    obtain ⟨Qz, eqz⟩ : ∃ x, (rI bt t q16.2 kd dd nt lf 7) = x := ⟨_, rfl⟩
    rw [eqz] at hP
    have hP : va_P D vwCl (wTape cI pa (nI t) tf (nI Qz.1.1) Qz.1.2 bt ++ wTown cI ta 0 0 q16.1 (nI Qz.2.1) Qz.2.2.1 Qz.2.2.2.1 Qz.2.2.2.2.1 Qz.2.2.2.2.2) H := hP
    have hD : va_D A (wTape cI pa (nI t) tf (nI Qz.1.1) Qz.1.2 bt ++ wTown cI ta 0 0 q16.1 (nI Qz.2.1) Qz.2.2.1 Qz.2.2.2.1 Qz.2.2.2.2.1 Qz.2.2.2.2.2) := hD.sameA [(pa 0), (pa 1), (ta 0), (ta 1), (ta 2), (ta 3), (ta 4)] rfl rfl
    refine lv_aload_n hx hb dX6_readInto_56 rfl (lv_at hl 0 rfl) ?_
    refine lv_iconst (v := (nI 0)) hx hb dX6_readInto_57 (by decide) ?_
    refine b_put (C := RX6) (T := TX6) (N := 5) hx hb hts u_X6_readInto_X6 tyX6 tyX6_ok nmX6 hown hK hP hD hS 0 rfl rfl 1 (by decide) (hts (.fieldLink RX6 15 "NoticeWeek$Tape" "length" "I") (List.mem_of_getElem? (i := 3) rfl)) rfl (by decide +kernel) (Nat.le_of_ble_eq_true rfl) dX6_readInto_58 (fun H locs hP hS => ?_)
    have hP : va_P D vwCl (wTape cI pa (nI 0) tf (nI Qz.1.1) Qz.1.2 bt ++ wTown cI ta 0 0 q16.1 (nI Qz.2.1) Qz.2.2.1 Qz.2.2.2.1 Qz.2.2.2.2.1 Qz.2.2.2.2.2) H := hP
    have hD : va_D A (wTape cI pa (nI 0) tf (nI Qz.1.1) Qz.1.2 bt ++ wTown cI ta 0 0 q16.1 (nI Qz.2.1) Qz.2.2.1 Qz.2.2.2.1 Qz.2.2.2.2.1 Qz.2.2.2.2.2) := hD.sameA [(pa 0), (pa 1), (ta 0), (ta 1), (ta 2), (ta 3), (ta 4)] rfl rfl
    refine lv_aload_n hx hb dX6_readInto_61 rfl (lv_at hl 0 rfl) ?_
    refine va_get (D := D) (ci := 6) (v := .int Qz.1.2) (C := RX6) (T := TX6) (N := 5) hx hb hts u_X6_readInto_X6 hown hK.1 hP 0 rfl rfl 4 (by decide) (hts (.fieldLink RX6 25 "NoticeWeek$Tape" "flaw" "I") (List.mem_of_getElem? (i := 2) rfl)) (fun _ h9 => h9) rfl dX6_readInto_62 ?_
    refine lv_if_eq (tgt := 81) hx hb dX6_readInto_65 (by decide) (fun c2 => ?_) (fun c2 => ?_)
    · refine lv_aload_n hx hb dX6_readInto_81 rfl (lv_at hl 1 rfl) ?_
      refine lv_iconst (v := 1) hx hb dX6_readInto_82 (by decide) ?_
      refine b_putZ (C := RX8) (T := TX8) (N := 8) hx hb hts u_X6_readInto_X8 tyX8 tyX8_ok nmX8 hown hK hP hD hS 2 rfl rfl 0 (by decide) (hts (.fieldLink RX6 40 "NoticeWeek$Town" "stands" "Z") (List.mem_of_getElem? (i := 5) rfl)) rfl (by decide +kernel) ⟨rfl, rfl⟩ (Nat.le_of_ble_eq_true rfl) dX6_readInto_83 (fun H locs hP hS => ?_)
      have hP : va_P D vwCl (wTape cI pa (nI 0) tf (nI Qz.1.1) Qz.1.2 bt ++ wTown cI ta 1 0 q16.1 (nI Qz.2.1) Qz.2.2.1 Qz.2.2.2.1 Qz.2.2.2.2.1 Qz.2.2.2.2.2) H := hP
      have hD : va_D A (wTape cI pa (nI 0) tf (nI Qz.1.1) Qz.1.2 bt ++ wTown cI ta 1 0 q16.1 (nI Qz.2.1) Qz.2.2.1 Qz.2.2.2.1 Qz.2.2.2.2.1 Qz.2.2.2.2.2) := hD.sameA [(pa 0), (pa 1), (ta 0), (ta 1), (ta 2), (ta 3), (ta 4)] rfl rfl
      refine lv_iconst (v := (-1)) hx hb dX6_readInto_86 (by decide) ?_
      have E : x_into bt t tf kd dd nt lf = ((-1), tf, 1, q16.1, Qz) := (by unfold x_into; rw [eq16, eqz, if_pos c2])
      rw [E]
      exact b_retM hx hb hr hP hS rfl dX6_readInto_87 hlocks
    · refine lv_aload_n hx hb dX6_readInto_68 rfl (lv_at hl 0 rfl) ?_
      refine lv_aload_n hx hb dX6_readInto_69 rfl (lv_at hl 0 rfl) ?_
      refine va_get (D := D) (ci := 6) (v := .int Qz.1.2) (C := RX6) (T := TX6) (N := 5) hx hb hts u_X6_readInto_X6 hown hK.1 hP 0 rfl rfl 4 (by decide) (hts (.fieldLink RX6 25 "NoticeWeek$Tape" "flaw" "I") (List.mem_of_getElem? (i := 2) rfl)) (fun _ h9 => h9) rfl dX6_readInto_70 ?_
      refine b_put (C := RX6) (T := TX6) (N := 5) hx hb hts u_X6_readInto_X6 tyX6 tyX6_ok nmX6 hown hK hP hD hS 0 rfl rfl 2 (by decide) (hts (.fieldLink RX6 19 "NoticeWeek$Tape" "latestFault" "I") (List.mem_of_getElem? (i := 4) rfl)) rfl (by decide +kernel) (Nat.le_of_ble_eq_true rfl) dX6_readInto_73 (fun H locs hP hS => ?_)
      have hP : va_P D vwCl (wTape cI pa (nI 0) Qz.1.2 (nI Qz.1.1) Qz.1.2 bt ++ wTown cI ta 0 0 q16.1 (nI Qz.2.1) Qz.2.2.1 Qz.2.2.2.1 Qz.2.2.2.2.1 Qz.2.2.2.2.2) H := hP
      have hD : va_D A (wTape cI pa (nI 0) Qz.1.2 (nI Qz.1.1) Qz.1.2 bt ++ wTown cI ta 0 0 q16.1 (nI Qz.2.1) Qz.2.2.1 Qz.2.2.2.1 Qz.2.2.2.2.1 Qz.2.2.2.2.2) := hD.sameA [(pa 0), (pa 1), (ta 0), (ta 1), (ta 2), (ta 3), (ta 4)] rfl rfl
      refine lv_aload_n hx hb dX6_readInto_76 rfl (lv_at hl 0 rfl) ?_
      refine va_get (D := D) (ci := 6) (v := .int (nI (Qz.1.1))) (C := RX6) (T := TX6) (N := 5) hx hb hts u_X6_readInto_X6 hown hK.1 hP 0 rfl rfl 3 (by decide) (hts (.fieldLink RX6 22 "NoticeWeek$Tape" "at" "I") (List.mem_of_getElem? (i := 1) rfl)) (fun _ h9 => h9) rfl dX6_readInto_77 ?_
      have E : x_into bt t tf kd dd nt lf = ((nI (Qz.1.1)), Qz.1.2, 0, q16.1, Qz) := (by unfold x_into; rw [eq16, eqz, if_neg c2])
      rw [E]
      exact b_retM hx hb hr hP hS rfl dX6_readInto_80 hlocks
  · refine b_loopM (N := 7) (I := fun k ls H locs => lv_has ls 3 [(2, .int (nI (k))), (0, .ref (pa 0)), (1, .ref (ta 0))] ∧ va_P D vwCl (wTape cI pa (nI t) tf (nI (rI bt t q16.2 kd dd nt lf k).1.1) ((rI bt t q16.2 kd dd nt lf k).1.2) bt ++ wTown cI ta 0 0 q16.1 (nI (rI bt t q16.2 kd dd nt lf k).2.1) ((rI bt t q16.2 kd dd nt lf k).2.2.1) ((rI bt t q16.2 kd dd nt lf k).2.2.2.1) ((rI bt t q16.2 kd dd nt lf k).2.2.2.2.1) ((rI bt t q16.2 kd dd nt lf k).2.2.2.2.2)) H ∧ va_S A s.heap H locs) (fun k hk ih3 ls H locs hI => ?_) 0 (by omega) ⟨lv_sub hl [0, 1, 2] rfl, hP, hS⟩
    obtain ⟨hl, hP, hS⟩ := hI
    have hl : lv_has ls 3 [(2, .int (nI (k))), (0, .ref (pa 0)), (1, .ref (ta 0))] := hl
    have hP : va_P D vwCl (wTape cI pa (nI t) tf (nI (rI bt t q16.2 kd dd nt lf k).1.1) ((rI bt t q16.2 kd dd nt lf k).1.2) bt ++ wTown cI ta 0 0 q16.1 (nI (rI bt t q16.2 kd dd nt lf k).2.1) ((rI bt t q16.2 kd dd nt lf k).2.2.1) ((rI bt t q16.2 kd dd nt lf k).2.2.2.1) ((rI bt t q16.2 kd dd nt lf k).2.2.2.2.1) ((rI bt t q16.2 kd dd nt lf k).2.2.2.2.2)) H := hP
    have hD : va_D A (wTape cI pa (nI t) tf (nI (rI bt t q16.2 kd dd nt lf k).1.1) ((rI bt t q16.2 kd dd nt lf k).1.2) bt ++ wTown cI ta 0 0 q16.1 (nI (rI bt t q16.2 kd dd nt lf k).2.1) ((rI bt t q16.2 kd dd nt lf k).2.2.1) ((rI bt t q16.2 kd dd nt lf k).2.2.2.1) ((rI bt t q16.2 kd dd nt lf k).2.2.2.2.1) ((rI bt t q16.2 kd dd nt lf k).2.2.2.2.2)) := hD.sameA [(pa 0), (pa 1), (ta 0), (ta 1), (ta 2), (ta 3), (ta 4)] rfl rfl
    refine lv_iload_n hx hb dX6_readInto_21 rfl (lv_at hl 0 rfl) ?_
    refine lv_bipush (v := (nI 6)) hx hb dX6_readInto_22 (by decide) ?_
    refine b_gt (tgt := 56) hx hb (by omega) (by omega) dX6_readInto_24 (by decide) (fun c4 => ?_) (fun c4 => ?_)
    · have e7 : (rI bt t q16.2 kd dd nt lf k) = (rI bt t q16.2 kd dd nt lf 7) := by first | (have h7 : k = 7 := (by omega); rw [h7]) | exact rI_stop7 (by omega) (fun z => c4 z.1) | exact rI_stop7 (by omega) (fun z => absurd z.2 (Nat.not_lt.mpr c4))
      rw [e7] at hP
      exact K1 ls H locs ⟨lv_sub hl [1, 2] rfl, hP, hS⟩
    · have hle := rI_le (bt := bt) (kd := kd) (dd := dd) (nt := nt) (lf := lf) h16 k
      refine lv_aload_n hx hb dX6_readInto_27 rfl (lv_at hl 1 rfl) ?_
      refine va_get (D := D) (ci := 6) (v := .int ((rI bt t q16.2 kd dd nt lf k).1.2)) (C := RX6) (T := TX6) (N := 5) hx hb hts u_X6_readInto_X6 hown hK.1 hP 0 rfl rfl 4 (by decide) (hts (.fieldLink RX6 25 "NoticeWeek$Tape" "flaw" "I") (List.mem_of_getElem? (i := 2) rfl)) (fun _ h9 => h9) rfl dX6_readInto_28 ?_
      refine lv_if_ne (tgt := 56) hx hb dX6_readInto_31 (by decide) (fun c5 => ?_) (fun c5 => ?_)
      · have e7 : (rI bt t q16.2 kd dd nt lf k) = (rI bt t q16.2 kd dd nt lf 7) := by first | (have h7 : k = 7 := (by omega); rw [h7]) | exact rI_stop7 (by omega) (fun z => c5 z.1) | exact rI_stop7 (by omega) (fun z => absurd z.2 (Nat.not_lt.mpr c5))
        rw [e7] at hP
        exact K1 ls H locs ⟨lv_sub hl [1, 2] rfl, hP, hS⟩
      · refine lv_aload_n hx hb dX6_readInto_34 rfl (lv_at hl 1 rfl) ?_
        refine va_get (D := D) (ci := 6) (v := .int (nI ((rI bt t q16.2 kd dd nt lf k).1.1))) (C := RX6) (T := TX6) (N := 5) hx hb hts u_X6_readInto_X6 hown hK.1 hP 0 rfl rfl 3 (by decide) (hts (.fieldLink RX6 22 "NoticeWeek$Tape" "at" "I") (List.mem_of_getElem? (i := 1) rfl)) (fun _ h9 => h9) rfl dX6_readInto_35 ?_
        refine lv_aload_n hx hb dX6_readInto_38 rfl (lv_at hl 1 rfl) ?_
        refine va_get (D := D) (ci := 6) (v := .int (nI (t))) (C := RX6) (T := TX6) (N := 5) hx hb hts u_X6_readInto_X6 hown hK.1 hP 0 rfl rfl 1 (by decide) (hts (.fieldLink RX6 15 "NoticeWeek$Tape" "length" "I") (List.mem_of_getElem? (i := 3) rfl)) (fun _ h9 => h9) rfl dX6_readInto_39 ?_
        refine b_ge (tgt := 56) hx hb (by omega) (by omega) dX6_readInto_42 (by decide) (fun c6 => ?_) (fun c6 => ?_)
        · have e7 : (rI bt t q16.2 kd dd nt lf k) = (rI bt t q16.2 kd dd nt lf 7) := by first | (have h7 : k = 7 := (by omega); rw [h7]) | exact rI_stop7 (by omega) (fun z => c6 z.1) | exact rI_stop7 (by omega) (fun z => absurd z.2 (Nat.not_lt.mpr c6))
          rw [e7] at hP
          exact K1 ls H locs ⟨lv_sub hl [1, 2] rfl, hP, hS⟩
        · have hgo : (rI bt t q16.2 kd dd nt lf k).1.2 = 0 ∧ (rI bt t q16.2 kd dd nt lf k).1.1 < t := ⟨c5, c6⟩
          refine lv_aload_n hx hb dX6_readInto_45 rfl (lv_at hl 1 rfl) ?_
          refine lv_aload_n hx hb dX6_readInto_46 rfl (lv_at hl 2 rfl) ?_
          refine b_callM [0, 1, 2, 3, 4, 5, 6] (va_runV (As := [.ref (ta 0)]) (rest := []) ⟨hx, hb, hml, hown, hts⟩ (c_X6_readReader l D cI cZ cT pa t tf bt ta 0 0 q16.1 ((rI bt t q16.2 kd dd nt lf k).2.1) ((rI bt t q16.2 kd dd nt lf k).2.2.1) ((rI bt t q16.2 kd dd nt lf k).2.2.2.1) ((rI bt t q16.2 kd dd nt lf k).2.2.2.2.1) ((rI bt t q16.2 kd dd nt lf k).2.2.2.2.2) ((rI bt t q16.2 kd dd nt lf k).1) ht hle.1 hle.2) (cwV 1 hts gX6_readInto_X6_readReader rfl rfl rfl (by decide +kernel) ⟨(Nat.le_of_ble_eq_true rfl), (Nat.le_of_ble_eq_true rfl)⟩) (b_pVM hK hP hD [0, 1, 2, 3, 4, 5, 6] (by decide) rfl rfl 0 rfl rfl) rfl rfl hl.1 rfl (lv_room (Nat.le_of_ble_eq_true rfl)) dX6_readInto_47 ⟨Nat.zero_le _, Nat.zero_le _⟩).run hP hD hS rfl (Nat.le_of_ble_eq_true rfl) (fun H locs hP hS => ?_)
          have hP : va_P D vwCl (wTape cI pa (nI t) tf (nI (rRd bt t ((rI bt t q16.2 kd dd nt lf k).1) ((rI bt t q16.2 kd dd nt lf k).2.1) ((rI bt t q16.2 kd dd nt lf k).2.2.1) ((rI bt t q16.2 kd dd nt lf k).2.2.2.1) ((rI bt t q16.2 kd dd nt lf k).2.2.2.2.1) ((rI bt t q16.2 kd dd nt lf k).2.2.2.2.2)).1.1) ((rRd bt t ((rI bt t q16.2 kd dd nt lf k).1) ((rI bt t q16.2 kd dd nt lf k).2.1) ((rI bt t q16.2 kd dd nt lf k).2.2.1) ((rI bt t q16.2 kd dd nt lf k).2.2.2.1) ((rI bt t q16.2 kd dd nt lf k).2.2.2.2.1) ((rI bt t q16.2 kd dd nt lf k).2.2.2.2.2)).1.2) bt ++ wTown cI ta 0 0 q16.1 (nI (rRd bt t ((rI bt t q16.2 kd dd nt lf k).1) ((rI bt t q16.2 kd dd nt lf k).2.1) ((rI bt t q16.2 kd dd nt lf k).2.2.1) ((rI bt t q16.2 kd dd nt lf k).2.2.2.1) ((rI bt t q16.2 kd dd nt lf k).2.2.2.2.1) ((rI bt t q16.2 kd dd nt lf k).2.2.2.2.2)).2.1) ((rRd bt t ((rI bt t q16.2 kd dd nt lf k).1) ((rI bt t q16.2 kd dd nt lf k).2.1) ((rI bt t q16.2 kd dd nt lf k).2.2.1) ((rI bt t q16.2 kd dd nt lf k).2.2.2.1) ((rI bt t q16.2 kd dd nt lf k).2.2.2.2.1) ((rI bt t q16.2 kd dd nt lf k).2.2.2.2.2)).2.2.1) ((rRd bt t ((rI bt t q16.2 kd dd nt lf k).1) ((rI bt t q16.2 kd dd nt lf k).2.1) ((rI bt t q16.2 kd dd nt lf k).2.2.1) ((rI bt t q16.2 kd dd nt lf k).2.2.2.1) ((rI bt t q16.2 kd dd nt lf k).2.2.2.2.1) ((rI bt t q16.2 kd dd nt lf k).2.2.2.2.2)).2.2.2.1) ((rRd bt t ((rI bt t q16.2 kd dd nt lf k).1) ((rI bt t q16.2 kd dd nt lf k).2.1) ((rI bt t q16.2 kd dd nt lf k).2.2.1) ((rI bt t q16.2 kd dd nt lf k).2.2.2.1) ((rI bt t q16.2 kd dd nt lf k).2.2.2.2.1) ((rI bt t q16.2 kd dd nt lf k).2.2.2.2.2)).2.2.2.2.1) ((rRd bt t ((rI bt t q16.2 kd dd nt lf k).1) ((rI bt t q16.2 kd dd nt lf k).2.1) ((rI bt t q16.2 kd dd nt lf k).2.2.1) ((rI bt t q16.2 kd dd nt lf k).2.2.2.1) ((rI bt t q16.2 kd dd nt lf k).2.2.2.2.1) ((rI bt t q16.2 kd dd nt lf k).2.2.2.2.2)).2.2.2.2.2)) H := hP
          generalize eq47 : rRd bt t ((rI bt t q16.2 kd dd nt lf k).1) ((rI bt t q16.2 kd dd nt lf k).2.1) ((rI bt t q16.2 kd dd nt lf k).2.2.1) ((rI bt t q16.2 kd dd nt lf k).2.2.2.1) ((rI bt t q16.2 kd dd nt lf k).2.2.2.2.1) ((rI bt t q16.2 kd dd nt lf k).2.2.2.2.2) = q47 at hP ⊢
          have hP : va_P D vwCl (wTape cI pa (nI t) tf (nI q47.1.1) q47.1.2 bt ++ wTown cI ta 0 0 q16.1 (nI q47.2.1) q47.2.2.1 q47.2.2.2.1 q47.2.2.2.2.1 q47.2.2.2.2.2) H := hP
          have hD : va_D A (wTape cI pa (nI t) tf (nI q47.1.1) q47.1.2 bt ++ wTown cI ta 0 0 q16.1 (nI q47.2.1) q47.2.2.1 q47.2.2.2.1 q47.2.2.2.2.1 q47.2.2.2.2.2) := hD.sameA [(pa 0), (pa 1), (ta 0), (ta 1), (ta 2), (ta 3), (ta 4)] rfl rfl
          have e9 : q47 = (rI bt t q16.2 kd dd nt lf (k + 1)) := by rw [← eq47]; exact rI_go hgo
          rw [e9] at hP
          refine lv_iinc (v := (nI (k + 1))) (lv' := [(2, .int (nI (k + 1))), (0, .ref (pa 0)), (1, .ref (ta 0))]) hx hb dX6_readInto_50 hl (k := 0) rfl (nI_add _ _) (by decide) rfl (fun ls hl => ?_)
          refine lv_goto (tgt := 21) hx hb dX6_readInto_53 (by decide) ?_
          exact ih3 (by omega) ls H locs ⟨lv_sub hl [0, 1, 2] rfl, hP, hS⟩
