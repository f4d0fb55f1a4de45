/-! CLASS: the tape, fourth -/
abbrev TwT := Nat × (Nat → Int32) × (Nat → Int32) × (Nat → Int32) × (Nat → Int32)
def rB (bt : Nat → Int32) (t : Nat) (z : Nat × Int32) : (Int32 × Int32 × Int32) × (Nat × Int32) :=
  ((tNm bt t 63 z).1, (tNm bt t 63 (tSg bt t 44 (tNm bt t 63 z).2)).1, (tNm bt t 60 (tSg bt t 44 (tNm bt t 63 (tSg bt t 44 (tNm bt t 63 z).2)).2)).1, tSg bt t 59 (tNm bt t 60 (tSg bt t 44 (tNm bt t 63 (tSg bt t 44 (tNm bt t 63 z).2)).2)).2) |> fun q => ((q.1, q.2.1, q.2.2.1), q.2.2.2)
def rRk (bt : Nat → Int32) (t a : Nat) : Int32 := if a < t then kSF (bt a) else 0
def rRd (bt : Nat → Int32) (t : Nat) (z : Nat × Int32) (n : Nat) (kd dd nt lf : Nat → Int32) : (Nat × Int32) × TwT :=
  if rRk bt t z.1 = 0 then ((z.1, 1), (n, kd, dd, nt, lf)) else if 6 ≤ n then ((z.1, 3), (n, kd, dd, nt, lf)) else ((rB bt t (z.1 + 1, z.2)).2, if (rB bt t (z.1 + 1, z.2)).2.2 = 0 then t_add n kd dd nt lf (rRk bt t z.1) (rB bt t (z.1 + 1, z.2)).1.1 (rB bt t (z.1 + 1, z.2)).1.2.1 (rB bt t (z.1 + 1, z.2)).1.2.2 else (n, kd, dd, nt, lf))
theorem u_X6_readReader_X6 : ∀ w ∈ wsX60, w ∈ wsX6_readReader := fun _ h => List.mem_cons_of_mem _ (List.mem_append_left _ (List.mem_append_right _ h))
theorem u_X6_readReader_X8 : ∀ w ∈ wsX80, w ∈ wsX6_readReader := fun _ h => List.mem_cons_of_mem _ (List.mem_append_right _ h)
set_option maxHeartbeats 4000000 in
set_option maxRecDepth 100000 in
theorem c_X6_readReader (l : Launch) (D : va_G) (cI cZ cT : ClassId) (pa : Nat → Nat) (t : Nat) (tf : Int32) (bt : Nat → Int32) (ta : Nat → Nat) (st dy ln : Int32) (n : Nat) (kd dd nt lf : Nat → Int32) (σ : Nat × Int32) (ht : t ≤ 120) (ha : σ.1 ≤ t) (hn : n ≤ 6) : Met l yX6_readReader wsX6_readReader ({ frames := 2, cells := 0, slots := 0, locals := 43 }) (pM D cI cZ cT [.ref (pa 0), .ref (ta 0)] (wTape cI pa (nI t) tf (nI σ.1) σ.2 bt ++ wTown cI ta st dy ln (nI n) kd dd nt lf)) (qM D none (wTape cI pa (nI t) tf (nI (rRd bt t σ n kd dd nt lf).1.1) ((rRd bt t σ n kd dd nt lf).1.2) bt ++ wTown cI ta st dy ln (nI (rRd bt t σ n kd dd nt lf).2.1) ((rRd bt t σ n kd dd nt lf).2.2.1) ((rRd bt t σ n kd dd nt lf).2.2.2.1) ((rRd bt t σ n kd dd nt lf).2.2.2.2.1) ((rRd bt t σ n kd dd nt lf).2.2.2.2.2)) (adr (wTape cI pa (nI t) tf (nI σ.1) σ.2 bt ++ wTown cI ta st dy ln (nI n) kd dd nt lf))) 0 0 (adr (wTape cI pa (nI t) tf (nI σ.1) σ.2 bt ++ wTown cI ta st dy ln (nI n) kd dd nt lf)) := by
  refine Met.ofW (cc := cX6_readReader) (maxL := 6) (ret := none) (by decide) rfl ?_
  intro p e s m args below meth c s₁ B hml hv
  obtain ⟨rfl, hP, hD0, hK⟩ := hv
  have hx := B.exec
  have hb := B.bytes
  have hr := B.returns
  have hts := atoms_spec (ws := wsX6_readReader) B.pre
  have hown : s.vm.findClass RX6 = some m.cls := findClass_of_methodNamed B.named
  have hlocks := B.notSynchronized
  have hD := hD0.toAdr
  have hS : va_S (adr (wTape cI pa (nI t) tf (nI σ.1) σ.2 bt ++ wTown cI ta st dy ln (nI n) kd dd nt lf)) s.heap s.heap [] := va_S.rf
  generalize adr (wTape cI pa (nI t) tf (nI σ.1) σ.2 bt ++ wTown cI ta st dy ln (nI n) kd dd nt lf) = A at hD hS ⊢
  have hl := lv_entry ([.ref (pa 0), .ref (ta 0)]) (n := 6) (Nat.le_of_ble_eq_true rfl)
  rw [lg_entry_eq]
  generalize (lg_sl ([.ref (pa 0), .ref (ta 0)]) ++ List.replicate (6 - (lg_sl ([.ref (pa 0), .ref (ta 0)])).length) Slot.unset).toArray = ls at hl ⊢
  have hl : lv_has ls 6 [(0, .ref (pa 0)), (1, .ref (ta 0))] := hl
  refine lv_aload_n hx hb dX6_readReader_0 rfl (lv_at hl 0 rfl) ?_
  refine va_get (D := D) (ci := 6) (v := .int (nI (σ.1))) (C := RX6) (T := TX6) (N := 5) hx hb hts u_X6_readReader_X6 hown hK.1 hP 0 rfl rfl 3 (by decide) (hts (.fieldLink RX6 22 "NoticeWeek$Tape" "at" "I") (List.mem_of_getElem? (i := 1) rfl)) (fun _ h9 => h9) rfl dX6_readReader_1 ?_
  refine lv_aload_n hx hb dX6_readReader_4 rfl (lv_at hl 0 rfl) ?_
  refine va_get (D := D) (ci := 6) (v := .int (nI (t))) (C := RX6) (T := TX6) (N := 5) hx hb hts u_X6_readReader_X6 hown hK.1 hP 0 rfl rfl 1 (by decide) (hts (.fieldLink RX6 15 "NoticeWeek$Tape" "length" "I") (List.mem_of_getElem? (i := 2) rfl)) (fun _ h9 => h9) rfl dX6_readReader_5 ?_
  refine b_ge (tgt := 26) hx hb (by omega) (by omega) dX6_readReader_8 (by decide) (fun c1 => ?_) (fun c1 => ?_)
  · refine lv_iconst (v := 0) hx hb dX6_readReader_26 (by decide) ?_
    refine lv_istore_n (lv' := [(2, .int 0), (0, .ref (pa 0)), (1, .ref (ta 0))]) hx hb dX6_readReader_27 rfl hl (by decide) rfl (fun ls hl => ?_)
    refine lv_iload_n hx hb dX6_readReader_28 rfl (lv_at hl 0 rfl) ?_
    refine lv_if_ne (tgt := 38) hx hb dX6_readReader_29 (by decide) (fun c2 => absurd c2 (by decide)) (fun c2 => ?_)
    refine lv_aload_n hx hb dX6_readReader_32 rfl (lv_at hl 1 rfl) ?_
    refine lv_iconst (v := 1) hx hb dX6_readReader_33 (by decide) ?_
    refine b_put (C := RX6) (T := TX6) (N := 5) hx hb hts u_X6_readReader_X6 tyX6 tyX6_ok nmX6 hown hK hP hD hS 0 rfl rfl 4 (by decide) (hts (.fieldLink RX6 25 "NoticeWeek$Tape" "flaw" "I") (List.mem_of_getElem? (i := 4) rfl)) rfl (by decide +kernel) (Nat.le_of_ble_eq_true rfl) dX6_readReader_34 (fun H locs hP hS => ?_)
    have hP : va_P D vwCl (wTape cI pa (nI t) tf (nI σ.1) 1 bt ++ wTown cI ta st dy ln (nI n) kd dd nt lf) H := hP
    have hD : va_D A (wTape cI pa (nI t) tf (nI σ.1) 1 bt ++ wTown cI ta st dy ln (nI n) kd dd nt lf) := hD.sameA [(pa 0), (pa 1), (ta 0), (ta 1), (ta 2), (ta 3), (ta 4)] rfl rfl
    have E : rRd bt t σ n kd dd nt lf = ((σ.1, 1), (n, kd, dd, nt, lf)) := (by unfold rRd rRk; rw [if_neg (Nat.not_lt.mpr c1), if_pos rfl])
    rw [E]
    exact b_vretM hx hb hr hP hS dX6_readReader_37 hlocks
  · refine lv_aload_n hx hb dX6_readReader_11 rfl (lv_at hl 0 rfl) ?_
    refine va_get (D := D) (ci := 6) (v := .ref (pa 1)) (C := RX6) (T := TX6) (N := 5) hx hb hts u_X6_readReader_X6 hown hK.1 hP 0 rfl rfl 0 (by decide) (hts (.fieldLink RX6 11 "NoticeWeek$Tape" "bytes" "[I") (List.mem_of_getElem? (i := 3) rfl)) (fun _ h9 => h9) rfl dX6_readReader_12 ?_
    refine lv_aload_n hx hb dX6_readReader_15 rfl (lv_at hl 0 rfl) ?_
    refine va_get (D := D) (ci := 6) (v := .int (nI (σ.1))) (C := RX6) (T := TX6) (N := 5) hx hb hts u_X6_readReader_X6 hown hK.1 hP 0 rfl rfl 3 (by decide) (hts (.fieldLink RX6 22 "NoticeWeek$Tape" "at" "I") (List.mem_of_getElem? (i := 1) rfl)) (fun _ h9 => h9) rfl dX6_readReader_16 ?_
    refine b_ald hx hb hK hP 1 rfl (by omega) (by decide) dX6_readReader_19 ?_
    refine b_call (va_runS (As := [.int (bt σ.1)]) (rest := []) ⟨hx, hb, hml, hown, hts⟩ (c_X6_kindOfSort l D cI cZ cT (bt σ.1)) (va_cwS 1 hts gX6_readReader_X6_kindOfSort rfl rfl rfl (by decide +kernel) ⟨(Nat.le_of_ble_eq_true rfl), (Nat.le_of_ble_eq_true rfl)⟩) (b_pS0 hK) rfl rfl hl.1 rfl (lv_room (Nat.le_of_ble_eq_true rfl)) dX6_readReader_20 ⟨Nat.zero_le _, Nat.zero_le _⟩).run ?_
    refine lv_goto (tgt := 27) hx hb dX6_readReader_23 (by decide) ?_
    refine lv_topi (fun x3 ex3 => ?_)
    refine lv_istore_n (lv' := [(2, .int x3), (0, .ref (pa 0)), (1, .ref (ta 0))]) hx hb dX6_readReader_27 rfl hl (by decide) rfl (fun ls hl => ?_)
    refine lv_iload_n hx hb dX6_readReader_28 rfl (lv_at hl 0 rfl) ?_
    refine lv_if_ne (tgt := 38) hx hb dX6_readReader_29 (by decide) (fun c4 => ?_) (fun c4 => ?_)
    · refine lv_aload_n hx hb dX6_readReader_38 rfl (lv_at hl 2 rfl) ?_
      refine va_get (D := D) (ci := 7) (v := .int (nI (n))) (C := RX8) (T := TX8) (N := 8) hx hb hts u_X6_readReader_X8 hown hK.1 hP 2 rfl rfl 3 (by decide) (hts (.fieldLink RX6 58 "NoticeWeek$Town" "readers" "I") (List.mem_of_getElem? (i := 5) rfl)) (fun _ h9 => h9) rfl dX6_readReader_39 ?_
      refine lv_bipush (v := (nI 6)) hx hb dX6_readReader_42 (by decide) ?_
      refine b_lt (tgt := 53) hx hb (by omega) (by omega) dX6_readReader_44 (by decide) (fun c5 => ?_) (fun c5 => ?_)
      · refine lv_aload_n hx hb dX6_readReader_53 rfl (lv_at hl 1 rfl) ?_
        refine lv_dup hx hb dX6_readReader_54 rfl ?_
        refine va_get (D := D) (ci := 6) (v := .int (nI (σ.1))) (C := RX6) (T := TX6) (N := 5) hx hb hts u_X6_readReader_X6 hown hK.1 hP 0 rfl rfl 3 (by decide) (hts (.fieldLink RX6 22 "NoticeWeek$Tape" "at" "I") (List.mem_of_getElem? (i := 1) rfl)) (fun _ h9 => h9) rfl dX6_readReader_55 ?_
        refine lv_iconst (v := (nI 1)) hx hb dX6_readReader_58 (by decide) ?_
        refine b_add hx hb dX6_readReader_59 ?_
        refine b_put (C := RX6) (T := TX6) (N := 5) hx hb hts u_X6_readReader_X6 tyX6 tyX6_ok nmX6 hown hK hP hD hS 0 rfl rfl 3 (by decide) (hts (.fieldLink RX6 22 "NoticeWeek$Tape" "at" "I") (List.mem_of_getElem? (i := 1) rfl)) rfl (by decide +kernel) (Nat.le_of_ble_eq_true rfl) dX6_readReader_60 (fun H locs hP hS => ?_)
        have hP : va_P D vwCl (wTape cI pa (nI t) tf (nI (σ.1 + 1)) σ.2 bt ++ wTown cI ta st dy ln (nI n) kd dd nt lf) H := hP
        have hD : va_D A (wTape cI pa (nI t) tf (nI (σ.1 + 1)) σ.2 bt ++ wTown cI ta st dy ln (nI n) kd dd nt lf) := hD.sameA [(pa 0), (pa 1), (ta 0), (ta 1), (ta 2), (ta 3), (ta 4)] rfl rfl
        refine lv_aload_n hx hb dX6_readReader_63 rfl (lv_at hl 1 rfl) ?_
        refine lv_bipush (v := 63) hx hb dX6_readReader_64 (by decide) ?_
        refine b_callM [0, 1] (va_runV (As := [.int 63]) (rest := []) ⟨hx, hb, hml, hown, hts⟩ (c_X6_takeNumber l D cI cZ cT pa t tf bt (σ.1 + 1, σ.2) 63 ht (show σ.1 + 1 ≤ t by omega)) (cwV 1 hts gX6_readReader_X6_takeNumber rfl rfl rfl (by decide +kernel) ⟨(Nat.le_of_ble_eq_true rfl), (Nat.le_of_ble_eq_true rfl)⟩) (b_pVM hK hP hD [0, 1] (by decide) rfl rfl 0 rfl rfl) rfl rfl hl.1 rfl (lv_room (Nat.le_of_ble_eq_true rfl)) dX6_readReader_66 ⟨Nat.zero_le _, Nat.zero_le _⟩).run hP hD hS rfl (Nat.le_of_ble_eq_true rfl) (fun H locs hP hS => ?_)
        have hP : va_P D vwCl (wTape cI pa (nI t) tf (nI (tNm bt t 63 (σ.1 + 1, σ.2)).2.1) ((tNm bt t 63 (σ.1 + 1, σ.2)).2.2) bt ++ wTown cI ta st dy ln (nI n) kd dd nt lf) H := hP
        generalize eq66 : tNm bt t 63 (σ.1 + 1, σ.2) = q66 at hP ⊢
        have hP : va_P D vwCl (wTape cI pa (nI t) tf (nI q66.2.1) q66.2.2 bt ++ wTown cI ta st dy ln (nI n) kd dd nt lf) H := hP
        have hD : va_D A (wTape cI pa (nI t) tf (nI q66.2.1) q66.2.2 bt ++ wTown cI ta st dy ln (nI n) kd dd nt lf) := hD.sameA [(pa 0), (pa 1), (ta 0), (ta 1), (ta 2), (ta 3), (ta 4)] rfl rfl
        have hq66 : q66.2.1 ≤ t := by rw [← eq66]; first | exact tSg_le (show σ.1 + 1 ≤ t by omega) | exact tNm_le (show σ.1 + 1 ≤ t by omega)
        refine lv_istore_n (lv' := [(3, .int q66.1), (2, .int x3), (0, .ref (pa 0)), (1, .ref (ta 0))]) hx hb dX6_readReader_69 rfl hl (by decide) rfl (fun ls hl => ?_)
        refine lv_aload_n hx hb dX6_readReader_70 rfl (lv_at hl 2 rfl) ?_
        refine lv_bipush (v := 44) hx hb dX6_readReader_71 (by decide) ?_
        refine b_callM [0, 1] (va_runV (As := [.int 44]) (rest := []) ⟨hx, hb, hml, hown, hts⟩ (c_X6_takeSign l D cI cZ cT pa t tf bt q66.2 44 ht hq66) (cwV 1 hts gX6_readReader_X6_takeSign rfl rfl rfl (by decide +kernel) ⟨(Nat.le_of_ble_eq_true rfl), (Nat.le_of_ble_eq_true rfl)⟩) (b_pVM hK hP hD [0, 1] (by decide) rfl rfl 0 rfl rfl) rfl rfl hl.1 rfl (lv_room (Nat.le_of_ble_eq_true rfl)) dX6_readReader_73 ⟨Nat.zero_le _, Nat.zero_le _⟩).run hP hD hS rfl (Nat.le_of_ble_eq_true rfl) (fun H locs hP hS => ?_)
        have hP : va_P D vwCl (wTape cI pa (nI t) tf (nI (tSg bt t 44 q66.2).1) ((tSg bt t 44 q66.2).2) bt ++ wTown cI ta st dy ln (nI n) kd dd nt lf) H := hP
        generalize eq73 : tSg bt t 44 q66.2 = q73 at hP ⊢
        have hP : va_P D vwCl (wTape cI pa (nI t) tf (nI q73.1) q73.2 bt ++ wTown cI ta st dy ln (nI n) kd dd nt lf) H := hP
        have hD : va_D A (wTape cI pa (nI t) tf (nI q73.1) q73.2 bt ++ wTown cI ta st dy ln (nI n) kd dd nt lf) := hD.sameA [(pa 0), (pa 1), (ta 0), (ta 1), (ta 2), (ta 3), (ta 4)] rfl rfl
        have hq73 : q73.1 ≤ t := by rw [← eq73]; first | exact tSg_le hq66 | exact tNm_le hq66
        refine lv_aload_n hx hb dX6_readReader_76 rfl (lv_at hl 2 rfl) ?_
        refine lv_bipush (v := 63) hx hb dX6_readReader_77 (by decide) ?_
        refine b_callM [0, 1] (va_runV (As := [.int 63]) (rest := []) ⟨hx, hb, hml, hown, hts⟩ (c_X6_takeNumber l D cI cZ cT pa t tf bt q73 63 ht hq73) (cwV 1 hts gX6_readReader_X6_takeNumber rfl rfl rfl (by decide +kernel) ⟨(Nat.le_of_ble_eq_true rfl), (Nat.le_of_ble_eq_true rfl)⟩) (b_pVM hK hP hD [0, 1] (by decide) rfl rfl 0 rfl rfl) rfl rfl hl.1 rfl (lv_room (Nat.le_of_ble_eq_true rfl)) dX6_readReader_79 ⟨Nat.zero_le _, Nat.zero_le _⟩).run hP hD hS rfl (Nat.le_of_ble_eq_true rfl) (fun H locs hP hS => ?_)
        have hP : va_P D vwCl (wTape cI pa (nI t) tf (nI (tNm bt t 63 q73).2.1) ((tNm bt t 63 q73).2.2) bt ++ wTown cI ta st dy ln (nI n) kd dd nt lf) H := hP
        generalize eq79 : tNm bt t 63 q73 = q79 at hP ⊢
        have hP : va_P D vwCl (wTape cI pa (nI t) tf (nI q79.2.1) q79.2.2 bt ++ wTown cI ta st dy ln (nI n) kd dd nt lf) H := hP
        have hD : va_D A (wTape cI pa (nI t) tf (nI q79.2.1) q79.2.2 bt ++ wTown cI ta st dy ln (nI n) kd dd nt lf) := hD.sameA [(pa 0), (pa 1), (ta 0), (ta 1), (ta 2), (ta 3), (ta 4)] rfl rfl
        have hq79 : q79.2.1 ≤ t := by rw [← eq79]; first | exact tSg_le hq73 | exact tNm_le hq73
        refine lv_istore (lv' := [(4, .int q79.1), (3, .int q66.1), (2, .int x3), (0, .ref (pa 0)), (1, .ref (ta 0))]) hx hb dX6_readReader_82 hl (by decide) rfl (fun ls hl => ?_)
        refine lv_aload_n hx hb dX6_readReader_84 rfl (lv_at hl 3 rfl) ?_
        refine lv_bipush (v := 44) hx hb dX6_readReader_85 (by decide) ?_
        refine b_callM [0, 1] (va_runV (As := [.int 44]) (rest := []) ⟨hx, hb, hml, hown, hts⟩ (c_X6_takeSign l D cI cZ cT pa t tf bt q79.2 44 ht hq79) (cwV 1 hts gX6_readReader_X6_takeSign rfl rfl rfl (by decide +kernel) ⟨(Nat.le_of_ble_eq_true rfl), (Nat.le_of_ble_eq_true rfl)⟩) (b_pVM hK hP hD [0, 1] (by decide) rfl rfl 0 rfl rfl) rfl rfl hl.1 rfl (lv_room (Nat.le_of_ble_eq_true rfl)) dX6_readReader_87 ⟨Nat.zero_le _, Nat.zero_le _⟩).run hP hD hS rfl (Nat.le_of_ble_eq_true rfl) (fun H locs hP hS => ?_)
        have hP : va_P D vwCl (wTape cI pa (nI t) tf (nI (tSg bt t 44 q79.2).1) ((tSg bt t 44 q79.2).2) bt ++ wTown cI ta st dy ln (nI n) kd dd nt lf) H := hP
        generalize eq87 : tSg bt t 44 q79.2 = q87 at hP ⊢
        have hP : va_P D vwCl (wTape cI pa (nI t) tf (nI q87.1) q87.2 bt ++ wTown cI ta st dy ln (nI n) kd dd nt lf) H := hP
        have hD : va_D A (wTape cI pa (nI t) tf (nI q87.1) q87.2 bt ++ wTown cI ta st dy ln (nI n) kd dd nt lf) := hD.sameA [(pa 0), (pa 1), (ta 0), (ta 1), (ta 2), (ta 3), (ta 4)] rfl rfl
        have hq87 : q87.1 ≤ t := by rw [← eq87]; first | exact tSg_le hq79 | exact tNm_le hq79
        refine lv_aload_n hx hb dX6_readReader_90 rfl (lv_at hl 3 rfl) ?_
        refine lv_bipush (v := 60) hx hb dX6_readReader_91 (by decide) ?_
        refine b_callM [0, 1] (va_runV (As := [.int 60]) (rest := []) ⟨hx, hb, hml, hown, hts⟩ (c_X6_takeNumber l D cI cZ cT pa t tf bt q87 60 ht hq87) (cwV 1 hts gX6_readReader_X6_takeNumber rfl rfl rfl (by decide +kernel) ⟨(Nat.le_of_ble_eq_true rfl), (Nat.le_of_ble_eq_true rfl)⟩) (b_pVM hK hP hD [0, 1] (by decide) rfl rfl 0 rfl rfl) rfl rfl hl.1 rfl (lv_room (Nat.le_of_ble_eq_true rfl)) dX6_readReader_93 ⟨Nat.zero_le _, Nat.zero_le _⟩).run hP hD hS rfl (Nat.le_of_ble_eq_true rfl) (fun H locs hP hS => ?_)
        have hP : va_P D vwCl (wTape cI pa (nI t) tf (nI (tNm bt t 60 q87).2.1) ((tNm bt t 60 q87).2.2) bt ++ wTown cI ta st dy ln (nI n) kd dd nt lf) H := hP
        generalize eq93 : tNm bt t 60 q87 = q93 at hP ⊢
        have hP : va_P D vwCl (wTape cI pa (nI t) tf (nI q93.2.1) q93.2.2 bt ++ wTown cI ta st dy ln (nI n) kd dd nt lf) H := hP
        have hD : va_D A (wTape cI pa (nI t) tf (nI q93.2.1) q93.2.2 bt ++ wTown cI ta st dy ln (nI n) kd dd nt lf) := hD.sameA [(pa 0), (pa 1), (ta 0), (ta 1), (ta 2), (ta 3), (ta 4)] rfl rfl
        have hq93 : q93.2.1 ≤ t := by rw [← eq93]; first | exact tSg_le hq87 | exact tNm_le hq87
        refine lv_istore (lv' := [(5, .int q93.1), (4, .int q79.1), (3, .int q66.1), (2, .int x3), (0, .ref (pa 0)), (1, .ref (ta 0))]) hx hb dX6_readReader_96 hl (by decide) rfl (fun ls hl => ?_)
        refine lv_aload_n hx hb dX6_readReader_98 rfl (lv_at hl 4 rfl) ?_
        refine lv_bipush (v := 59) hx hb dX6_readReader_99 (by decide) ?_
        refine b_callM [0, 1] (va_runV (As := [.int 59]) (rest := []) ⟨hx, hb, hml, hown, hts⟩ (c_X6_takeSign l D cI cZ cT pa t tf bt q93.2 59 ht hq93) (cwV 1 hts gX6_readReader_X6_takeSign rfl rfl rfl (by decide +kernel) ⟨(Nat.le_of_ble_eq_true rfl), (Nat.le_of_ble_eq_true rfl)⟩) (b_pVM hK hP hD [0, 1] (by decide) rfl rfl 0 rfl rfl) rfl rfl hl.1 rfl (lv_room (Nat.le_of_ble_eq_true rfl)) dX6_readReader_101 ⟨Nat.zero_le _, Nat.zero_le _⟩).run hP hD hS rfl (Nat.le_of_ble_eq_true rfl) (fun H locs hP hS => ?_)
        have hP : va_P D vwCl (wTape cI pa (nI t) tf (nI (tSg bt t 59 q93.2).1) ((tSg bt t 59 q93.2).2) bt ++ wTown cI ta st dy ln (nI n) kd dd nt lf) H := hP
        generalize eq101 : tSg bt t 59 q93.2 = q101 at hP ⊢
        have hP : va_P D vwCl (wTape cI pa (nI t) tf (nI q101.1) q101.2 bt ++ wTown cI ta st dy ln (nI n) kd dd nt lf) H := hP
        have hD : va_D A (wTape cI pa (nI t) tf (nI q101.1) q101.2 bt ++ wTown cI ta st dy ln (nI n) kd dd nt lf) := hD.sameA [(pa 0), (pa 1), (ta 0), (ta 1), (ta 2), (ta 3), (ta 4)] rfl rfl
        refine lv_aload_n hx hb dX6_readReader_104 rfl (lv_at hl 4 rfl) ?_
        refine va_get (D := D) (ci := 6) (v := .int q101.2) (C := RX6) (T := TX6) (N := 5) hx hb hts u_X6_readReader_X6 hown hK.1 hP 0 rfl rfl 4 (by decide) (hts (.fieldLink RX6 25 "NoticeWeek$Tape" "flaw" "I") (List.mem_of_getElem? (i := 4) rfl)) (fun _ h9 => h9) rfl dX6_readReader_105 ?_
        refine lv_if_ne (tgt := 121) hx hb dX6_readReader_108 (by decide) (fun c6 => ?_) (fun c6 => ?_)
        · have E : rRd bt t σ n kd dd nt lf = (q101, (n, kd, dd, nt, lf)) := (by subst ex3; unfold rRd rRk; rw [if_pos c1, if_neg c4, if_neg (Nat.not_le.mpr c5)]; unfold rB; rw [eq66, eq73, eq79, eq87, eq93, eq101]; show (_, if q101.2 = 0 then _ else _) = _; rw [if_neg c6])
          rw [E]
          exact b_vretM hx hb hr hP hS dX6_readReader_121 hlocks
        · refine lv_aload_n hx hb dX6_readReader_111 rfl (lv_at hl 5 rfl) ?_
          refine lv_iload_n hx hb dX6_readReader_112 rfl (lv_at hl 3 rfl) ?_
          refine lv_iload_n hx hb dX6_readReader_113 rfl (lv_at hl 2 rfl) ?_
          refine lv_iload hx hb dX6_readReader_114 (lv_at hl 1 rfl) ?_
          refine lv_iload hx hb dX6_readReader_116 (lv_at hl 0 rfl) ?_
          refine b_callM [2, 3, 4, 5, 6] (va_runV (As := [.int x3, .int q66.1, .int q79.1, .int q93.1]) (rest := []) ⟨hx, hb, hml, hown, hts⟩ (c_X8_add l D cI cZ cT ta st dy ln n kd dd nt lf x3 q66.1 q79.1 q93.1 hn) (cwV 4 hts gX6_readReader_X8_add rfl rfl rfl (by decide +kernel) ⟨(Nat.le_of_ble_eq_true rfl), (Nat.le_of_ble_eq_true rfl)⟩) (b_pVM hK hP hD [2, 3, 4, 5, 6] (by decide) rfl rfl 2 rfl rfl) rfl rfl hl.1 rfl (lv_room (Nat.le_of_ble_eq_true rfl)) dX6_readReader_118 ⟨Nat.zero_le _, Nat.zero_le _⟩).run hP hD hS rfl (Nat.le_of_ble_eq_true rfl) (fun H locs hP hS => ?_)
          have hP : va_P D vwCl (wTape cI pa (nI t) tf (nI q101.1) q101.2 bt ++ wTown cI ta st dy ln (nI (t_add n kd dd nt lf x3 q66.1 q79.1 q93.1).1) ((t_add n kd dd nt lf x3 q66.1 q79.1 q93.1).2.1) ((t_add n kd dd nt lf x3 q66.1 q79.1 q93.1).2.2.1) ((t_add n kd dd nt lf x3 q66.1 q79.1 q93.1).2.2.2.1) ((t_add n kd dd nt lf x3 q66.1 q79.1 q93.1).2.2.2.2)) H := hP
          generalize eq118 : t_add n kd dd nt lf x3 q66.1 q79.1 q93.1 = q118 at hP ⊢
          have hP : va_P D vwCl (wTape cI pa (nI t) tf (nI q101.1) q101.2 bt ++ wTown cI ta st dy ln (nI q118.1) q118.2.1 q118.2.2.1 q118.2.2.2.1 q118.2.2.2.2) H := hP
          have hD : va_D A (wTape cI pa (nI t) tf (nI q101.1) q101.2 bt ++ wTown cI ta st dy ln (nI q118.1) q118.2.1 q118.2.2.1 q118.2.2.2.1 q118.2.2.2.2) := hD.sameA [(pa 0), (pa 1), (ta 0), (ta 1), (ta 2), (ta 3), (ta 4)] rfl rfl
          have E : rRd bt t σ n kd dd nt lf = (q101, q118) := (by subst ex3; unfold rRd rRk; rw [if_pos c1, if_neg c4, if_neg (Nat.not_le.mpr c5)]; unfold rB; rw [eq66, eq73, eq79, eq87, eq93, eq101]; show (_, if q101.2 = 0 then _ else _) = _; rw [if_pos c6, eq118])
          rw [E]
          exact b_vretM hx hb hr hP hS dX6_readReader_121 hlocks
      · refine lv_aload_n hx hb dX6_readReader_47 rfl (lv_at hl 1 rfl) ?_
        refine lv_iconst (v := 3) hx hb dX6_readReader_48 (by decide) ?_
        refine b_put (C := RX6) (T := TX6) (N := 5) hx hb hts u_X6_readReader_X6 tyX6 tyX6_ok nmX6 hown hK hP hD hS 0 rfl rfl 4 (by decide) (hts (.fieldLink RX6 25 "NoticeWeek$Tape" "flaw" "I") (List.mem_of_getElem? (i := 4) rfl)) rfl (by decide +kernel) (Nat.le_of_ble_eq_true rfl) dX6_readReader_49 (fun H locs hP hS => ?_)
        have hP : va_P D vwCl (wTape cI pa (nI t) tf (nI σ.1) 3 bt ++ wTown cI ta st dy ln (nI n) kd dd nt lf) H := hP
        have hD : va_D A (wTape cI pa (nI t) tf (nI σ.1) 3 bt ++ wTown cI ta st dy ln (nI n) kd dd nt lf) := hD.sameA [(pa 0), (pa 1), (ta 0), (ta 1), (ta 2), (ta 3), (ta 4)] rfl rfl
        have E : rRd bt t σ n kd dd nt lf = ((σ.1, 3), (n, kd, dd, nt, lf)) := (by subst ex3; unfold rRd rRk; rw [if_pos c1, if_neg c4, if_pos c5])
        rw [E]
        exact b_vretM hx hb hr hP hS dX6_readReader_52 hlocks
    · refine lv_aload_n hx hb dX6_readReader_32 rfl (lv_at hl 1 rfl) ?_
      refine lv_iconst (v := 1) hx hb dX6_readReader_33 (by decide) ?_
      refine b_put (C := RX6) (T := TX6) (N := 5) hx hb hts u_X6_readReader_X6 tyX6 tyX6_ok nmX6 hown hK hP hD hS 0 rfl rfl 4 (by decide) (hts (.fieldLink RX6 25 "NoticeWeek$Tape" "flaw" "I") (List.mem_of_getElem? (i := 4) rfl)) rfl (by decide +kernel) (Nat.le_of_ble_eq_true rfl) dX6_readReader_34 (fun H locs hP hS => ?_)
      have hP : va_P D vwCl (wTape cI pa (nI t) tf (nI σ.1) 1 bt ++ wTown cI ta st dy ln (nI n) kd dd nt lf) H := hP
      have hD : va_D A (wTape cI pa (nI t) tf (nI σ.1) 1 bt ++ wTown cI ta st dy ln (nI n) kd dd nt lf) := hD.sameA [(pa 0), (pa 1), (ta 0), (ta 1), (ta 2), (ta 3), (ta 4)] rfl rfl
      have E : rRd bt t σ n kd dd nt lf = ((σ.1, 1), (n, kd, dd, nt, lf)) := (by subst ex3; unfold rRd rRk; rw [if_pos c1, if_pos c4])
      rw [E]
      exact b_vretM hx hb hr hP hS dX6_readReader_37 hlocks
