/-! CLASS: the tape -/
def tSg (bt : Nat → Int32) (t : Nat) (sg : Int32) (z : Nat × Int32) : Nat × Int32 := if z.2 = 0 then (if z.1 < t ∧ bt z.1 = sg then (z.1 + 1, z.2) else (z.1, 1)) else z
theorem u_X6_isFull_X6 : ∀ w ∈ wsX60, w ∈ wsX6_isFull := fun _ h => List.mem_cons_of_mem _ (List.mem_append_right _ h)
set_option maxHeartbeats 4000000 in
set_option maxRecDepth 100000 in
theorem c_X6_isFull (l : Launch) (D : va_G) (cI cZ cT : ClassId) (pa : Nat → Nat) (t : Nat) (tf tat tw : Int32) (bt : Nat → Int32) (ht : t ≤ 120) : Met l yX6_isFull wsX6_isFull ({ frames := 0, cells := 0, slots := 0, locals := 0 }) (pR D cI cZ cT [.ref (pa 0)] (wTape cI pa (nI t) tf tat tw bt)) (QcRead (bI (120 ≤ t))) 0 0 (fun _ => False) := by
  refine Met.ofW (cc := cX6_isFull) (maxL := 1) (ret := (some .boolean)) (by decide) rfl ?_
  intro p e s m args below meth c s₁ B hml hv
  obtain ⟨rfl, hP, hK⟩ := hv
  have hx := B.exec
  have hb := B.bytes
  have hr := B.returns
  have hts := atoms_spec (ws := wsX6_isFull) B.pre
  have hown : s.vm.findClass RX6 = some m.cls := findClass_of_methodNamed B.named
  have hlocks := B.notSynchronized
  have hl := lv_entry ([.ref (pa 0)]) (n := 1) (Nat.le_of_ble_eq_true rfl)
  rw [lg_entry_eq]
  generalize (lg_sl ([.ref (pa 0)]) ++ List.replicate (1 - (lg_sl ([.ref (pa 0)])).length) Slot.unset).toArray = ls at hl ⊢
  have hl : lv_has ls 1 [(0, .ref (pa 0))] := hl
  refine lv_aload_n hx hb dX6_isFull_0 rfl (lv_at hl 0 rfl) ?_
  refine va_get (D := D) (ci := 6) (v := .int (nI (t))) (C := RX6) (T := TX6) (N := 5) hx hb hts u_X6_isFull_X6 hown hK.1 hP 0 rfl rfl 1 (by decide) (hts (.fieldLink RX6 15 "NoticeWeek$Tape" "length" "I") (List.mem_of_getElem? (i := 1) rfl)) (fun _ h9 => h9) rfl dX6_isFull_1 ?_
  refine lv_bipush (v := (nI 120)) hx hb dX6_isFull_4 (by decide) ?_
  refine b_lt (tgt := 13) hx hb (by omega) (by omega) dX6_isFull_6 (by decide) (fun c1 => ?_) (fun c1 => ?_)
  · refine lv_iconst (v := 0) hx hb dX6_isFull_13 (by decide) ?_
    exact b_zret hx hb hr (by unfold bI; first | rw [if_pos c1] | rw [if_neg (by omega)]) dX6_isFull_14 hlocks
  · refine lv_iconst (v := 1) hx hb dX6_isFull_9 (by decide) ?_
    refine lv_goto (tgt := 14) hx hb dX6_isFull_10 (by decide) ?_
    exact b_zret hx hb hr (by unfold bI; first | rw [if_pos c1] | rw [if_neg (by omega)]) dX6_isFull_14 hlocks
theorem u_X6_append_X6 : ∀ w ∈ wsX60, w ∈ wsX6_append := fun _ h => List.mem_cons_of_mem _ (List.mem_append_right _ h)
set_option maxHeartbeats 4000000 in
set_option maxRecDepth 100000 in
theorem c_X6_append (l : Launch) (D : va_G) (cI cZ cT : ClassId) (pa : Nat → Nat) (t : Nat) (tf tat tw : Int32) (bt : Nat → Int32) (b : Int32) (ht : t < 120) : Met l yX6_append wsX6_append ({ frames := 0, cells := 0, slots := 0, locals := 0 }) (pM D cI cZ cT [.ref (pa 0), .int b] (wTape cI pa (nI t) tf tat tw bt)) (qM D (some (.int (nI (t + 1)))) (wTape cI pa (nI (t + 1)) tf tat tw (upd bt t b)) (adr (wTape cI pa (nI t) tf tat tw bt))) 0 0 (adr (wTape cI pa (nI t) tf tat tw bt)) := by
  refine Met.ofW (cc := cX6_append) (maxL := 2) (ret := (some .int)) (by decide) rfl ?_
  intro p e s m args below meth c s₁ B hml hv
  obtain ⟨rfl, hP, hD0, hK⟩ := hv
  have hx := B.exec
  have hb := B.bytes
  have hr := B.returns
  have hts := atoms_spec (ws := wsX6_append) B.pre
  have hown : s.vm.findClass RX6 = some m.cls := findClass_of_methodNamed B.named
  have hlocks := B.notSynchronized
  have hD := hD0.toAdr
  have hS : va_S (adr (wTape cI pa (nI t) tf tat tw bt)) s.heap s.heap [] := va_S.rf
  generalize adr (wTape cI pa (nI t) tf tat tw bt) = A at hD hS ⊢
  have hl := lv_entry ([.ref (pa 0), .int b]) (n := 2) (Nat.le_of_ble_eq_true rfl)
  rw [lg_entry_eq]
  generalize (lg_sl ([.ref (pa 0), .int b]) ++ List.replicate (2 - (lg_sl ([.ref (pa 0), .int b])).length) Slot.unset).toArray = ls at hl ⊢
  have hl : lv_has ls 2 [(0, .ref (pa 0)), (1, .int b)] := hl
  refine lv_aload_n hx hb dX6_append_0 rfl (lv_at hl 0 rfl) ?_
  refine va_get (D := D) (ci := 6) (v := .ref (pa 1)) (C := RX6) (T := TX6) (N := 5) hx hb hts u_X6_append_X6 hown hK.1 hP 0 rfl rfl 0 (by decide) (hts (.fieldLink RX6 11 "NoticeWeek$Tape" "bytes" "[I") (List.mem_of_getElem? (i := 1) rfl)) (fun _ h9 => h9) rfl dX6_append_1 ?_
  refine lv_aload_n hx hb dX6_append_4 rfl (lv_at hl 0 rfl) ?_
  refine va_get (D := D) (ci := 6) (v := .int (nI (t))) (C := RX6) (T := TX6) (N := 5) hx hb hts u_X6_append_X6 hown hK.1 hP 0 rfl rfl 1 (by decide) (hts (.fieldLink RX6 15 "NoticeWeek$Tape" "length" "I") (List.mem_of_getElem? (i := 2) rfl)) (fun _ h9 => h9) rfl dX6_append_5 ?_
  refine lv_iload_n hx hb dX6_append_8 rfl (lv_at hl 1 rfl) ?_
  refine b_ast hx hb hK hP hD hS 1 rfl (by omega) (by decide) dX6_append_9 (fun H locs hP hS => ?_)
  have hP : va_P D vwCl (wTape cI pa (nI t) tf tat tw (upd bt t b)) H := hP
  have hD : va_D A (wTape cI pa (nI t) tf tat tw (upd bt t b)) := hD.sameA [(pa 0), (pa 1)] rfl rfl
  refine lv_aload_n hx hb dX6_append_10 rfl (lv_at hl 0 rfl) ?_
  refine lv_dup hx hb dX6_append_11 rfl ?_
  refine va_get (D := D) (ci := 6) (v := .int (nI (t))) (C := RX6) (T := TX6) (N := 5) hx hb hts u_X6_append_X6 hown hK.1 hP 0 rfl rfl 1 (by decide) (hts (.fieldLink RX6 15 "NoticeWeek$Tape" "length" "I") (List.mem_of_getElem? (i := 2) rfl)) (fun _ h9 => h9) rfl dX6_append_12 ?_
  refine lv_iconst (v := (nI 1)) hx hb dX6_append_15 (by decide) ?_
  refine b_add hx hb dX6_append_16 ?_
  refine b_put (C := RX6) (T := TX6) (N := 5) hx hb hts u_X6_append_X6 tyX6 tyX6_ok nmX6 hown hK hP hD hS 0 rfl rfl 1 (by decide) (hts (.fieldLink RX6 15 "NoticeWeek$Tape" "length" "I") (List.mem_of_getElem? (i := 2) rfl)) rfl (by decide +kernel) (Nat.le_of_ble_eq_true rfl) dX6_append_17 (fun H locs hP hS => ?_)
  have hP : va_P D vwCl (wTape cI pa (nI (t + 1)) tf tat tw (upd bt t b)) H := hP
  have hD : va_D A (wTape cI pa (nI (t + 1)) tf tat tw (upd bt t b)) := hD.sameA [(pa 0), (pa 1)] rfl rfl
  refine lv_aload_n hx hb dX6_append_20 rfl (lv_at hl 0 rfl) ?_
  refine va_get (D := D) (ci := 6) (v := .int (nI (t + 1))) (C := RX6) (T := TX6) (N := 5) hx hb hts u_X6_append_X6 hown hK.1 hP 0 rfl rfl 1 (by decide) (hts (.fieldLink RX6 15 "NoticeWeek$Tape" "length" "I") (List.mem_of_getElem? (i := 2) rfl)) (fun _ h9 => h9) rfl dX6_append_21 ?_
  exact b_retM hx hb hr hP hS rfl dX6_append_24 hlocks
set_option maxHeartbeats 4000000 in
set_option maxRecDepth 100000 in
theorem c_X6_isFigure (l : Launch) (D : va_G) (cI cZ cT : ClassId) (x : Int32)  : Met l yX6_isFigure wsX6_isFigure ({ frames := 0, cells := 0, slots := 0, locals := 0 }) (pR D cI cZ cT [.int x] ([])) (QcRead (bI (¬ x < 48 ∧ ¬ 57 < x))) 0 0 (fun _ => False) := by
  refine Met.ofW (cc := cX6_isFigure) (maxL := 1) (ret := (some .boolean)) (by decide) rfl ?_
  intro p e s m args below meth c s₁ B hml hv
  obtain ⟨rfl, hP, hK⟩ := hv
  have hx := B.exec
  have hb := B.bytes
  have hr := B.returns
  have hts := atoms_spec (ws := wsX6_isFigure) B.pre
  have hown : s.vm.findClass RX6 = some m.cls := findClass_of_methodNamed B.named
  have hlocks := B.notSynchronized
  have hl := lv_entry ([.int x]) (n := 1) (Nat.le_of_ble_eq_true rfl)
  rw [lg_entry_eq]
  generalize (lg_sl ([.int x]) ++ List.replicate (1 - (lg_sl ([.int x])).length) Slot.unset).toArray = ls at hl ⊢
  have hl : lv_has ls 1 [(0, .int x)] := hl
  refine lv_iload_n hx hb dX6_isFigure_0 rfl (lv_at hl 0 rfl) ?_
  refine lv_bipush (v := 48) hx hb dX6_isFigure_1 (by decide) ?_
  refine lv_icmp_lt (tgt := 16) hx hb dX6_isFigure_3 (by decide) (fun c1 => ?_) (fun c1 => ?_)
  · refine lv_iconst (v := 0) hx hb dX6_isFigure_16 (by decide) ?_
    exact b_zret hx hb hr (by first | with_reducible rfl | (simp only [bI, eq_true c1, not_true_eq_false, not_false_eq_true, ite_true, ite_false, if_true, if_false, and_self, and_true, true_and, false_and, and_false, or_true, true_or, or_false, false_or]; done) | (simp [bI, eq_true c1]; done) | omega) dX6_isFigure_17 hlocks
  · refine lv_iload_n hx hb dX6_isFigure_6 rfl (lv_at hl 0 rfl) ?_
    refine lv_bipush (v := 57) hx hb dX6_isFigure_7 (by decide) ?_
    refine lv_icmp_gt (tgt := 16) hx hb dX6_isFigure_9 (by decide) (fun c2 => ?_) (fun c2 => ?_)
    · refine lv_iconst (v := 0) hx hb dX6_isFigure_16 (by decide) ?_
      exact b_zret hx hb hr (by first | with_reducible rfl | (simp only [bI, eq_false c1, eq_true c2, not_true_eq_false, not_false_eq_true, ite_true, ite_false, if_true, if_false, and_self, and_true, true_and, false_and, and_false, or_true, true_or, or_false, false_or]; done) | (simp [bI, eq_false c1, eq_true c2]; done) | omega) dX6_isFigure_17 hlocks
    · refine lv_iconst (v := 1) hx hb dX6_isFigure_12 (by decide) ?_
      refine lv_goto (tgt := 17) hx hb dX6_isFigure_13 (by decide) ?_
      exact b_zret hx hb hr (by first | with_reducible rfl | (simp only [bI, eq_false c1, eq_false c2, not_true_eq_false, not_false_eq_true, ite_true, ite_false, if_true, if_false, and_self, and_true, true_and, false_and, and_false, or_true, true_or, or_false, false_or]; done) | (simp [bI, eq_false c1, eq_false c2]; done) | omega) dX6_isFigure_17 hlocks
theorem u_X6_takeSign_X6 : ∀ w ∈ wsX60, w ∈ wsX6_takeSign := fun _ h => List.mem_cons_of_mem _ (List.mem_append_right _ h)
set_option maxHeartbeats 4000000 in
set_option maxRecDepth 100000 in
theorem c_X6_takeSign (l : Launch) (D : va_G) (cI cZ cT : ClassId) (pa : Nat → Nat) (t : Nat) (tf : Int32) (bt : Nat → Int32) (σ : Nat × Int32) (sg : Int32) (ht : t ≤ 120) (ha : σ.1 ≤ t) : Met l yX6_takeSign wsX6_takeSign ({ frames := 0, cells := 0, slots := 0, locals := 0 }) (pM D cI cZ cT [.ref (pa 0), .int sg] (wTape cI pa (nI t) tf (nI σ.1) σ.2 bt)) (qM D none (wTape cI pa (nI t) tf (nI (tSg bt t sg σ).1) ((tSg bt t sg σ).2) bt) (adr (wTape cI pa (nI t) tf (nI σ.1) σ.2 bt))) 0 0 (adr (wTape cI pa (nI t) tf (nI σ.1) σ.2 bt)) := by
  refine Met.ofW (cc := cX6_takeSign) (maxL := 2) (ret := none) (by decide) rfl ?_
  intro p e s m args below meth c s₁ B hml hv
  obtain ⟨rfl, hP, hD0, hK⟩ := hv
  have hx := B.exec
  have hb := B.bytes
  have hr := B.returns
  have hts := atoms_spec (ws := wsX6_takeSign) B.pre
  have hown : s.vm.findClass RX6 = some m.cls := findClass_of_methodNamed B.named
  have hlocks := B.notSynchronized
  have hD := hD0.toAdr
  have hS : va_S (adr (wTape cI pa (nI t) tf (nI σ.1) σ.2 bt)) s.heap s.heap [] := va_S.rf
  generalize adr (wTape cI pa (nI t) tf (nI σ.1) σ.2 bt) = A at hD hS ⊢
  have hl := lv_entry ([.ref (pa 0), .int sg]) (n := 2) (Nat.le_of_ble_eq_true rfl)
  rw [lg_entry_eq]
  generalize (lg_sl ([.ref (pa 0), .int sg]) ++ List.replicate (2 - (lg_sl ([.ref (pa 0), .int sg])).length) Slot.unset).toArray = ls at hl ⊢
  have hl : lv_has ls 2 [(0, .ref (pa 0)), (1, .int sg)] := hl
  refine lv_aload_n hx hb dX6_takeSign_0 rfl (lv_at hl 0 rfl) ?_
  refine va_get (D := D) (ci := 6) (v := .int σ.2) (C := RX6) (T := TX6) (N := 5) hx hb hts u_X6_takeSign_X6 hown hK.1 hP 0 rfl rfl 4 (by decide) (hts (.fieldLink RX6 25 "NoticeWeek$Tape" "flaw" "I") (List.mem_of_getElem? (i := 1) rfl)) (fun _ h9 => h9) rfl dX6_takeSign_1 ?_
  refine lv_if_eq (tgt := 8) hx hb dX6_takeSign_4 (by decide) (fun c1 => ?_) (fun c1 => ?_)
  · refine lv_aload_n hx hb dX6_takeSign_8 rfl (lv_at hl 0 rfl) ?_
    refine va_get (D := D) (ci := 6) (v := .int (nI (σ.1))) (C := RX6) (T := TX6) (N := 5) hx hb hts u_X6_takeSign_X6 hown hK.1 hP 0 rfl rfl 3 (by decide) (hts (.fieldLink RX6 22 "NoticeWeek$Tape" "at" "I") (List.mem_of_getElem? (i := 2) rfl)) (fun _ h9 => h9) rfl dX6_takeSign_9 ?_
    refine lv_aload_n hx hb dX6_takeSign_12 rfl (lv_at hl 0 rfl) ?_
    refine va_get (D := D) (ci := 6) (v := .int (nI (t))) (C := RX6) (T := TX6) (N := 5) hx hb hts u_X6_takeSign_X6 hown hK.1 hP 0 rfl rfl 1 (by decide) (hts (.fieldLink RX6 15 "NoticeWeek$Tape" "length" "I") (List.mem_of_getElem? (i := 3) rfl)) (fun _ h9 => h9) rfl dX6_takeSign_13 ?_
    refine b_ge (tgt := 45) hx hb (by omega) (by omega) dX6_takeSign_16 (by decide) (fun c2 => ?_) (fun c2 => ?_)
    · refine lv_aload_n hx hb dX6_takeSign_45 rfl (lv_at hl 0 rfl) ?_
      refine lv_iconst (v := 1) hx hb dX6_takeSign_46 (by decide) ?_
      refine b_put (C := RX6) (T := TX6) (N := 5) hx hb hts u_X6_takeSign_X6 tyX6 tyX6_ok nmX6 hown hK hP hD hS 0 rfl rfl 4 (by decide) (hts (.fieldLink RX6 25 "NoticeWeek$Tape" "flaw" "I") (List.mem_of_getElem? (i := 1) rfl)) rfl (by decide +kernel) (Nat.le_of_ble_eq_true rfl) dX6_takeSign_47 (fun H locs hP hS => ?_)
      have hP : va_P D vwCl (wTape cI pa (nI t) tf (nI σ.1) 1 bt) H := hP
      have hD : va_D A (wTape cI pa (nI t) tf (nI σ.1) 1 bt) := hD.sameA [(pa 0), (pa 1)] rfl rfl
      have E : tSg bt t sg σ = (σ.1, 1) := (by unfold tSg; rw [if_pos c1, if_neg (fun z => absurd z.1 (Nat.not_lt.mpr c2))])
      rw [E]
      exact b_vretM hx hb hr hP hS dX6_takeSign_50 hlocks
    · refine lv_aload_n hx hb dX6_takeSign_19 rfl (lv_at hl 0 rfl) ?_
      refine va_get (D := D) (ci := 6) (v := .ref (pa 1)) (C := RX6) (T := TX6) (N := 5) hx hb hts u_X6_takeSign_X6 hown hK.1 hP 0 rfl rfl 0 (by decide) (hts (.fieldLink RX6 11 "NoticeWeek$Tape" "bytes" "[I") (List.mem_of_getElem? (i := 4) rfl)) (fun _ h9 => h9) rfl dX6_takeSign_20 ?_
      refine lv_aload_n hx hb dX6_takeSign_23 rfl (lv_at hl 0 rfl) ?_
      refine va_get (D := D) (ci := 6) (v := .int (nI (σ.1))) (C := RX6) (T := TX6) (N := 5) hx hb hts u_X6_takeSign_X6 hown hK.1 hP 0 rfl rfl 3 (by decide) (hts (.fieldLink RX6 22 "NoticeWeek$Tape" "at" "I") (List.mem_of_getElem? (i := 2) rfl)) (fun _ h9 => h9) rfl dX6_takeSign_24 ?_
      refine b_ald hx hb hK hP 1 rfl (by omega) (by decide) dX6_takeSign_27 ?_
      refine lv_iload_n hx hb dX6_takeSign_28 rfl (lv_at hl 1 rfl) ?_
      refine lv_icmp_ne (tgt := 45) hx hb dX6_takeSign_29 (by decide) (fun c3 => ?_) (fun c3 => ?_)
      · refine lv_aload_n hx hb dX6_takeSign_45 rfl (lv_at hl 0 rfl) ?_
        refine lv_iconst (v := 1) hx hb dX6_takeSign_46 (by decide) ?_
        refine b_put (C := RX6) (T := TX6) (N := 5) hx hb hts u_X6_takeSign_X6 tyX6 tyX6_ok nmX6 hown hK hP hD hS 0 rfl rfl 4 (by decide) (hts (.fieldLink RX6 25 "NoticeWeek$Tape" "flaw" "I") (List.mem_of_getElem? (i := 1) rfl)) rfl (by decide +kernel) (Nat.le_of_ble_eq_true rfl) dX6_takeSign_47 (fun H locs hP hS => ?_)
        have hP : va_P D vwCl (wTape cI pa (nI t) tf (nI σ.1) 1 bt) H := hP
        have hD : va_D A (wTape cI pa (nI t) tf (nI σ.1) 1 bt) := hD.sameA [(pa 0), (pa 1)] rfl rfl
        have E : tSg bt t sg σ = (σ.1, 1) := (by unfold tSg; rw [if_pos c1, if_neg (fun z => c3 z.2)])
        rw [E]
        exact b_vretM hx hb hr hP hS dX6_takeSign_50 hlocks
      · refine lv_aload_n hx hb dX6_takeSign_32 rfl (lv_at hl 0 rfl) ?_
        refine lv_dup hx hb dX6_takeSign_33 rfl ?_
        refine va_get (D := D) (ci := 6) (v := .int (nI (σ.1))) (C := RX6) (T := TX6) (N := 5) hx hb hts u_X6_takeSign_X6 hown hK.1 hP 0 rfl rfl 3 (by decide) (hts (.fieldLink RX6 22 "NoticeWeek$Tape" "at" "I") (List.mem_of_getElem? (i := 2) rfl)) (fun _ h9 => h9) rfl dX6_takeSign_34 ?_
        refine lv_iconst (v := (nI 1)) hx hb dX6_takeSign_37 (by decide) ?_
        refine b_add hx hb dX6_takeSign_38 ?_
        refine b_put (C := RX6) (T := TX6) (N := 5) hx hb hts u_X6_takeSign_X6 tyX6 tyX6_ok nmX6 hown hK hP hD hS 0 rfl rfl 3 (by decide) (hts (.fieldLink RX6 22 "NoticeWeek$Tape" "at" "I") (List.mem_of_getElem? (i := 2) rfl)) rfl (by decide +kernel) (Nat.le_of_ble_eq_true rfl) dX6_takeSign_39 (fun H locs hP hS => ?_)
        have hP : va_P D vwCl (wTape cI pa (nI t) tf (nI (σ.1 + 1)) σ.2 bt) H := hP
        have hD : va_D A (wTape cI pa (nI t) tf (nI (σ.1 + 1)) σ.2 bt) := hD.sameA [(pa 0), (pa 1)] rfl rfl
        refine lv_goto (tgt := 50) hx hb dX6_takeSign_42 (by decide) ?_
        have E : tSg bt t sg σ = (σ.1 + 1, σ.2) := (by unfold tSg; rw [if_pos c1, if_pos ⟨c2, c3⟩])
        rw [E]
        exact b_vretM hx hb hr hP hS dX6_takeSign_50 hlocks
  · have E : tSg bt t sg σ = σ := (by unfold tSg; rw [if_neg c1])
    rw [E]
    exact b_vretM hx hb hr hP hS dX6_takeSign_7 hlocks
