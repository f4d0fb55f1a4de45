/-! CLASS: foresight, third: the ways -/
theorem nI_ps {x : Nat} (hx : x ≤ 900) (h : ¬ nI x ≤ 0) : ∃ q, x = q + 1 := by
  rcases x with _ | q
  · exact absurd (by decide) h
  · exact ⟨q, rfl⟩
theorem nI_np {x : Nat} (hx : x ≤ 900) (h : nI x ≤ 0) : x = 0 := by
  have h2 : nI x ≤ nI 0 := h
  rw [i_le, nI_toInt (by omega), nI_toInt (by omega)] at h2
  omega
def arF (t : Int32) (b : Nat) (f : Nat → Int32) (k : Nat) : Nat → Int32 := itr (fun k f => upd f (b - k) (f (b - k) * (10 - t) + f (b - k - 1) * t)) k f
def arW (b : Nat) (t : Int32) (f : Nat → Int32) : Nat → Int32 := upd (arF t b (upd f (b + 1) (f b * t)) b) 0 (arF t b (upd f (b + 1) (f b * t)) b 0 * (10 - t))
abbrev teF (dy : Int32) (kd dd nt lf : Nat → Int32) (cc : Int32) (r : Nat) : Int32 := (if dd r = nt r then cc else 0) + (if dnB (kd r) dy (dd r) (nt r) (min 12 (min 60 (tn (lf r)))) = nt r then 10 - cc else 0)
def wyF (dy : Int32) (kd dd nt lf : Nat → Int32) (cc : Int32) (wy : Nat → Int32) (k : Nat) : Nat → Int32 := itr (fun r f => arW r (teF dy kd dd nt lf cc r) f) k (upd wy 0 1)
def wsF (f : Nat → Int32) (a k : Nat) : Int32 := itr (fun j x => x + f (a + j)) k 0
theorem u_X2_addReader_X2 : ∀ w ∈ wsX20, w ∈ wsX2_addReader := fun _ h => List.mem_cons_of_mem _ (List.mem_append_right _ h)
set_option maxHeartbeats 4000000 in
set_option maxRecDepth 100000 in
theorem c_X2_addReader (l : Launch) (D : va_G) (cI cZ cT : ClassId) (fa : Nat → Nat) (co wy : Nat → Int32) (b : Nat) (tq : Int32) (hb5 : b ≤ 5) : Met l yX2_addReader wsX2_addReader ({ frames := 0, cells := 0, slots := 0, locals := 0 }) (pM D cI cZ cT [.ref (fa 0), .int (nI (b)), .int tq] (wFore cI fa co wy)) (qM D none (wFore cI fa co (arW b tq wy)) (adr (wFore cI fa co wy))) 0 0 (adr (wFore cI fa co wy)) := by
  refine Met.ofW (cc := cX2_addReader) (maxL := 4) (ret := none) (by decide) rfl ?_
  intro p e s m args below meth c s₁ B hml hv
  obtain ⟨rfl, hP, hD0, hK⟩ := hv
  have hx := B.exec
  have hb := B.bytes
  have hr := B.returns
  have hts := atoms_spec (ws := wsX2_addReader) B.pre
  have hown : s.vm.findClass RX2 = some m.cls := findClass_of_methodNamed B.named
  have hlocks := B.notSynchronized
  have hD := hD0.toAdr
  have hS : va_S (adr (wFore cI fa co wy)) s.heap s.heap [] := va_S.rf
  generalize adr (wFore cI fa co wy) = A at hD hS ⊢
  have hl := lv_entry ([.ref (fa 0), .int (nI (b)), .int tq]) (n := 4) (Nat.le_of_ble_eq_true rfl)
  rw [lg_entry_eq]
  generalize (lg_sl ([.ref (fa 0), .int (nI (b)), .int tq]) ++ List.replicate (4 - (lg_sl ([.ref (fa 0), .int (nI (b)), .int tq])).length) Slot.unset).toArray = ls at hl ⊢
  have hl : lv_has ls 4 [(0, .ref (fa 0)), (1, .int (nI (b))), (2, .int tq)] := hl
  refine lv_aload_n hx hb dX2_addReader_0 rfl (lv_at hl 0 rfl) ?_
  refine va_get (D := D) (ci := 2) (v := .ref (fa 7)) (C := RX2) (T := TX2) (N := 7) hx hb hts u_X2_addReader_X2 hown hK.1 hP 0 rfl rfl 6 (by decide) (hts (.fieldLink RX2 46 "NoticeWeek$Foresight" "ways" "[I") (List.mem_of_getElem? (i := 1) rfl)) (fun _ h9 => h9) rfl dX2_addReader_1 ?_
  refine lv_iload_n hx hb dX2_addReader_4 rfl (lv_at hl 1 rfl) ?_
  refine lv_iconst (v := (nI 1)) hx hb dX2_addReader_5 (by decide) ?_
  refine b_add hx hb dX2_addReader_6 ?_
  refine lv_aload_n hx hb dX2_addReader_7 rfl (lv_at hl 0 rfl) ?_
  refine va_get (D := D) (ci := 2) (v := .ref (fa 7)) (C := RX2) (T := TX2) (N := 7) hx hb hts u_X2_addReader_X2 hown hK.1 hP 0 rfl rfl 6 (by decide) (hts (.fieldLink RX2 46 "NoticeWeek$Foresight" "ways" "[I") (List.mem_of_getElem? (i := 1) rfl)) (fun _ h9 => h9) rfl dX2_addReader_8 ?_
  refine lv_iload_n hx hb dX2_addReader_11 rfl (lv_at hl 1 rfl) ?_
  refine b_ald hx hb hK hP 7 rfl (by omega) (by decide) dX2_addReader_12 ?_
  refine lv_iload_n hx hb dX2_addReader_13 rfl (lv_at hl 2 rfl) ?_
  refine lv_imul hx hb dX2_addReader_14 ?_
  refine b_ast hx hb hK hP hD hS 7 rfl (by omega) (by decide) dX2_addReader_15 (fun H locs hP hS => ?_)
  have hP : va_P D vwCl (wFore cI fa co (upd wy (b + 1) ((wy b) * tq))) H := hP
  have hD : va_D A (wFore cI fa co (upd wy (b + 1) ((wy b) * tq))) := hD.sameA [(fa 0), (fa 1), (fa 2), (fa 3), (fa 4), (fa 5), (fa 6), (fa 7)] rfl rfl
  refine lv_iload_n hx hb dX2_addReader_16 rfl (lv_at hl 1 rfl) ?_
  refine lv_istore_n (lv' := [(3, .int (nI (b))), (0, .ref (fa 0)), (1, .int (nI (b))), (2, .int tq)]) hx hb dX2_addReader_17 rfl hl (by decide) rfl (fun ls hl => ?_)
  refine b_loopM (N := b) (I := fun k ls H locs => lv_has ls 4 [(3, .int (nI (b - k))), (0, .ref (fa 0)), (1, .int (nI (b))), (2, .int tq)] ∧ va_P D vwCl (wFore cI fa co (arF tq b (upd wy (b + 1) ((wy b) * tq)) k)) H ∧ va_S A s.heap H locs) (fun k hk ih1 ls H locs hI => ?_) 0 (by omega) ⟨lv_sub hl [0, 1, 2, 3] rfl, hP, hS⟩
  obtain ⟨hl, hP, hS⟩ := hI
  have hl : lv_has ls 4 [(3, .int (nI (b - k))), (0, .ref (fa 0)), (1, .int (nI (b))), (2, .int tq)] := hl
  have hP : va_P D vwCl (wFore cI fa co (arF tq b (upd wy (b + 1) ((wy b) * tq)) k)) H := hP
  have hD : va_D A (wFore cI fa co (arF tq b (upd wy (b + 1) ((wy b) * tq)) k)) := hD.sameA [(fa 0), (fa 1), (fa 2), (fa 3), (fa 4), (fa 5), (fa 6), (fa 7)] rfl rfl
  refine lv_iload_n hx hb dX2_addReader_18 rfl (lv_at hl 0 rfl) ?_
  refine lv_if_le (tgt := 56) hx hb dX2_addReader_19 (by decide) (fun c2 => ?_) (fun c2 => ?_)
  · have hbk := nI_np (by omega) c2
    have h_k : b = k := by omega
    subst h_k
    refine lv_aload_n hx hb dX2_addReader_56 rfl (lv_at hl 1 rfl) ?_
    refine va_get (D := D) (ci := 2) (v := .ref (fa 7)) (C := RX2) (T := TX2) (N := 7) hx hb hts u_X2_addReader_X2 hown hK.1 hP 0 rfl rfl 6 (by decide) (hts (.fieldLink RX2 46 "NoticeWeek$Foresight" "ways" "[I") (List.mem_of_getElem? (i := 1) rfl)) (fun _ h9 => h9) rfl dX2_addReader_57 ?_
    refine lv_iconst (v := (nI 0)) hx hb dX2_addReader_60 (by decide) ?_
    refine lv_dup2_11 hx hb dX2_addReader_61 rfl rfl ?_
    refine b_ald hx hb hK hP 7 rfl (by omega) (by decide) dX2_addReader_62 ?_
    refine lv_bipush (v := 10) hx hb dX2_addReader_63 (by decide) ?_
    refine lv_iload_n hx hb dX2_addReader_65 rfl (lv_at hl 3 rfl) ?_
    refine lv_isub hx hb dX2_addReader_66 ?_
    refine lv_imul hx hb dX2_addReader_67 ?_
    refine b_ast hx hb hK hP hD hS 7 rfl (by omega) (by decide) dX2_addReader_68 (fun H locs hP hS => ?_)
    have hP : va_P D vwCl (wFore cI fa co (upd (arF tq b (upd wy (b + 1) ((wy b) * tq)) b) 0 (((arF tq b (upd wy (b + 1) ((wy b) * tq)) b) 0) * (10 - tq)))) H := hP
    have hD : va_D A (wFore cI fa co (upd (arF tq b (upd wy (b + 1) ((wy b) * tq)) b) 0 (((arF tq b (upd wy (b + 1) ((wy b) * tq)) b) 0) * (10 - tq)))) := hD.sameA [(fa 0), (fa 1), (fa 2), (fa 3), (fa 4), (fa 5), (fa 6), (fa 7)] rfl rfl
    exact b_vretM hx hb hr hP hS dX2_addReader_69 hlocks
  · obtain ⟨q, hq⟩ := nI_ps (by omega) c2
    rw [hq] at hl
    have hl : lv_has ls 4 [(3, .int (nI (q + 1))), (0, .ref (fa 0)), (1, .int (nI (b))), (2, .int tq)] := hl
    refine lv_aload_n hx hb dX2_addReader_22 rfl (lv_at hl 1 rfl) ?_
    refine va_get (D := D) (ci := 2) (v := .ref (fa 7)) (C := RX2) (T := TX2) (N := 7) hx hb hts u_X2_addReader_X2 hown hK.1 hP 0 rfl rfl 6 (by decide) (hts (.fieldLink RX2 46 "NoticeWeek$Foresight" "ways" "[I") (List.mem_of_getElem? (i := 1) rfl)) (fun _ h9 => h9) rfl dX2_addReader_23 ?_
    refine lv_iload_n hx hb dX2_addReader_26 rfl (lv_at hl 0 rfl) ?_
    refine lv_aload_n hx hb dX2_addReader_27 rfl (lv_at hl 1 rfl) ?_
    refine va_get (D := D) (ci := 2) (v := .ref (fa 7)) (C := RX2) (T := TX2) (N := 7) hx hb hts u_X2_addReader_X2 hown hK.1 hP 0 rfl rfl 6 (by decide) (hts (.fieldLink RX2 46 "NoticeWeek$Foresight" "ways" "[I") (List.mem_of_getElem? (i := 1) rfl)) (fun _ h9 => h9) rfl dX2_addReader_28 ?_
    refine lv_iload_n hx hb dX2_addReader_31 rfl (lv_at hl 0 rfl) ?_
    refine b_ald hx hb hK hP 7 rfl (by omega) (by decide) dX2_addReader_32 ?_
    refine lv_bipush (v := 10) hx hb dX2_addReader_33 (by decide) ?_
    refine lv_iload_n hx hb dX2_addReader_35 rfl (lv_at hl 3 rfl) ?_
    refine lv_isub hx hb dX2_addReader_36 ?_
    refine lv_imul hx hb dX2_addReader_37 ?_
    refine lv_aload_n hx hb dX2_addReader_38 rfl (lv_at hl 1 rfl) ?_
    refine va_get (D := D) (ci := 2) (v := .ref (fa 7)) (C := RX2) (T := TX2) (N := 7) hx hb hts u_X2_addReader_X2 hown hK.1 hP 0 rfl rfl 6 (by decide) (hts (.fieldLink RX2 46 "NoticeWeek$Foresight" "ways" "[I") (List.mem_of_getElem? (i := 1) rfl)) (fun _ h9 => h9) rfl dX2_addReader_39 ?_
    refine lv_iload_n hx hb dX2_addReader_42 rfl (lv_at hl 0 rfl) ?_
    refine lv_iconst (v := (nI 1)) hx hb dX2_addReader_43 (by decide) ?_
    refine b_sub hx hb (by omega) dX2_addReader_44 ?_
    refine b_ald hx hb hK hP 7 rfl (by omega) (by decide) dX2_addReader_45 ?_
    refine lv_iload_n hx hb dX2_addReader_46 rfl (lv_at hl 3 rfl) ?_
    refine lv_imul hx hb dX2_addReader_47 ?_
    refine lv_iadd hx hb dX2_addReader_48 ?_
    refine b_ast hx hb hK hP hD hS 7 rfl (by omega) (by decide) dX2_addReader_49 (fun H locs hP hS => ?_)
    have hP : va_P D vwCl (wFore cI fa co (upd (arF tq b (upd wy (b + 1) ((wy b) * tq)) k) (q + 1) ((((arF tq b (upd wy (b + 1) ((wy b) * tq)) k) (q + 1)) * (10 - tq)) + (((arF tq b (upd wy (b + 1) ((wy b) * tq)) k) (q + 1 - 1)) * tq)))) H := hP
    have hD : va_D A (wFore cI fa co (upd (arF tq b (upd wy (b + 1) ((wy b) * tq)) k) (q + 1) ((((arF tq b (upd wy (b + 1) ((wy b) * tq)) k) (q + 1)) * (10 - tq)) + (((arF tq b (upd wy (b + 1) ((wy b) * tq)) k) (q + 1 - 1)) * tq)))) := hD.sameA [(fa 0), (fa 1), (fa 2), (fa 3), (fa 4), (fa 5), (fa 6), (fa 7)] rfl rfl
    refine lv_iinc (v := (nI (q))) (lv' := [(3, .int (nI (q))), (0, .ref (fa 0)), (1, .int (nI (b))), (2, .int tq)]) hx hb dX2_addReader_50 hl (k := 0) rfl (pk_m1 _) (by decide) rfl (fun ls hl => ?_)
    refine lv_goto (tgt := 18) hx hb dX2_addReader_53 (by decide) ?_
    have st3 : (nI (q)) = (nI (b - (k + 1))) := (by rw [show b - (k + 1) = q by omega])
    rw [st3] at hl
    have st4 : (upd (arF tq b (upd wy (b + 1) ((wy b) * tq)) k) (q + 1) ((((arF tq b (upd wy (b + 1) ((wy b) * tq)) k) (q + 1)) * (10 - tq)) + (((arF tq b (upd wy (b + 1) ((wy b) * tq)) k) (q + 1 - 1)) * tq))) = (arF tq b (upd wy (b + 1) ((wy b) * tq)) (k + 1)) := (by show _ = upd (arF tq b (upd wy (b + 1) ((wy b) * tq)) k) (b - k) ((arF tq b (upd wy (b + 1) ((wy b) * tq)) k) (b - k) * (10 - tq) + (arF tq b (upd wy (b + 1) ((wy b) * tq)) k) (b - k - 1) * tq); rw [hq])
    rw [st4] at hP
    exact ih1 (by omega) ls H locs ⟨lv_sub hl [0, 1, 2, 3] rfl, hP, hS⟩
theorem u_X2_waysToBeTrue_X2 : ∀ w ∈ wsX20, w ∈ wsX2_waysToBeTrue := fun _ h => List.mem_cons_of_mem _ (List.mem_append_left _ (List.mem_append_right _ h))
theorem u_X2_waysToBeTrue_X8 : ∀ w ∈ wsX80, w ∈ wsX2_waysToBeTrue := fun _ h => List.mem_cons_of_mem _ (List.mem_append_right _ h)
set_option maxHeartbeats 4000000 in
set_option maxRecDepth 100000 in
theorem c_X2_waysToBeTrue (l : Launch) (D : va_G) (cI cZ cT : ClassId) (ta : Nat → Nat) (st dy ln : Int32) (n : Nat) (kd dd nt lf : Nat → Int32) (fa : Nat → Nat) (co wy : Nat → Int32) (kq : Nat) (cc : Int32) (hn : n ≤ 6) (hA : ∀ j, j < n → isK (kd j) ∧ isL (lf j)) (hkq : kq ≤ 6) : Met l yX2_waysToBeTrue wsX2_waysToBeTrue ({ frames := 5, cells := 0, slots := 0, locals := 123 }) (pM D cI cZ cT [.ref (fa 0), .ref (ta 0), .int (nI (kq)), .int cc] (wTown cI ta st dy ln (nI n) kd dd nt lf ++ wFore cI fa co wy)) (qM D (some (.int (wsF (wyF dy kd dd nt lf cc wy n) kq (n + 1 - kq)))) (wTown cI ta st dy ln (nI n) kd dd nt lf ++ wFore cI fa co (wyF dy kd dd nt lf cc wy n)) (adr (wTown cI ta st dy ln (nI n) kd dd nt lf ++ wFore cI fa co wy))) 0 0 (adr (wTown cI ta st dy ln (nI n) kd dd nt lf ++ wFore cI fa co wy)) := by
  refine Met.ofW (cc := cX2_waysToBeTrue) (maxL := 6) (ret := (some .int)) (by decide) rfl ?_
  intro p e s m args below meth c s₁ B hml hv
  obtain ⟨rfl, hP, hD0, hK⟩ := hv
  have hx := B.exec
  have hb := B.bytes
  have hr := B.returns
  have hts := atoms_spec (ws := wsX2_waysToBeTrue) B.pre
  have hown : s.vm.findClass RX2 = some m.cls := findClass_of_methodNamed B.named
  have hlocks := B.notSynchronized
  have hD := hD0.toAdr
  have hS : va_S (adr (wTown cI ta st dy ln (nI n) kd dd nt lf ++ wFore cI fa co wy)) s.heap s.heap [] := va_S.rf
  generalize adr (wTown cI ta st dy ln (nI n) kd dd nt lf ++ wFore cI fa co wy) = A at hD hS ⊢
  have hl := lv_entry ([.ref (fa 0), .ref (ta 0), .int (nI (kq)), .int cc]) (n := 6) (Nat.le_of_ble_eq_true rfl)
  rw [lg_entry_eq]
  generalize (lg_sl ([.ref (fa 0), .ref (ta 0), .int (nI (kq)), .int cc]) ++ List.replicate (6 - (lg_sl ([.ref (fa 0), .ref (ta 0), .int (nI (kq)), .int cc])).length) Slot.unset).toArray = ls at hl ⊢
  have hl : lv_has ls 6 [(0, .ref (fa 0)), (1, .ref (ta 0)), (2, .int (nI (kq))), (3, .int cc)] := hl
  refine lv_aload_n hx hb dX2_waysToBeTrue_0 rfl (lv_at hl 0 rfl) ?_
  refine va_get (D := D) (ci := 2) (v := .ref (fa 7)) (C := RX2) (T := TX2) (N := 7) hx hb hts u_X2_waysToBeTrue_X2 hown hK.1 hP 5 rfl rfl 6 (by decide) (hts (.fieldLink RX2 46 "NoticeWeek$Foresight" "ways" "[I") (List.mem_of_getElem? (i := 1) rfl)) (fun _ h9 => h9) rfl dX2_waysToBeTrue_1 ?_
  refine lv_iconst (v := (nI 0)) hx hb dX2_waysToBeTrue_4 (by decide) ?_
  refine lv_iconst (v := 1) hx hb dX2_waysToBeTrue_5 (by decide) ?_
  refine b_ast hx hb hK hP hD hS 12 rfl (by omega) (by decide) dX2_waysToBeTrue_6 (fun H locs hP hS => ?_)
  have hP : va_P D vwCl (wTown cI ta st dy ln (nI n) kd dd nt lf ++ wFore cI fa co (upd wy 0 1)) H := hP
  have hD : va_D A (wTown cI ta st dy ln (nI n) kd dd nt lf ++ wFore cI fa co (upd wy 0 1)) := hD.sameA [(ta 0), (ta 1), (ta 2), (ta 3), (ta 4), (fa 0), (fa 1), (fa 2), (fa 3), (fa 4), (fa 5), (fa 6), (fa 7)] rfl rfl
  refine lv_iconst (v := (nI 0)) hx hb dX2_waysToBeTrue_7 (by decide) ?_
  refine lv_istore (lv' := [(4, .int (nI 0)), (0, .ref (fa 0)), (1, .ref (ta 0)), (2, .int (nI (kq))), (3, .int cc)]) hx hb dX2_waysToBeTrue_8 hl (by decide) rfl (fun ls hl => ?_)
  refine b_loopM (N := n) (I := fun k ls H locs => lv_has ls 6 [(4, .int (nI (k))), (0, .ref (fa 0)), (1, .ref (ta 0)), (2, .int (nI (kq))), (3, .int cc)] ∧ va_P D vwCl (wTown cI ta st dy ln (nI n) kd dd nt lf ++ wFore cI fa co (wyF dy kd dd nt lf cc wy k)) H ∧ va_S A s.heap H locs) (fun k hk ih1 ls H locs hI => ?_) 0 (by omega) ⟨lv_sub hl [0, 1, 2, 3, 4] rfl, hP, hS⟩
  obtain ⟨hl, hP, hS⟩ := hI
  have hl : lv_has ls 6 [(4, .int (nI (k))), (0, .ref (fa 0)), (1, .ref (ta 0)), (2, .int (nI (kq))), (3, .int cc)] := hl
  have hP : va_P D vwCl (wTown cI ta st dy ln (nI n) kd dd nt lf ++ wFore cI fa co (wyF dy kd dd nt lf cc wy k)) H := hP
  have hD : va_D A (wTown cI ta st dy ln (nI n) kd dd nt lf ++ wFore cI fa co (wyF dy kd dd nt lf cc wy k)) := hD.sameA [(ta 0), (ta 1), (ta 2), (ta 3), (ta 4), (fa 0), (fa 1), (fa 2), (fa 3), (fa 4), (fa 5), (fa 6), (fa 7)] rfl rfl
  refine lv_iload hx hb dX2_waysToBeTrue_10 (lv_at hl 0 rfl) ?_
  refine lv_aload_n hx hb dX2_waysToBeTrue_12 rfl (lv_at hl 2 rfl) ?_
  refine va_get (D := D) (ci := 7) (v := .int (nI (n))) (C := RX8) (T := TX8) (N := 8) hx hb hts u_X2_waysToBeTrue_X8 hown hK.1 hP 0 rfl rfl 3 (by decide) (hts (.fieldLink RX2 95 "NoticeWeek$Town" "readers" "I") (List.mem_of_getElem? (i := 2) rfl)) (fun _ h9 => h9) rfl dX2_waysToBeTrue_13 ?_
  refine b_ge (tgt := 39) hx hb (by omega) (by omega) dX2_waysToBeTrue_16 (by decide) (fun c2 => ?_) (fun c2 => ?_)
  · have h_k : n = k := by omega
    subst h_k
    refine lv_iconst (v := 0) hx hb dX2_waysToBeTrue_39 (by decide) ?_
    refine lv_istore (lv' := [(4, .int 0), (0, .ref (fa 0)), (1, .ref (ta 0)), (2, .int (nI (kq))), (3, .int cc)]) hx hb dX2_waysToBeTrue_40 hl (by decide) rfl (fun ls hl => ?_)
    refine lv_iload_n hx hb dX2_waysToBeTrue_42 rfl (lv_at hl 3 rfl) ?_
    refine lv_istore (lv' := [(5, .int (nI (kq))), (4, .int 0), (0, .ref (fa 0)), (1, .ref (ta 0)), (2, .int (nI (kq))), (3, .int cc)]) hx hb dX2_waysToBeTrue_43 hl (by decide) rfl (fun ls hl => ?_)
    refine b_loopM (N := n + 1 - kq) (I := fun j ls H locs => lv_has ls 6 [(5, .int (nI (kq + j))), (4, .int (wsF (wyF dy kd dd nt lf cc wy n) kq j)), (0, .ref (fa 0)), (1, .ref (ta 0))] ∧ va_P D vwCl (wTown cI ta st dy ln (nI n) kd dd nt lf ++ wFore cI fa co (wyF dy kd dd nt lf cc wy n)) H ∧ va_S A s.heap H locs) (fun j hj ih3 ls H locs hI => ?_) 0 (by omega) ⟨lv_sub hl [0, 1, 2, 3] rfl, hP, hS⟩
    obtain ⟨hl, hP, hS⟩ := hI
    have hl : lv_has ls 6 [(5, .int (nI (kq + j))), (4, .int (wsF (wyF dy kd dd nt lf cc wy n) kq j)), (0, .ref (fa 0)), (1, .ref (ta 0))] := hl
    have hP : va_P D vwCl (wTown cI ta st dy ln (nI n) kd dd nt lf ++ wFore cI fa co (wyF dy kd dd nt lf cc wy n)) H := hP
    have hD : va_D A (wTown cI ta st dy ln (nI n) kd dd nt lf ++ wFore cI fa co (wyF dy kd dd nt lf cc wy n)) := hD.sameA [(ta 0), (ta 1), (ta 2), (ta 3), (ta 4), (fa 0), (fa 1), (fa 2), (fa 3), (fa 4), (fa 5), (fa 6), (fa 7)] rfl rfl
    refine lv_iload hx hb dX2_waysToBeTrue_45 (lv_at hl 0 rfl) ?_
    refine lv_aload_n hx hb dX2_waysToBeTrue_47 rfl (lv_at hl 3 rfl) ?_
    refine va_get (D := D) (ci := 7) (v := .int (nI (n))) (C := RX8) (T := TX8) (N := 8) hx hb hts u_X2_waysToBeTrue_X8 hown hK.1 hP 0 rfl rfl 3 (by decide) (hts (.fieldLink RX2 95 "NoticeWeek$Town" "readers" "I") (List.mem_of_getElem? (i := 2) rfl)) (fun _ h9 => h9) rfl dX2_waysToBeTrue_48 ?_
    refine b_gt (tgt := 72) hx hb (by omega) (by omega) dX2_waysToBeTrue_51 (by decide) (fun c4 => ?_) (fun c4 => ?_)
    · have h_j : n + 1 - kq = j := by omega
      subst h_j
      refine lv_iload hx hb dX2_waysToBeTrue_72 (lv_at hl 1 rfl) ?_
      exact b_retM hx hb hr hP hS rfl dX2_waysToBeTrue_74 hlocks
    · refine lv_iload hx hb dX2_waysToBeTrue_54 (lv_at hl 1 rfl) ?_
      refine lv_aload_n hx hb dX2_waysToBeTrue_56 rfl (lv_at hl 2 rfl) ?_
      refine va_get (D := D) (ci := 2) (v := .ref (fa 7)) (C := RX2) (T := TX2) (N := 7) hx hb hts u_X2_waysToBeTrue_X2 hown hK.1 hP 5 rfl rfl 6 (by decide) (hts (.fieldLink RX2 46 "NoticeWeek$Foresight" "ways" "[I") (List.mem_of_getElem? (i := 1) rfl)) (fun _ h9 => h9) rfl dX2_waysToBeTrue_57 ?_
      refine lv_iload hx hb dX2_waysToBeTrue_60 (lv_at hl 0 rfl) ?_
      refine b_ald hx hb hK hP 12 rfl (by omega) (by decide) dX2_waysToBeTrue_62 ?_
      refine lv_iadd hx hb dX2_waysToBeTrue_63 ?_
      refine lv_topi (fun x5 ex5 => ?_)
      refine lv_istore (lv' := [(4, .int x5), (5, .int (nI (kq + j))), (0, .ref (fa 0)), (1, .ref (ta 0))]) hx hb dX2_waysToBeTrue_64 hl (by decide) rfl (fun ls hl => ?_)
      refine lv_iinc (v := (nI (kq + j + 1))) (lv' := [(5, .int (nI (kq + j + 1))), (4, .int x5), (0, .ref (fa 0)), (1, .ref (ta 0))]) hx hb dX2_waysToBeTrue_66 hl (k := 1) rfl (nI_add _ _) (by decide) rfl (fun ls hl => ?_)
      refine lv_goto (tgt := 45) hx hb dX2_waysToBeTrue_69 (by decide) ?_
      try subst ex5
      exact ih3 (by omega) ls H locs ⟨lv_sub hl [0, 1, 2, 3] rfl, hP, hS⟩
  · refine lv_aload_n hx hb dX2_waysToBeTrue_19 rfl (lv_at hl 1 rfl) ?_
    refine lv_iload hx hb dX2_waysToBeTrue_20 (lv_at hl 0 rfl) ?_
    refine lv_aload_n hx hb dX2_waysToBeTrue_22 rfl (lv_at hl 1 rfl) ?_
    refine lv_aload_n hx hb dX2_waysToBeTrue_23 rfl (lv_at hl 2 rfl) ?_
    refine lv_iload hx hb dX2_waysToBeTrue_24 (lv_at hl 0 rfl) ?_
    refine lv_iload_n hx hb dX2_waysToBeTrue_26 rfl (lv_at hl 4 rfl) ?_
    refine b_call (va_runV (As := [.ref (ta 0), .int (nI (k)), .int cc]) (rest := [.int (nI (k)), .ref (fa 0)]) ⟨hx, hb, hml, hown, hts⟩ (c_X2_tenthsToBeTrue l D cI cZ cT ta st dy ln (nI n) kd dd nt lf fa co (wyF dy kd dd nt lf cc wy k) k cc (by omega) (hA k (by omega)).1 (hA k (by omega)).2) (cwV 3 hts gX2_waysToBeTrue_X2_tenthsToBeTrue rfl rfl rfl (by decide +kernel) ⟨(Nat.le_of_ble_eq_true rfl), (Nat.le_of_ble_eq_true rfl)⟩) (b_pV hK hP [0, 1, 2, 3, 4, 5, 6, 7, 8, 9, 10, 11, 12] rfl 5 rfl rfl) rfl rfl hl.1 rfl (lv_room (Nat.le_of_ble_eq_true rfl)) dX2_waysToBeTrue_27 ⟨Nat.zero_le _, Nat.zero_le _⟩).run ?_
    refine b_callM [5, 6, 7, 8, 9, 10, 11, 12] (va_runV (As := [.int (nI (k)), .int ((if dd k = nt k then cc else 0) + (if dnB (kd k) dy (dd k) (nt k) (min 12 (min 60 (tn (lf k)))) = nt k then 10 - cc else 0))]) (rest := []) ⟨hx, hb, hml, hown, hts⟩ (c_X2_addReader l D cI cZ cT fa co (wyF dy kd dd nt lf cc wy k) k ((if dd k = nt k then cc else 0) + (if dnB (kd k) dy (dd k) (nt k) (min 12 (min 60 (tn (lf k)))) = nt k then 10 - cc else 0)) (by omega)) (cwV 2 hts gX2_waysToBeTrue_X2_addReader rfl rfl rfl (by decide +kernel) ⟨(Nat.le_of_ble_eq_true rfl), (Nat.le_of_ble_eq_true rfl)⟩) (b_pVM hK hP hD [5, 6, 7, 8, 9, 10, 11, 12] (by decide) rfl rfl 5 rfl rfl) rfl rfl hl.1 rfl (lv_room (Nat.le_of_ble_eq_true rfl)) dX2_waysToBeTrue_30 ⟨Nat.zero_le _, Nat.zero_le _⟩).run hP hD hS rfl (Nat.le_of_ble_eq_true rfl) (fun H locs hP hS => ?_)
    have hP : va_P D vwCl (wTown cI ta st dy ln (nI n) kd dd nt lf ++ wFore cI fa co (arW k ((if dd k = nt k then cc else 0) + (if dnB (kd k) dy (dd k) (nt k) (min 12 (min 60 (tn (lf k)))) = nt k then 10 - cc else 0)) (wyF dy kd dd nt lf cc wy k))) H := hP
    have hD : va_D A (wTown cI ta st dy ln (nI n) kd dd nt lf ++ wFore cI fa co (arW k ((if dd k = nt k then cc else 0) + (if dnB (kd k) dy (dd k) (nt k) (min 12 (min 60 (tn (lf k)))) = nt k then 10 - cc else 0)) (wyF dy kd dd nt lf cc wy k))) := hD.sameA [(ta 0), (ta 1), (ta 2), (ta 3), (ta 4), (fa 0), (fa 1), (fa 2), (fa 3), (fa 4), (fa 5), (fa 6), (fa 7)] rfl rfl
    refine lv_iinc (v := (nI (k + 1))) (lv' := [(4, .int (nI (k + 1))), (0, .ref (fa 0)), (1, .ref (ta 0)), (2, .int (nI (kq))), (3, .int cc)]) hx hb dX2_waysToBeTrue_33 hl (k := 0) rfl (nI_add _ _) (by decide) rfl (fun ls hl => ?_)
    refine lv_goto (tgt := 10) hx hb dX2_waysToBeTrue_36 (by decide) ?_
    exact ih1 (by omega) ls H locs ⟨lv_sub hl [0, 1, 2, 3, 4] rfl, hP, hS⟩
