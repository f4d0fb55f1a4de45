/-! CLASS: foresight -/
def tDo (k day did nt : Int32) : Int32 := if k = 1 then lst (tld did nt) else if k = 2 then lst (tld did nt) ||| lst (tld did nt &&& (lst (tld did nt) ^^^ (-1))) else if k = 3 then (if 2 < bc32 (tld did nt) then 0 else lst (tld did nt)) else if k = 4 then lst (oth did nt) else (if day - day / 2 * 2 = 0 then lst (oth did nt) else 0)
theorem tDo_1 (day did nt : Int32) : tDo 1 day did nt = lst (tld did nt) := by unfold tDo; rw [if_pos rfl]
theorem tDo_2 (day did nt : Int32) : tDo 2 day did nt = lst (tld did nt) ||| lst (tld did nt &&& (lst (tld did nt) ^^^ (-1))) := by unfold tDo; rw [if_neg (by decide), if_pos rfl]
theorem tDo_3 (day did nt : Int32) : tDo 3 day did nt = if 2 < bc32 (tld did nt) then 0 else lst (tld did nt) := by unfold tDo; rw [if_neg (by decide), if_neg (by decide), if_pos rfl]
theorem tDo_4 (day did nt : Int32) : tDo 4 day did nt = lst (oth did nt) := by unfold tDo; rw [if_neg (by decide), if_neg (by decide), if_neg (by decide), if_pos rfl]
theorem tDo_5 (day did nt : Int32) : tDo 5 day did nt = if day - day / 2 * 2 = 0 then lst (oth did nt) else 0 := by unfold tDo; rw [if_neg (by decide), if_neg (by decide), if_neg (by decide), if_neg (by decide)]
def dnB (k day did nt : Int32) (n : Nat) : Int32 := itr (fun i x => x ||| tDo k (day + nI i) x nt) n did
theorem mnI {a b : Nat} (ha : a ≤ 900) (hb : b ≤ 900) : (if nI b < nI a then nI b else nI a) = nI (min a b) := by
  by_cases h : b < a
  · rw [if_pos (by rw [i_lt, nI_toInt (by omega), nI_toInt (by omega)]; omega), show min a b = b by omega]
  · rw [if_neg (by rw [i_lt, nI_toInt (by omega), nI_toInt (by omega)]; omega), show min a b = a by omega]
theorem mnI12 {b : Nat} (hb : b ≤ 900) : (if nI b < 12 then nI b else 12) = nI (min 12 b) := mnI (a := 12) (by omega) hb
abbrev isK (k : Int32) : Prop := k = 1 ∨ k = 2 ∨ k = 3 ∨ k = 4 ∨ k = 5
abbrev isL (x : Int32) : Prop := ∃ n : Nat, n ≤ 60 ∧ x = nI n
theorem u_X2_temperOf_X2 : ∀ w ∈ wsX20, w ∈ wsX2_temperOf := fun _ h => List.mem_cons_of_mem _ (List.mem_append_right _ h)
set_option maxHeartbeats 4000000 in
set_option maxRecDepth 100000 in
theorem c_X2_temperOf_1 (l : Launch) (D : va_G) (cI cZ cT : ClassId) (fa : Nat → Nat) (co wy : Nat → Int32)  : Met l yX2_temperOf wsX2_temperOf ({ frames := 0, cells := 0, slots := 0, locals := 0 }) (pR D cI cZ cT [.ref (fa 0), .int 1] (wFore cI fa co wy)) (qRef (fa 1)) 0 0 (fun _ => False) := by
  refine Met.ofW (cc := cX2_temperOf) (maxL := 2) (ret := (some (.object "NoticeWeek$Temper"))) (by decide) rfl ?_
  intro p e s m args below meth c s₁ B hml hv
  obtain ⟨rfl, hP, hK⟩ := hv
  have hx := B.exec
  have hb := B.bytes
  have hr := B.returns
  have hts := atoms_spec (ws := wsX2_temperOf) B.pre
  have hown : s.vm.findClass RX2 = some m.cls := findClass_of_methodNamed B.named
  have hlocks := B.notSynchronized
  have hl := lv_entry ([.ref (fa 0), .int 1]) (n := 2) (Nat.le_of_ble_eq_true rfl)
  rw [lg_entry_eq]
  generalize (lg_sl ([.ref (fa 0), .int 1]) ++ List.replicate (2 - (lg_sl ([.ref (fa 0), .int 1])).length) Slot.unset).toArray = ls at hl ⊢
  have hl : lv_has ls 2 [(0, .ref (fa 0)), (1, .int 1)] := hl
  refine lv_iload_n hx hb dX2_temperOf_0 rfl (lv_at hl 1 rfl) ?_
  refine lv_tableIn (tgt := 32) hx hb dX2_temperOf_1 (by decide) (by decide) (off := 31) (by decide) (by decide) ?_
  refine lv_aload_n hx hb dX2_temperOf_32 rfl (lv_at hl 0 rfl) ?_
  refine va_get (D := D) (ci := 2) (v := .ref (fa 1)) (C := RX2) (T := TX2) (N := 7) hx hb hts u_X2_temperOf_X2 hown hK.1 hP 0 rfl rfl 0 (by decide) (hts (.fieldLink RX2 12 "NoticeWeek$Foresight" "proud" "LNoticeWeek$Temper;") (List.mem_of_getElem? (i := 1) rfl)) (fun _ h9 => h9) rfl dX2_temperOf_33 ?_
  exact b_aret hx hb hr rfl dX2_temperOf_36 hlocks
set_option maxHeartbeats 4000000 in
set_option maxRecDepth 100000 in
theorem c_X2_temperOf_2 (l : Launch) (D : va_G) (cI cZ cT : ClassId) (fa : Nat → Nat) (co wy : Nat → Int32)  : Met l yX2_temperOf wsX2_temperOf ({ frames := 0, cells := 0, slots := 0, locals := 0 }) (pR D cI cZ cT [.ref (fa 0), .int 2] (wFore cI fa co wy)) (qRef (fa 2)) 0 0 (fun _ => False) := by
  refine Met.ofW (cc := cX2_temperOf) (maxL := 2) (ret := (some (.object "NoticeWeek$Temper"))) (by decide) rfl ?_
  intro p e s m args below meth c s₁ B hml hv
  obtain ⟨rfl, hP, hK⟩ := hv
  have hx := B.exec
  have hb := B.bytes
  have hr := B.returns
  have hts := atoms_spec (ws := wsX2_temperOf) B.pre
  have hown : s.vm.findClass RX2 = some m.cls := findClass_of_methodNamed B.named
  have hlocks := B.notSynchronized
  have hl := lv_entry ([.ref (fa 0), .int 2]) (n := 2) (Nat.le_of_ble_eq_true rfl)
  rw [lg_entry_eq]
  generalize (lg_sl ([.ref (fa 0), .int 2]) ++ List.replicate (2 - (lg_sl ([.ref (fa 0), .int 2])).length) Slot.unset).toArray = ls at hl ⊢
  have hl : lv_has ls 2 [(0, .ref (fa 0)), (1, .int 2)] := hl
  refine lv_iload_n hx hb dX2_temperOf_0 rfl (lv_at hl 1 rfl) ?_
  refine lv_tableIn (tgt := 37) hx hb dX2_temperOf_1 (by decide) (by decide) (off := 36) (by decide) (by decide) ?_
  refine lv_aload_n hx hb dX2_temperOf_37 rfl (lv_at hl 0 rfl) ?_
  refine va_get (D := D) (ci := 2) (v := .ref (fa 2)) (C := RX2) (T := TX2) (N := 7) hx hb hts u_X2_temperOf_X2 hown hK.1 hP 0 rfl rfl 1 (by decide) (hts (.fieldLink RX2 21 "NoticeWeek$Foresight" "vain" "LNoticeWeek$Temper;") (List.mem_of_getElem? (i := 2) rfl)) (fun _ h9 => h9) rfl dX2_temperOf_38 ?_
  exact b_aret hx hb hr rfl dX2_temperOf_41 hlocks
set_option maxHeartbeats 4000000 in
set_option maxRecDepth 100000 in
theorem c_X2_temperOf_3 (l : Launch) (D : va_G) (cI cZ cT : ClassId) (fa : Nat → Nat) (co wy : Nat → Int32)  : Met l yX2_temperOf wsX2_temperOf ({ frames := 0, cells := 0, slots := 0, locals := 0 }) (pR D cI cZ cT [.ref (fa 0), .int 3] (wFore cI fa co wy)) (qRef (fa 3)) 0 0 (fun _ => False) := by
  refine Met.ofW (cc := cX2_temperOf) (maxL := 2) (ret := (some (.object "NoticeWeek$Temper"))) (by decide) rfl ?_
  intro p e s m args below meth c s₁ B hml hv
  obtain ⟨rfl, hP, hK⟩ := hv
  have hx := B.exec
  have hb := B.bytes
  have hr := B.returns
  have hts := atoms_spec (ws := wsX2_temperOf) B.pre
  have hown : s.vm.findClass RX2 = some m.cls := findClass_of_methodNamed B.named
  have hlocks := B.notSynchronized
  have hl := lv_entry ([.ref (fa 0), .int 3]) (n := 2) (Nat.le_of_ble_eq_true rfl)
  rw [lg_entry_eq]
  generalize (lg_sl ([.ref (fa 0), .int 3]) ++ List.replicate (2 - (lg_sl ([.ref (fa 0), .int 3])).length) Slot.unset).toArray = ls at hl ⊢
  have hl : lv_has ls 2 [(0, .ref (fa 0)), (1, .int 3)] := hl
  refine lv_iload_n hx hb dX2_temperOf_0 rfl (lv_at hl 1 rfl) ?_
  refine lv_tableIn (tgt := 42) hx hb dX2_temperOf_1 (by decide) (by decide) (off := 41) (by decide) (by decide) ?_
  refine lv_aload_n hx hb dX2_temperOf_42 rfl (lv_at hl 0 rfl) ?_
  refine va_get (D := D) (ci := 2) (v := .ref (fa 3)) (C := RX2) (T := TX2) (N := 7) hx hb hts u_X2_temperOf_X2 hown hK.1 hP 0 rfl rfl 2 (by decide) (hts (.fieldLink RX2 27 "NoticeWeek$Foresight" "shy" "LNoticeWeek$Temper;") (List.mem_of_getElem? (i := 3) rfl)) (fun _ h9 => h9) rfl dX2_temperOf_43 ?_
  exact b_aret hx hb hr rfl dX2_temperOf_46 hlocks
set_option maxHeartbeats 4000000 in
set_option maxRecDepth 100000 in
theorem c_X2_temperOf_4 (l : Launch) (D : va_G) (cI cZ cT : ClassId) (fa : Nat → Nat) (co wy : Nat → Int32)  : Met l yX2_temperOf wsX2_temperOf ({ frames := 0, cells := 0, slots := 0, locals := 0 }) (pR D cI cZ cT [.ref (fa 0), .int 4] (wFore cI fa co wy)) (qRef (fa 4)) 0 0 (fun _ => False) := by
  refine Met.ofW (cc := cX2_temperOf) (maxL := 2) (ret := (some (.object "NoticeWeek$Temper"))) (by decide) rfl ?_
  intro p e s m args below meth c s₁ B hml hv
  obtain ⟨rfl, hP, hK⟩ := hv
  have hx := B.exec
  have hb := B.bytes
  have hr := B.returns
  have hts := atoms_spec (ws := wsX2_temperOf) B.pre
  have hown : s.vm.findClass RX2 = some m.cls := findClass_of_methodNamed B.named
  have hlocks := B.notSynchronized
  have hl := lv_entry ([.ref (fa 0), .int 4]) (n := 2) (Nat.le_of_ble_eq_true rfl)
  rw [lg_entry_eq]
  generalize (lg_sl ([.ref (fa 0), .int 4]) ++ List.replicate (2 - (lg_sl ([.ref (fa 0), .int 4])).length) Slot.unset).toArray = ls at hl ⊢
  have hl : lv_has ls 2 [(0, .ref (fa 0)), (1, .int 4)] := hl
  refine lv_iload_n hx hb dX2_temperOf_0 rfl (lv_at hl 1 rfl) ?_
  refine lv_tableIn (tgt := 47) hx hb dX2_temperOf_1 (by decide) (by decide) (off := 46) (by decide) (by decide) ?_
  refine lv_aload_n hx hb dX2_temperOf_47 rfl (lv_at hl 0 rfl) ?_
  refine va_get (D := D) (ci := 2) (v := .ref (fa 4)) (C := RX2) (T := TX2) (N := 7) hx hb hts u_X2_temperOf_X2 hown hK.1 hP 0 rfl rfl 3 (by decide) (hts (.fieldLink RX2 33 "NoticeWeek$Foresight" "cross" "LNoticeWeek$Temper;") (List.mem_of_getElem? (i := 4) rfl)) (fun _ h9 => h9) rfl dX2_temperOf_48 ?_
  exact b_aret hx hb hr rfl dX2_temperOf_51 hlocks
set_option maxHeartbeats 4000000 in
set_option maxRecDepth 100000 in
theorem c_X2_temperOf_5 (l : Launch) (D : va_G) (cI cZ cT : ClassId) (fa : Nat → Nat) (co wy : Nat → Int32)  : Met l yX2_temperOf wsX2_temperOf ({ frames := 0, cells := 0, slots := 0, locals := 0 }) (pR D cI cZ cT [.ref (fa 0), .int 5] (wFore cI fa co wy)) (qRef (fa 5)) 0 0 (fun _ => False) := by
  refine Met.ofW (cc := cX2_temperOf) (maxL := 2) (ret := (some (.object "NoticeWeek$Temper"))) (by decide) rfl ?_
  intro p e s m args below meth c s₁ B hml hv
  obtain ⟨rfl, hP, hK⟩ := hv
  have hx := B.exec
  have hb := B.bytes
  have hr := B.returns
  have hts := atoms_spec (ws := wsX2_temperOf) B.pre
  have hown : s.vm.findClass RX2 = some m.cls := findClass_of_methodNamed B.named
  have hlocks := B.notSynchronized
  have hl := lv_entry ([.ref (fa 0), .int 5]) (n := 2) (Nat.le_of_ble_eq_true rfl)
  rw [lg_entry_eq]
  generalize (lg_sl ([.ref (fa 0), .int 5]) ++ List.replicate (2 - (lg_sl ([.ref (fa 0), .int 5])).length) Slot.unset).toArray = ls at hl ⊢
  have hl : lv_has ls 2 [(0, .ref (fa 0)), (1, .int 5)] := hl
  refine lv_iload_n hx hb dX2_temperOf_0 rfl (lv_at hl 1 rfl) ?_
  refine lv_tableOut (tgt := 52) hx hb dX2_temperOf_1 (by decide) (by decide) ?_
  refine lv_aload_n hx hb dX2_temperOf_52 rfl (lv_at hl 0 rfl) ?_
  refine va_get (D := D) (ci := 2) (v := .ref (fa 5)) (C := RX2) (T := TX2) (N := 7) hx hb hts u_X2_temperOf_X2 hown hK.1 hP 0 rfl rfl 4 (by decide) (hts (.fieldLink RX2 39 "NoticeWeek$Foresight" "calm" "LNoticeWeek$Temper;") (List.mem_of_getElem? (i := 5) rfl)) (fun _ h9 => h9) rfl dX2_temperOf_53 ?_
  exact b_aret hx hb hr rfl dX2_temperOf_56 hlocks
theorem u_X2_doesToday_X8 : ∀ w ∈ wsX80, w ∈ wsX2_doesToday := fun _ h => List.mem_cons_of_mem _ (List.mem_append_left _ (List.mem_append_right _ h))
set_option maxHeartbeats 4000000 in
set_option maxRecDepth 100000 in
theorem c_X2_doesToday (l : Launch) (D : va_G) (cI cZ cT : ClassId) (ta : Nat → Nat) (st dy ln rd : Int32) (kd dd nt lf : Nat → Int32) (fa : Nat → Nat) (co wy : Nat → Int32) (r : Nat) (hr_ : r ≤ 5) (hk : isK (kd r)) : Met l yX2_doesToday wsX2_doesToday ({ frames := 3, cells := 0, slots := 0, locals := 67 }) (pR D cI cZ cT [.ref (fa 0), .ref (ta 0), .int (nI (r))] (wTown cI ta st dy ln rd kd dd nt lf ++ wFore cI fa co wy)) (QcRead (if ¬ lf r ≤ 0 then tDo (kd r) dy (dd r) (nt r) else 0)) 0 0 (fun _ => False) := by
  refine Met.ofW (cc := cX2_doesToday) (maxL := 4) (ret := (some .int)) (by decide) rfl ?_
  intro p e s m args below meth c s₁ B hml hv
  obtain ⟨rfl, hP, hK⟩ := hv
  have hx := B.exec
  have hb := B.bytes
  have hr := B.returns
  have hts := atoms_spec (ws := wsX2_doesToday) B.pre
  have hown : s.vm.findClass RX2 = some m.cls := findClass_of_methodNamed B.named
  have hlocks := B.notSynchronized
  have hl := lv_entry ([.ref (fa 0), .ref (ta 0), .int (nI (r))]) (n := 4) (Nat.le_of_ble_eq_true rfl)
  rw [lg_entry_eq]
  generalize (lg_sl ([.ref (fa 0), .ref (ta 0), .int (nI (r))]) ++ List.replicate (4 - (lg_sl ([.ref (fa 0), .ref (ta 0), .int (nI (r))])).length) Slot.unset).toArray = ls at hl ⊢
  have hl : lv_has ls 4 [(0, .ref (fa 0)), (1, .ref (ta 0)), (2, .int (nI (r)))] := hl
  rcases hk with hk9 | hk9 | hk9 | hk9 | hk9
  · refine lv_aload_n hx hb dX2_doesToday_0 rfl (lv_at hl 1 rfl) ?_
    refine lv_iload_n hx hb dX2_doesToday_1 rfl (lv_at hl 2 rfl) ?_
    refine b_call (va_runV (As := [.int (nI (r))]) (rest := []) ⟨hx, hb, hml, hown, hts⟩ (c_X8_lives l D cI cZ cT ta st dy ln rd kd dd nt lf r hr_) (cwV 1 hts gX2_doesToday_X8_lives rfl rfl rfl (by decide +kernel) ⟨(Nat.le_of_ble_eq_true rfl), (Nat.le_of_ble_eq_true rfl)⟩) (b_pV hK hP [0, 1, 2, 3, 4] rfl 0 rfl rfl) rfl rfl hl.1 rfl (lv_room (Nat.le_of_ble_eq_true rfl)) dX2_doesToday_2 ⟨Nat.zero_le _, Nat.zero_le _⟩).run ?_
    refine b_ifne (tgt := 10) hx hb dX2_doesToday_5 (by decide) (fun c1 => ?_) (fun c1 => ?_)
    · refine lv_aload_n hx hb dX2_doesToday_10 rfl (lv_at hl 0 rfl) ?_
      refine lv_aload_n hx hb dX2_doesToday_11 rfl (lv_at hl 1 rfl) ?_
      refine va_get (D := D) (ci := 7) (v := .ref (ta 1)) (C := RX8) (T := TX8) (N := 8) hx hb hts u_X2_doesToday_X8 hown hK.1 hP 0 rfl rfl 4 (by decide) (hts (.fieldLink RX2 55 "NoticeWeek$Town" "kind" "[I") (List.mem_of_getElem? (i := 1) rfl)) (fun _ h9 => h9) rfl dX2_doesToday_12 ?_
      refine lv_iload_n hx hb dX2_doesToday_15 rfl (lv_at hl 2 rfl) ?_
      refine b_ald hx hb hK hP 1 rfl (by omega) (by decide) dX2_doesToday_16 ?_
      rw [hk9]
      refine b_callA (va_runV (As := [.int 1]) (rest := []) ⟨hx, hb, hml, hown, hts⟩ (c_X2_temperOf_1 l D cI cZ cT fa co wy) (cwV 1 hts gX2_doesToday_X2_temperOf rfl rfl rfl (by decide +kernel) ⟨(Nat.le_of_ble_eq_true rfl), (Nat.le_of_ble_eq_true rfl)⟩) (b_pV hK hP [5, 6, 7, 8, 9, 10, 11, 12] rfl 5 rfl rfl) rfl rfl hl.1 rfl (lv_room (Nat.le_of_ble_eq_true rfl)) dX2_doesToday_17 ⟨Nat.zero_le _, Nat.zero_le _⟩).run ?_
      refine lv_astore_n (lv' := [(3, .ref (fa 1)), (0, .ref (fa 0)), (1, .ref (ta 0)), (2, .int (nI (r)))]) hx hb dX2_doesToday_20 rfl hl (by decide) rfl (fun ls hl => ?_)
      refine lv_aload_n hx hb dX2_doesToday_21 rfl (lv_at hl 0 rfl) ?_
      refine lv_aload_n hx hb dX2_doesToday_22 rfl (lv_at hl 2 rfl) ?_
      refine va_get (D := D) (ci := 7) (v := .int dy) (C := RX8) (T := TX8) (N := 8) hx hb hts u_X2_doesToday_X8 hown hK.1 hP 0 rfl rfl 1 (by decide) (hts (.fieldLink RX2 62 "NoticeWeek$Town" "day" "I") (List.mem_of_getElem? (i := 2) rfl)) (fun _ h9 => h9) rfl dX2_doesToday_23 ?_
      refine lv_aload_n hx hb dX2_doesToday_26 rfl (lv_at hl 2 rfl) ?_
      refine va_get (D := D) (ci := 7) (v := .ref (ta 2)) (C := RX8) (T := TX8) (N := 8) hx hb hts u_X2_doesToday_X8 hown hK.1 hP 0 rfl rfl 5 (by decide) (hts (.fieldLink RX2 66 "NoticeWeek$Town" "did" "[I") (List.mem_of_getElem? (i := 3) rfl)) (fun _ h9 => h9) rfl dX2_doesToday_27 ?_
      refine lv_iload_n hx hb dX2_doesToday_30 rfl (lv_at hl 3 rfl) ?_
      refine b_ald hx hb hK hP 2 rfl (by omega) (by decide) dX2_doesToday_31 ?_
      refine lv_aload_n hx hb dX2_doesToday_32 rfl (lv_at hl 2 rfl) ?_
      refine va_get (D := D) (ci := 7) (v := .ref (ta 3)) (C := RX8) (T := TX8) (N := 8) hx hb hts u_X2_doesToday_X8 hown hK.1 hP 0 rfl rfl 6 (by decide) (hts (.fieldLink RX2 69 "NoticeWeek$Town" "notice" "[I") (List.mem_of_getElem? (i := 4) rfl)) (fun _ h9 => h9) rfl dX2_doesToday_33 ?_
      refine lv_iload_n hx hb dX2_doesToday_36 rfl (lv_at hl 3 rfl) ?_
      refine b_ald hx hb hK hP 3 rfl (by omega) (by decide) dX2_doesToday_37 ?_
      refine b_call (va_runU (As := [.int dy, .int (dd r), .int (nt r)]) (rest := []) ⟨hx, hb, hml, hown, hts⟩ (c_X3_deedsOn l D cI cZ cT (fa 1) dy (dd r) (nt r)) (va_cwA 3 hts gX2_doesToday_X3_deedsOn_u72X3 rfl rfl rfl hK.2.2.1 (by decide +kernel) ⟨(Nat.le_of_ble_eq_true rfl), (Nat.le_of_ble_eq_true rfl)⟩) (b_pV hK hP [] rfl 6 rfl rfl) rfl rfl hl.1 rfl (lv_room (Nat.le_of_ble_eq_true rfl)) dX2_doesToday_38 ⟨Nat.zero_le _, Nat.zero_le _⟩).run ?_
      exact b_ret hx hb hr (by rw [if_pos c1, tDo_1]) dX2_doesToday_41 hlocks
    · refine lv_iconst (v := 0) hx hb dX2_doesToday_8 (by decide) ?_
      exact b_ret hx hb hr (by rw [if_neg c1]) dX2_doesToday_9 hlocks
  · refine lv_aload_n hx hb dX2_doesToday_0 rfl (lv_at hl 1 rfl) ?_
    refine lv_iload_n hx hb dX2_doesToday_1 rfl (lv_at hl 2 rfl) ?_
    refine b_call (va_runV (As := [.int (nI (r))]) (rest := []) ⟨hx, hb, hml, hown, hts⟩ (c_X8_lives l D cI cZ cT ta st dy ln rd kd dd nt lf r hr_) (cwV 1 hts gX2_doesToday_X8_lives rfl rfl rfl (by decide +kernel) ⟨(Nat.le_of_ble_eq_true rfl), (Nat.le_of_ble_eq_true rfl)⟩) (b_pV hK hP [0, 1, 2, 3, 4] rfl 0 rfl rfl) rfl rfl hl.1 rfl (lv_room (Nat.le_of_ble_eq_true rfl)) dX2_doesToday_2 ⟨Nat.zero_le _, Nat.zero_le _⟩).run ?_
    refine b_ifne (tgt := 10) hx hb dX2_doesToday_5 (by decide) (fun c2 => ?_) (fun c2 => ?_)
    · refine lv_aload_n hx hb dX2_doesToday_10 rfl (lv_at hl 0 rfl) ?_
      refine lv_aload_n hx hb dX2_doesToday_11 rfl (lv_at hl 1 rfl) ?_
      refine va_get (D := D) (ci := 7) (v := .ref (ta 1)) (C := RX8) (T := TX8) (N := 8) hx hb hts u_X2_doesToday_X8 hown hK.1 hP 0 rfl rfl 4 (by decide) (hts (.fieldLink RX2 55 "NoticeWeek$Town" "kind" "[I") (List.mem_of_getElem? (i := 1) rfl)) (fun _ h9 => h9) rfl dX2_doesToday_12 ?_
      refine lv_iload_n hx hb dX2_doesToday_15 rfl (lv_at hl 2 rfl) ?_
      refine b_ald hx hb hK hP 1 rfl (by omega) (by decide) dX2_doesToday_16 ?_
      rw [hk9]
      refine b_callA (va_runV (As := [.int 2]) (rest := []) ⟨hx, hb, hml, hown, hts⟩ (c_X2_temperOf_2 l D cI cZ cT fa co wy) (cwV 1 hts gX2_doesToday_X2_temperOf rfl rfl rfl (by decide +kernel) ⟨(Nat.le_of_ble_eq_true rfl), (Nat.le_of_ble_eq_true rfl)⟩) (b_pV hK hP [5, 6, 7, 8, 9, 10, 11, 12] rfl 5 rfl rfl) rfl rfl hl.1 rfl (lv_room (Nat.le_of_ble_eq_true rfl)) dX2_doesToday_17 ⟨Nat.zero_le _, Nat.zero_le _⟩).run ?_
      refine lv_astore_n (lv' := [(3, .ref (fa 2)), (0, .ref (fa 0)), (1, .ref (ta 0)), (2, .int (nI (r)))]) hx hb dX2_doesToday_20 rfl hl (by decide) rfl (fun ls hl => ?_)
      refine lv_aload_n hx hb dX2_doesToday_21 rfl (lv_at hl 0 rfl) ?_
      refine lv_aload_n hx hb dX2_doesToday_22 rfl (lv_at hl 2 rfl) ?_
      refine va_get (D := D) (ci := 7) (v := .int dy) (C := RX8) (T := TX8) (N := 8) hx hb hts u_X2_doesToday_X8 hown hK.1 hP 0 rfl rfl 1 (by decide) (hts (.fieldLink RX2 62 "NoticeWeek$Town" "day" "I") (List.mem_of_getElem? (i := 2) rfl)) (fun _ h9 => h9) rfl dX2_doesToday_23 ?_
      refine lv_aload_n hx hb dX2_doesToday_26 rfl (lv_at hl 2 rfl) ?_
      refine va_get (D := D) (ci := 7) (v := .ref (ta 2)) (C := RX8) (T := TX8) (N := 8) hx hb hts u_X2_doesToday_X8 hown hK.1 hP 0 rfl rfl 5 (by decide) (hts (.fieldLink RX2 66 "NoticeWeek$Town" "did" "[I") (List.mem_of_getElem? (i := 3) rfl)) (fun _ h9 => h9) rfl dX2_doesToday_27 ?_
      refine lv_iload_n hx hb dX2_doesToday_30 rfl (lv_at hl 3 rfl) ?_
      refine b_ald hx hb hK hP 2 rfl (by omega) (by decide) dX2_doesToday_31 ?_
      refine lv_aload_n hx hb dX2_doesToday_32 rfl (lv_at hl 2 rfl) ?_
      refine va_get (D := D) (ci := 7) (v := .ref (ta 3)) (C := RX8) (T := TX8) (N := 8) hx hb hts u_X2_doesToday_X8 hown hK.1 hP 0 rfl rfl 6 (by decide) (hts (.fieldLink RX2 69 "NoticeWeek$Town" "notice" "[I") (List.mem_of_getElem? (i := 4) rfl)) (fun _ h9 => h9) rfl dX2_doesToday_33 ?_
      refine lv_iload_n hx hb dX2_doesToday_36 rfl (lv_at hl 3 rfl) ?_
      refine b_ald hx hb hK hP 3 rfl (by omega) (by decide) dX2_doesToday_37 ?_
      refine b_call (va_runU (As := [.int dy, .int (dd r), .int (nt r)]) (rest := []) ⟨hx, hb, hml, hown, hts⟩ (c_X10_deedsOn l D cI cZ cT (fa 2) dy (dd r) (nt r)) (va_cwA 3 hts gX2_doesToday_X10_deedsOn_u72X10 rfl rfl rfl hK.2.2.1 (by decide +kernel) ⟨(Nat.le_of_ble_eq_true rfl), (Nat.le_of_ble_eq_true rfl)⟩) (b_pV hK hP [7] rfl 7 rfl rfl) rfl rfl hl.1 rfl (lv_room (Nat.le_of_ble_eq_true rfl)) dX2_doesToday_38 ⟨Nat.zero_le _, Nat.zero_le _⟩).run ?_
      exact b_ret hx hb hr (by rw [if_pos c2, tDo_2]) dX2_doesToday_41 hlocks
    · refine lv_iconst (v := 0) hx hb dX2_doesToday_8 (by decide) ?_
      exact b_ret hx hb hr (by rw [if_neg c2]) dX2_doesToday_9 hlocks
  · refine lv_aload_n hx hb dX2_doesToday_0 rfl (lv_at hl 1 rfl) ?_
    refine lv_iload_n hx hb dX2_doesToday_1 rfl (lv_at hl 2 rfl) ?_
    refine b_call (va_runV (As := [.int (nI (r))]) (rest := []) ⟨hx, hb, hml, hown, hts⟩ (c_X8_lives l D cI cZ cT ta st dy ln rd kd dd nt lf r hr_) (cwV 1 hts gX2_doesToday_X8_lives rfl rfl rfl (by decide +kernel) ⟨(Nat.le_of_ble_eq_true rfl), (Nat.le_of_ble_eq_true rfl)⟩) (b_pV hK hP [0, 1, 2, 3, 4] rfl 0 rfl rfl) rfl rfl hl.1 rfl (lv_room (Nat.le_of_ble_eq_true rfl)) dX2_doesToday_2 ⟨Nat.zero_le _, Nat.zero_le _⟩).run ?_
    refine b_ifne (tgt := 10) hx hb dX2_doesToday_5 (by decide) (fun c3 => ?_) (fun c3 => ?_)
    · refine lv_aload_n hx hb dX2_doesToday_10 rfl (lv_at hl 0 rfl) ?_
      refine lv_aload_n hx hb dX2_doesToday_11 rfl (lv_at hl 1 rfl) ?_
      refine va_get (D := D) (ci := 7) (v := .ref (ta 1)) (C := RX8) (T := TX8) (N := 8) hx hb hts u_X2_doesToday_X8 hown hK.1 hP 0 rfl rfl 4 (by decide) (hts (.fieldLink RX2 55 "NoticeWeek$Town" "kind" "[I") (List.mem_of_getElem? (i := 1) rfl)) (fun _ h9 => h9) rfl dX2_doesToday_12 ?_
      refine lv_iload_n hx hb dX2_doesToday_15 rfl (lv_at hl 2 rfl) ?_
      refine b_ald hx hb hK hP 1 rfl (by omega) (by decide) dX2_doesToday_16 ?_
      rw [hk9]
      refine b_callA (va_runV (As := [.int 3]) (rest := []) ⟨hx, hb, hml, hown, hts⟩ (c_X2_temperOf_3 l D cI cZ cT fa co wy) (cwV 1 hts gX2_doesToday_X2_temperOf rfl rfl rfl (by decide +kernel) ⟨(Nat.le_of_ble_eq_true rfl), (Nat.le_of_ble_eq_true rfl)⟩) (b_pV hK hP [5, 6, 7, 8, 9, 10, 11, 12] rfl 5 rfl rfl) rfl rfl hl.1 rfl (lv_room (Nat.le_of_ble_eq_true rfl)) dX2_doesToday_17 ⟨Nat.zero_le _, Nat.zero_le _⟩).run ?_
      refine lv_astore_n (lv' := [(3, .ref (fa 3)), (0, .ref (fa 0)), (1, .ref (ta 0)), (2, .int (nI (r)))]) hx hb dX2_doesToday_20 rfl hl (by decide) rfl (fun ls hl => ?_)
      refine lv_aload_n hx hb dX2_doesToday_21 rfl (lv_at hl 0 rfl) ?_
      refine lv_aload_n hx hb dX2_doesToday_22 rfl (lv_at hl 2 rfl) ?_
      refine va_get (D := D) (ci := 7) (v := .int dy) (C := RX8) (T := TX8) (N := 8) hx hb hts u_X2_doesToday_X8 hown hK.1 hP 0 rfl rfl 1 (by decide) (hts (.fieldLink RX2 62 "NoticeWeek$Town" "day" "I") (List.mem_of_getElem? (i := 2) rfl)) (fun _ h9 => h9) rfl dX2_doesToday_23 ?_
      refine lv_aload_n hx hb dX2_doesToday_26 rfl (lv_at hl 2 rfl) ?_
      refine va_get (D := D) (ci := 7) (v := .ref (ta 2)) (C := RX8) (T := TX8) (N := 8) hx hb hts u_X2_doesToday_X8 hown hK.1 hP 0 rfl rfl 5 (by decide) (hts (.fieldLink RX2 66 "NoticeWeek$Town" "did" "[I") (List.mem_of_getElem? (i := 3) rfl)) (fun _ h9 => h9) rfl dX2_doesToday_27 ?_
      refine lv_iload_n hx hb dX2_doesToday_30 rfl (lv_at hl 3 rfl) ?_
      refine b_ald hx hb hK hP 2 rfl (by omega) (by decide) dX2_doesToday_31 ?_
      refine lv_aload_n hx hb dX2_doesToday_32 rfl (lv_at hl 2 rfl) ?_
      refine va_get (D := D) (ci := 7) (v := .ref (ta 3)) (C := RX8) (T := TX8) (N := 8) hx hb hts u_X2_doesToday_X8 hown hK.1 hP 0 rfl rfl 6 (by decide) (hts (.fieldLink RX2 69 "NoticeWeek$Town" "notice" "[I") (List.mem_of_getElem? (i := 4) rfl)) (fun _ h9 => h9) rfl dX2_doesToday_33 ?_
      refine lv_iload_n hx hb dX2_doesToday_36 rfl (lv_at hl 3 rfl) ?_
      refine b_ald hx hb hK hP 3 rfl (by omega) (by decide) dX2_doesToday_37 ?_
      refine b_call (va_runU (As := [.int dy, .int (dd r), .int (nt r)]) (rest := []) ⟨hx, hb, hml, hown, hts⟩ (c_X5_deedsOn l D cI cZ cT (fa 3) dy (dd r) (nt r)) (va_cwA 3 hts gX2_doesToday_X5_deedsOn_u72X5 rfl rfl rfl hK.2.2.1 (by decide +kernel) ⟨(Nat.le_of_ble_eq_true rfl), (Nat.le_of_ble_eq_true rfl)⟩) (b_pV hK hP [8] rfl 8 rfl rfl) rfl rfl hl.1 rfl (lv_room (Nat.le_of_ble_eq_true rfl)) dX2_doesToday_38 ⟨Nat.zero_le _, Nat.zero_le _⟩).run ?_
      exact b_ret hx hb hr (by rw [if_pos c3, tDo_3]) dX2_doesToday_41 hlocks
    · refine lv_iconst (v := 0) hx hb dX2_doesToday_8 (by decide) ?_
      exact b_ret hx hb hr (by rw [if_neg c3]) dX2_doesToday_9 hlocks
  · refine lv_aload_n hx hb dX2_doesToday_0 rfl (lv_at hl 1 rfl) ?_
    refine lv_iload_n hx hb dX2_doesToday_1 rfl (lv_at hl 2 rfl) ?_
    refine b_call (va_runV (As := [.int (nI (r))]) (rest := []) ⟨hx, hb, hml, hown, hts⟩ (c_X8_lives l D cI cZ cT ta st dy ln rd kd dd nt lf r hr_) (cwV 1 hts gX2_doesToday_X8_lives rfl rfl rfl (by decide +kernel) ⟨(Nat.le_of_ble_eq_true rfl), (Nat.le_of_ble_eq_true rfl)⟩) (b_pV hK hP [0, 1, 2, 3, 4] rfl 0 rfl rfl) rfl rfl hl.1 rfl (lv_room (Nat.le_of_ble_eq_true rfl)) dX2_doesToday_2 ⟨Nat.zero_le _, Nat.zero_le _⟩).run ?_
    refine b_ifne (tgt := 10) hx hb dX2_doesToday_5 (by decide) (fun c4 => ?_) (fun c4 => ?_)
    · refine lv_aload_n hx hb dX2_doesToday_10 rfl (lv_at hl 0 rfl) ?_
      refine lv_aload_n hx hb dX2_doesToday_11 rfl (lv_at hl 1 rfl) ?_
      refine va_get (D := D) (ci := 7) (v := .ref (ta 1)) (C := RX8) (T := TX8) (N := 8) hx hb hts u_X2_doesToday_X8 hown hK.1 hP 0 rfl rfl 4 (by decide) (hts (.fieldLink RX2 55 "NoticeWeek$Town" "kind" "[I") (List.mem_of_getElem? (i := 1) rfl)) (fun _ h9 => h9) rfl dX2_doesToday_12 ?_
      refine lv_iload_n hx hb dX2_doesToday_15 rfl (lv_at hl 2 rfl) ?_
      refine b_ald hx hb hK hP 1 rfl (by omega) (by decide) dX2_doesToday_16 ?_
      rw [hk9]
      refine b_callA (va_runV (As := [.int 4]) (rest := []) ⟨hx, hb, hml, hown, hts⟩ (c_X2_temperOf_4 l D cI cZ cT fa co wy) (cwV 1 hts gX2_doesToday_X2_temperOf rfl rfl rfl (by decide +kernel) ⟨(Nat.le_of_ble_eq_true rfl), (Nat.le_of_ble_eq_true rfl)⟩) (b_pV hK hP [5, 6, 7, 8, 9, 10, 11, 12] rfl 5 rfl rfl) rfl rfl hl.1 rfl (lv_room (Nat.le_of_ble_eq_true rfl)) dX2_doesToday_17 ⟨Nat.zero_le _, Nat.zero_le _⟩).run ?_
      refine lv_astore_n (lv' := [(3, .ref (fa 4)), (0, .ref (fa 0)), (1, .ref (ta 0)), (2, .int (nI (r)))]) hx hb dX2_doesToday_20 rfl hl (by decide) rfl (fun ls hl => ?_)
      refine lv_aload_n hx hb dX2_doesToday_21 rfl (lv_at hl 0 rfl) ?_
      refine lv_aload_n hx hb dX2_doesToday_22 rfl (lv_at hl 2 rfl) ?_
      refine va_get (D := D) (ci := 7) (v := .int dy) (C := RX8) (T := TX8) (N := 8) hx hb hts u_X2_doesToday_X8 hown hK.1 hP 0 rfl rfl 1 (by decide) (hts (.fieldLink RX2 62 "NoticeWeek$Town" "day" "I") (List.mem_of_getElem? (i := 2) rfl)) (fun _ h9 => h9) rfl dX2_doesToday_23 ?_
      refine lv_aload_n hx hb dX2_doesToday_26 rfl (lv_at hl 2 rfl) ?_
      refine va_get (D := D) (ci := 7) (v := .ref (ta 2)) (C := RX8) (T := TX8) (N := 8) hx hb hts u_X2_doesToday_X8 hown hK.1 hP 0 rfl rfl 5 (by decide) (hts (.fieldLink RX2 66 "NoticeWeek$Town" "did" "[I") (List.mem_of_getElem? (i := 3) rfl)) (fun _ h9 => h9) rfl dX2_doesToday_27 ?_
      refine lv_iload_n hx hb dX2_doesToday_30 rfl (lv_at hl 3 rfl) ?_
      refine b_ald hx hb hK hP 2 rfl (by omega) (by decide) dX2_doesToday_31 ?_
      refine lv_aload_n hx hb dX2_doesToday_32 rfl (lv_at hl 2 rfl) ?_
      refine va_get (D := D) (ci := 7) (v := .ref (ta 3)) (C := RX8) (T := TX8) (N := 8) hx hb hts u_X2_doesToday_X8 hown hK.1 hP 0 rfl rfl 6 (by decide) (hts (.fieldLink RX2 69 "NoticeWeek$Town" "notice" "[I") (List.mem_of_getElem? (i := 4) rfl)) (fun _ h9 => h9) rfl dX2_doesToday_33 ?_
      refine lv_iload_n hx hb dX2_doesToday_36 rfl (lv_at hl 3 rfl) ?_
      refine b_ald hx hb hK hP 3 rfl (by omega) (by decide) dX2_doesToday_37 ?_
      refine b_call (va_runU (As := [.int dy, .int (dd r), .int (nt r)]) (rest := []) ⟨hx, hb, hml, hown, hts⟩ (c_X1_deedsOn l D cI cZ cT (fa 4) dy (dd r) (nt r)) (va_cwA 3 hts gX2_doesToday_X1_deedsOn_u72X1 rfl rfl rfl hK.2.2.1 (by decide +kernel) ⟨(Nat.le_of_ble_eq_true rfl), (Nat.le_of_ble_eq_true rfl)⟩) (b_pV hK hP [] rfl 9 rfl rfl) rfl rfl hl.1 rfl (lv_room (Nat.le_of_ble_eq_true rfl)) dX2_doesToday_38 ⟨Nat.zero_le _, Nat.zero_le _⟩).run ?_
      exact b_ret hx hb hr (by rw [if_pos c4, tDo_4]) dX2_doesToday_41 hlocks
    · refine lv_iconst (v := 0) hx hb dX2_doesToday_8 (by decide) ?_
      exact b_ret hx hb hr (by rw [if_neg c4]) dX2_doesToday_9 hlocks
  · refine lv_aload_n hx hb dX2_doesToday_0 rfl (lv_at hl 1 rfl) ?_
    refine lv_iload_n hx hb dX2_doesToday_1 rfl (lv_at hl 2 rfl) ?_
    refine b_call (va_runV (As := [.int (nI (r))]) (rest := []) ⟨hx, hb, hml, hown, hts⟩ (c_X8_lives l D cI cZ cT ta st dy ln rd kd dd nt lf r hr_) (cwV 1 hts gX2_doesToday_X8_lives rfl rfl rfl (by decide +kernel) ⟨(Nat.le_of_ble_eq_true rfl), (Nat.le_of_ble_eq_true rfl)⟩) (b_pV hK hP [0, 1, 2, 3, 4] rfl 0 rfl rfl) rfl rfl hl.1 rfl (lv_room (Nat.le_of_ble_eq_true rfl)) dX2_doesToday_2 ⟨Nat.zero_le _, Nat.zero_le _⟩).run ?_
    refine b_ifne (tgt := 10) hx hb dX2_doesToday_5 (by decide) (fun c5 => ?_) (fun c5 => ?_)
    · refine lv_aload_n hx hb dX2_doesToday_10 rfl (lv_at hl 0 rfl) ?_
      refine lv_aload_n hx hb dX2_doesToday_11 rfl (lv_at hl 1 rfl) ?_
      refine va_get (D := D) (ci := 7) (v := .ref (ta 1)) (C := RX8) (T := TX8) (N := 8) hx hb hts u_X2_doesToday_X8 hown hK.1 hP 0 rfl rfl 4 (by decide) (hts (.fieldLink RX2 55 "NoticeWeek$Town" "kind" "[I") (List.mem_of_getElem? (i := 1) rfl)) (fun _ h9 => h9) rfl dX2_doesToday_12 ?_
      refine lv_iload_n hx hb dX2_doesToday_15 rfl (lv_at hl 2 rfl) ?_
      refine b_ald hx hb hK hP 1 rfl (by omega) (by decide) dX2_doesToday_16 ?_
      rw [hk9]
      refine b_callA (va_runV (As := [.int 5]) (rest := []) ⟨hx, hb, hml, hown, hts⟩ (c_X2_temperOf_5 l D cI cZ cT fa co wy) (cwV 1 hts gX2_doesToday_X2_temperOf rfl rfl rfl (by decide +kernel) ⟨(Nat.le_of_ble_eq_true rfl), (Nat.le_of_ble_eq_true rfl)⟩) (b_pV hK hP [5, 6, 7, 8, 9, 10, 11, 12] rfl 5 rfl rfl) rfl rfl hl.1 rfl (lv_room (Nat.le_of_ble_eq_true rfl)) dX2_doesToday_17 ⟨Nat.zero_le _, Nat.zero_le _⟩).run ?_
      refine lv_astore_n (lv' := [(3, .ref (fa 5)), (0, .ref (fa 0)), (1, .ref (ta 0)), (2, .int (nI (r)))]) hx hb dX2_doesToday_20 rfl hl (by decide) rfl (fun ls hl => ?_)
      refine lv_aload_n hx hb dX2_doesToday_21 rfl (lv_at hl 0 rfl) ?_
      refine lv_aload_n hx hb dX2_doesToday_22 rfl (lv_at hl 2 rfl) ?_
      refine va_get (D := D) (ci := 7) (v := .int dy) (C := RX8) (T := TX8) (N := 8) hx hb hts u_X2_doesToday_X8 hown hK.1 hP 0 rfl rfl 1 (by decide) (hts (.fieldLink RX2 62 "NoticeWeek$Town" "day" "I") (List.mem_of_getElem? (i := 2) rfl)) (fun _ h9 => h9) rfl dX2_doesToday_23 ?_
      refine lv_aload_n hx hb dX2_doesToday_26 rfl (lv_at hl 2 rfl) ?_
      refine va_get (D := D) (ci := 7) (v := .ref (ta 2)) (C := RX8) (T := TX8) (N := 8) hx hb hts u_X2_doesToday_X8 hown hK.1 hP 0 rfl rfl 5 (by decide) (hts (.fieldLink RX2 66 "NoticeWeek$Town" "did" "[I") (List.mem_of_getElem? (i := 3) rfl)) (fun _ h9 => h9) rfl dX2_doesToday_27 ?_
      refine lv_iload_n hx hb dX2_doesToday_30 rfl (lv_at hl 3 rfl) ?_
      refine b_ald hx hb hK hP 2 rfl (by omega) (by decide) dX2_doesToday_31 ?_
      refine lv_aload_n hx hb dX2_doesToday_32 rfl (lv_at hl 2 rfl) ?_
      refine va_get (D := D) (ci := 7) (v := .ref (ta 3)) (C := RX8) (T := TX8) (N := 8) hx hb hts u_X2_doesToday_X8 hown hK.1 hP 0 rfl rfl 6 (by decide) (hts (.fieldLink RX2 69 "NoticeWeek$Town" "notice" "[I") (List.mem_of_getElem? (i := 4) rfl)) (fun _ h9 => h9) rfl dX2_doesToday_33 ?_
      refine lv_iload_n hx hb dX2_doesToday_36 rfl (lv_at hl 3 rfl) ?_
      refine b_ald hx hb hK hP 3 rfl (by omega) (by decide) dX2_doesToday_37 ?_
      refine b_call (va_runU (As := [.int dy, .int (dd r), .int (nt r)]) (rest := []) ⟨hx, hb, hml, hown, hts⟩ (c_X0_deedsOn l D cI cZ cT (fa 5) dy (dd r) (nt r)) (va_cwA 3 hts gX2_doesToday_X0_deedsOn_u72X0 rfl rfl rfl hK.2.2.1 (by decide +kernel) ⟨(Nat.le_of_ble_eq_true rfl), (Nat.le_of_ble_eq_true rfl)⟩) (b_pV hK hP [10] rfl 10 rfl rfl) rfl rfl hl.1 rfl (lv_room (Nat.le_of_ble_eq_true rfl)) dX2_doesToday_38 ⟨Nat.zero_le _, Nat.zero_le _⟩).run ?_
      exact b_ret hx hb hr (by rw [if_pos c5, tDo_5]) dX2_doesToday_41 hlocks
    · refine lv_iconst (v := 0) hx hb dX2_doesToday_8 (by decide) ?_
      exact b_ret hx hb hr (by rw [if_neg c5]) dX2_doesToday_9 hlocks
theorem u_X2_doneBehind_X8 : ∀ w ∈ wsX80, w ∈ wsX2_doneBehind := fun _ h => List.mem_cons_of_mem _ (List.mem_append_left _ (List.mem_append_right _ h))
set_option maxHeartbeats 4000000 in
set_option maxRecDepth 100000 in
theorem c_X2_doneBehind (l : Launch) (D : va_G) (cI cZ cT : ClassId) (ta : Nat → Nat) (st dy ln rd : Int32) (kd dd nt lf : Nat → Int32) (fa : Nat → Nat) (co wy : Nat → Int32) (r d : Nat) (did nu : Int32) (hr_ : r ≤ 5) (hd60 : d ≤ 60) (hk : isK (kd r)) (hlf : isL (lf r)) : Met l yX2_doneBehind wsX2_doneBehind ({ frames := 3, cells := 0, slots := 0, locals := 67 }) (pR D cI cZ cT [.ref (fa 0), .ref (ta 0), .int (nI (r)), .int (nI (d)), .int did, .int nu] (wTown cI ta st dy ln rd kd dd nt lf ++ wFore cI fa co wy)) (QcRead (dnB (kd r) dy did nu (min 12 (min d (tn (lf r)))))) 0 0 (fun _ => False) := by
  refine Met.ofW (cc := cX2_doneBehind) (maxL := 10) (ret := (some .int)) (by decide) rfl ?_
  intro p e s m args below meth c s₁ B hml hv
  obtain ⟨rfl, hP, hK⟩ := hv
  have hx := B.exec
  have hb := B.bytes
  have hr := B.returns
  have hts := atoms_spec (ws := wsX2_doneBehind) B.pre
  have hown : s.vm.findClass RX2 = some m.cls := findClass_of_methodNamed B.named
  have hlocks := B.notSynchronized
  have hl := lv_entry ([.ref (fa 0), .ref (ta 0), .int (nI (r)), .int (nI (d)), .int did, .int nu]) (n := 10) (Nat.le_of_ble_eq_true rfl)
  rw [lg_entry_eq]
  generalize (lg_sl ([.ref (fa 0), .ref (ta 0), .int (nI (r)), .int (nI (d)), .int did, .int nu]) ++ List.replicate (10 - (lg_sl ([.ref (fa 0), .ref (ta 0), .int (nI (r)), .int (nI (d)), .int did, .int nu])).length) Slot.unset).toArray = ls at hl ⊢
  have hl : lv_has ls 10 [(0, .ref (fa 0)), (1, .ref (ta 0)), (2, .int (nI (r))), (3, .int (nI (d))), (4, .int did), (5, .int nu)] := hl
  obtain ⟨lr, hlr, hle⟩ := hlf
  have htl : tn (lf r) = lr := by rw [hle]; exact tn_nI (by omega)
  rcases hk with hk9 | hk9 | hk9 | hk9 | hk9
  · refine lv_aload_n hx hb dX2_doneBehind_0 rfl (lv_at hl 0 rfl) ?_
    refine lv_aload_n hx hb dX2_doneBehind_1 rfl (lv_at hl 1 rfl) ?_
    refine va_get (D := D) (ci := 7) (v := .ref (ta 1)) (C := RX8) (T := TX8) (N := 8) hx hb hts u_X2_doneBehind_X8 hown hK.1 hP 0 rfl rfl 4 (by decide) (hts (.fieldLink RX2 55 "NoticeWeek$Town" "kind" "[I") (List.mem_of_getElem? (i := 1) rfl)) (fun _ h9 => h9) rfl dX2_doneBehind_2 ?_
    refine lv_iload_n hx hb dX2_doneBehind_5 rfl (lv_at hl 2 rfl) ?_
    refine b_ald hx hb hK hP 1 rfl (by omega) (by decide) dX2_doneBehind_6 ?_
    rw [hk9]
    refine b_callA (va_runV (As := [.int 1]) (rest := []) ⟨hx, hb, hml, hown, hts⟩ (c_X2_temperOf_1 l D cI cZ cT fa co wy) (cwV 1 hts gX2_doneBehind_X2_temperOf rfl rfl rfl (by decide +kernel) ⟨(Nat.le_of_ble_eq_true rfl), (Nat.le_of_ble_eq_true rfl)⟩) (b_pV hK hP [5, 6, 7, 8, 9, 10, 11, 12] rfl 5 rfl rfl) rfl rfl hl.1 rfl (lv_room (Nat.le_of_ble_eq_true rfl)) dX2_doneBehind_7 ⟨Nat.zero_le _, Nat.zero_le _⟩).run ?_
    refine lv_astore (lv' := [(6, .ref (fa 1)), (0, .ref (fa 0)), (1, .ref (ta 0)), (2, .int (nI (r))), (3, .int (nI (d))), (4, .int did), (5, .int nu)]) hx hb dX2_doneBehind_10 hl (by decide) rfl (fun ls hl => ?_)
    refine lv_bipush (v := 12) hx hb dX2_doneBehind_12 (by decide) ?_
    refine lv_iload_n hx hb dX2_doneBehind_14 rfl (lv_at hl 4 rfl) ?_
    refine lv_aload_n hx hb dX2_doneBehind_15 rfl (lv_at hl 2 rfl) ?_
    refine va_get (D := D) (ci := 7) (v := .ref (ta 4)) (C := RX8) (T := TX8) (N := 8) hx hb hts u_X2_doneBehind_X8 hown hK.1 hP 0 rfl rfl 7 (by decide) (hts (.fieldLink RX2 78 "NoticeWeek$Town" "left" "[I") (List.mem_of_getElem? (i := 2) rfl)) (fun _ h9 => h9) rfl dX2_doneBehind_16 ?_
    refine lv_iload_n hx hb dX2_doneBehind_19 rfl (lv_at hl 3 rfl) ?_
    refine b_ald hx hb hK hP 4 rfl (by omega) (by decide) dX2_doneBehind_20 ?_
    rw [hle]
    refine va_mmin hx hb (hml.trans hl.1.symm) hown (hts (.methodLink RX2 81 Lib.Math.min.name) (List.mem_of_getElem? (i := 3) rfl)) (hts (.static Lib.Math.min.name) (List.mem_of_getElem? (i := 4) rfl)) (hts (.initialized "java/lang/Math") (List.mem_of_getElem? (i := 5) rfl)) (hts (.code Lib.Math.min.name Lib.Math.min.code 2 (some .int)) (List.mem_of_getElem? (i := 6) rfl)) (Nat.le_of_ble_eq_true rfl) (Nat.le_of_ble_eq_true rfl) (Nat.zero_le _) (Nat.zero_le _) dX2_doneBehind_21 ?_
    rw [mnI (by omega) (by omega)]
    refine va_mmin hx hb (hml.trans hl.1.symm) hown (hts (.methodLink RX2 81 Lib.Math.min.name) (List.mem_of_getElem? (i := 3) rfl)) (hts (.static Lib.Math.min.name) (List.mem_of_getElem? (i := 4) rfl)) (hts (.initialized "java/lang/Math") (List.mem_of_getElem? (i := 5) rfl)) (hts (.code Lib.Math.min.name Lib.Math.min.code 2 (some .int)) (List.mem_of_getElem? (i := 6) rfl)) (Nat.le_of_ble_eq_true rfl) (Nat.le_of_ble_eq_true rfl) (Nat.zero_le _) (Nat.zero_le _) dX2_doneBehind_24 ?_
    rw [mnI12 (by omega)]
    obtain ⟨bz, hbz, hbe⟩ : ∃ bz, bz ≤ 12 ∧ min 12 (min d lr) = bz := ⟨_, by omega, rfl⟩
    rw [hbe]
    refine lv_istore (lv' := [(7, .int (nI (bz))), (6, .ref (fa 1)), (0, .ref (fa 0)), (1, .ref (ta 0)), (2, .int (nI (r))), (3, .int (nI (d))), (4, .int did), (5, .int nu)]) hx hb dX2_doneBehind_27 hl (by decide) rfl (fun ls hl => ?_)
    refine lv_iload hx hb dX2_doneBehind_29 (lv_at hl 6 rfl) ?_
    refine lv_istore (lv' := [(8, .int did), (7, .int (nI (bz))), (6, .ref (fa 1)), (0, .ref (fa 0)), (1, .ref (ta 0)), (2, .int (nI (r))), (3, .int (nI (d))), (4, .int did), (5, .int nu)]) hx hb dX2_doneBehind_31 hl (by decide) rfl (fun ls hl => ?_)
    refine lv_iconst (v := (nI 0)) hx hb dX2_doneBehind_33 (by decide) ?_
    refine lv_istore (lv' := [(9, .int (nI 0)), (8, .int did), (7, .int (nI (bz))), (6, .ref (fa 1)), (0, .ref (fa 0)), (1, .ref (ta 0)), (2, .int (nI (r))), (3, .int (nI (d))), (4, .int did), (5, .int nu)]) hx hb dX2_doneBehind_34 hl (by decide) rfl (fun ls hl => ?_)
    refine b_loopR (N := bz) (I := fun k ls => lv_has ls 10 [(9, .int (nI (k))), (8, .int (dnB (kd r) dy did nu k)), (7, .int (nI (bz))), (6, .ref (fa 1)), (5, .int nu), (1, .ref (ta 0))]) (fun k hk ih1 ls hI => ?_) 0 (by omega) (lv_sub hl [0, 1, 2, 3, 9, 5] rfl)
    have hl := hI
    have hl : lv_has ls 10 [(9, .int (nI (k))), (8, .int (dnB (kd r) dy did nu k)), (7, .int (nI (bz))), (6, .ref (fa 1)), (5, .int nu), (1, .ref (ta 0))] := hl
    refine lv_iload hx hb dX2_doneBehind_36 (lv_at hl 0 rfl) ?_
    refine lv_iload hx hb dX2_doneBehind_38 (lv_at hl 2 rfl) ?_
    refine b_ge (tgt := 70) hx hb (by omega) (by omega) dX2_doneBehind_40 (by decide) (fun c2 => ?_) (fun c2 => ?_)
    · have h_k : bz = k := by omega
      subst h_k
      refine lv_iload hx hb dX2_doneBehind_70 (lv_at hl 1 rfl) ?_
      exact b_ret hx hb hr (by rw [show tn (nI lr) = lr from tn_nI (by omega), hbe, hk9]) dX2_doneBehind_72 hlocks
    · refine lv_iload hx hb dX2_doneBehind_43 (lv_at hl 1 rfl) ?_
      refine lv_aload hx hb dX2_doneBehind_45 (lv_at hl 3 rfl) ?_
      refine lv_aload_n hx hb dX2_doneBehind_47 rfl (lv_at hl 5 rfl) ?_
      refine va_get (D := D) (ci := 7) (v := .int dy) (C := RX8) (T := TX8) (N := 8) hx hb hts u_X2_doneBehind_X8 hown hK.1 hP 0 rfl rfl 1 (by decide) (hts (.fieldLink RX2 62 "NoticeWeek$Town" "day" "I") (List.mem_of_getElem? (i := 7) rfl)) (fun _ h9 => h9) rfl dX2_doneBehind_48 ?_
      refine lv_iload hx hb dX2_doneBehind_51 (lv_at hl 0 rfl) ?_
      refine lv_iadd hx hb dX2_doneBehind_53 ?_
      refine lv_iload hx hb dX2_doneBehind_54 (lv_at hl 1 rfl) ?_
      refine lv_iload hx hb dX2_doneBehind_56 (lv_at hl 4 rfl) ?_
      refine b_call (va_runU (As := [.int (dy + (nI (k))), .int (dnB (kd r) dy did nu k), .int nu]) (rest := [.int (dnB (kd r) dy did nu k)]) ⟨hx, hb, hml, hown, hts⟩ (c_X3_deedsOn l D cI cZ cT (fa 1) (dy + (nI (k))) (dnB (kd r) dy did nu k) nu) (va_cwA 3 hts gX2_doneBehind_X3_deedsOn_u72X3 rfl rfl rfl hK.2.2.1 (by decide +kernel) ⟨(Nat.le_of_ble_eq_true rfl), (Nat.le_of_ble_eq_true rfl)⟩) (b_pV hK hP [] rfl 6 rfl rfl) rfl rfl hl.1 rfl (lv_room (Nat.le_of_ble_eq_true rfl)) dX2_doneBehind_58 ⟨Nat.zero_le _, Nat.zero_le _⟩).run ?_
      refine lv_ior hx hb dX2_doneBehind_61 ?_
      refine lv_topi (fun x3 ex3 => ?_)
      refine lv_istore (lv' := [(8, .int x3), (9, .int (nI (k))), (7, .int (nI (bz))), (6, .ref (fa 1)), (5, .int nu), (1, .ref (ta 0))]) hx hb dX2_doneBehind_62 hl (by decide) rfl (fun ls hl => ?_)
      refine lv_iinc (v := (nI (k + 1))) (lv' := [(9, .int (nI (k + 1))), (8, .int x3), (7, .int (nI (bz))), (6, .ref (fa 1)), (5, .int nu), (1, .ref (ta 0))]) hx hb dX2_doneBehind_64 hl (k := 1) rfl (nI_add _ _) (by decide) rfl (fun ls hl => ?_)
      refine lv_goto (tgt := 36) hx hb dX2_doneBehind_67 (by decide) ?_
      have st4 : x3 = (dnB (kd r) dy did nu (k + 1)) := (by rw [ex3]; show _ = dnB (kd r) dy did nu k ||| tDo (kd r) (dy + nI k) (dnB (kd r) dy did nu k) nu; generalize dnB (kd r) dy did nu k = z; rw [hk9, tDo_1])
      rw [st4] at hl
      exact ih1 (by omega) ls (lv_sub hl [0, 1, 2, 3, 4, 5] rfl)
  · refine lv_aload_n hx hb dX2_doneBehind_0 rfl (lv_at hl 0 rfl) ?_
    refine lv_aload_n hx hb dX2_doneBehind_1 rfl (lv_at hl 1 rfl) ?_
    refine va_get (D := D) (ci := 7) (v := .ref (ta 1)) (C := RX8) (T := TX8) (N := 8) hx hb hts u_X2_doneBehind_X8 hown hK.1 hP 0 rfl rfl 4 (by decide) (hts (.fieldLink RX2 55 "NoticeWeek$Town" "kind" "[I") (List.mem_of_getElem? (i := 1) rfl)) (fun _ h9 => h9) rfl dX2_doneBehind_2 ?_
    refine lv_iload_n hx hb dX2_doneBehind_5 rfl (lv_at hl 2 rfl) ?_
    refine b_ald hx hb hK hP 1 rfl (by omega) (by decide) dX2_doneBehind_6 ?_
    rw [hk9]
    refine b_callA (va_runV (As := [.int 2]) (rest := []) ⟨hx, hb, hml, hown, hts⟩ (c_X2_temperOf_2 l D cI cZ cT fa co wy) (cwV 1 hts gX2_doneBehind_X2_temperOf rfl rfl rfl (by decide +kernel) ⟨(Nat.le_of_ble_eq_true rfl), (Nat.le_of_ble_eq_true rfl)⟩) (b_pV hK hP [5, 6, 7, 8, 9, 10, 11, 12] rfl 5 rfl rfl) rfl rfl hl.1 rfl (lv_room (Nat.le_of_ble_eq_true rfl)) dX2_doneBehind_7 ⟨Nat.zero_le _, Nat.zero_le _⟩).run ?_
    refine lv_astore (lv' := [(6, .ref (fa 2)), (0, .ref (fa 0)), (1, .ref (ta 0)), (2, .int (nI (r))), (3, .int (nI (d))), (4, .int did), (5, .int nu)]) hx hb dX2_doneBehind_10 hl (by decide) rfl (fun ls hl => ?_)
    refine lv_bipush (v := 12) hx hb dX2_doneBehind_12 (by decide) ?_
    refine lv_iload_n hx hb dX2_doneBehind_14 rfl (lv_at hl 4 rfl) ?_
    refine lv_aload_n hx hb dX2_doneBehind_15 rfl (lv_at hl 2 rfl) ?_
    refine va_get (D := D) (ci := 7) (v := .ref (ta 4)) (C := RX8) (T := TX8) (N := 8) hx hb hts u_X2_doneBehind_X8 hown hK.1 hP 0 rfl rfl 7 (by decide) (hts (.fieldLink RX2 78 "NoticeWeek$Town" "left" "[I") (List.mem_of_getElem? (i := 2) rfl)) (fun _ h9 => h9) rfl dX2_doneBehind_16 ?_
    refine lv_iload_n hx hb dX2_doneBehind_19 rfl (lv_at hl 3 rfl) ?_
    refine b_ald hx hb hK hP 4 rfl (by omega) (by decide) dX2_doneBehind_20 ?_
    rw [hle]
    refine va_mmin hx hb (hml.trans hl.1.symm) hown (hts (.methodLink RX2 81 Lib.Math.min.name) (List.mem_of_getElem? (i := 3) rfl)) (hts (.static Lib.Math.min.name) (List.mem_of_getElem? (i := 4) rfl)) (hts (.initialized "java/lang/Math") (List.mem_of_getElem? (i := 5) rfl)) (hts (.code Lib.Math.min.name Lib.Math.min.code 2 (some .int)) (List.mem_of_getElem? (i := 6) rfl)) (Nat.le_of_ble_eq_true rfl) (Nat.le_of_ble_eq_true rfl) (Nat.zero_le _) (Nat.zero_le _) dX2_doneBehind_21 ?_
    rw [mnI (by omega) (by omega)]
    refine va_mmin hx hb (hml.trans hl.1.symm) hown (hts (.methodLink RX2 81 Lib.Math.min.name) (List.mem_of_getElem? (i := 3) rfl)) (hts (.static Lib.Math.min.name) (List.mem_of_getElem? (i := 4) rfl)) (hts (.initialized "java/lang/Math") (List.mem_of_getElem? (i := 5) rfl)) (hts (.code Lib.Math.min.name Lib.Math.min.code 2 (some .int)) (List.mem_of_getElem? (i := 6) rfl)) (Nat.le_of_ble_eq_true rfl) (Nat.le_of_ble_eq_true rfl) (Nat.zero_le _) (Nat.zero_le _) dX2_doneBehind_24 ?_
    rw [mnI12 (by omega)]
    obtain ⟨bz, hbz, hbe⟩ : ∃ bz, bz ≤ 12 ∧ min 12 (min d lr) = bz := ⟨_, by omega, rfl⟩
    rw [hbe]
    refine lv_istore (lv' := [(7, .int (nI (bz))), (6, .ref (fa 2)), (0, .ref (fa 0)), (1, .ref (ta 0)), (2, .int (nI (r))), (3, .int (nI (d))), (4, .int did), (5, .int nu)]) hx hb dX2_doneBehind_27 hl (by decide) rfl (fun ls hl => ?_)
    refine lv_iload hx hb dX2_doneBehind_29 (lv_at hl 6 rfl) ?_
    refine lv_istore (lv' := [(8, .int did), (7, .int (nI (bz))), (6, .ref (fa 2)), (0, .ref (fa 0)), (1, .ref (ta 0)), (2, .int (nI (r))), (3, .int (nI (d))), (4, .int did), (5, .int nu)]) hx hb dX2_doneBehind_31 hl (by decide) rfl (fun ls hl => ?_)
    refine lv_iconst (v := (nI 0)) hx hb dX2_doneBehind_33 (by decide) ?_
    refine lv_istore (lv' := [(9, .int (nI 0)), (8, .int did), (7, .int (nI (bz))), (6, .ref (fa 2)), (0, .ref (fa 0)), (1, .ref (ta 0)), (2, .int (nI (r))), (3, .int (nI (d))), (4, .int did), (5, .int nu)]) hx hb dX2_doneBehind_34 hl (by decide) rfl (fun ls hl => ?_)
    refine b_loopR (N := bz) (I := fun k ls => lv_has ls 10 [(9, .int (nI (k))), (8, .int (dnB (kd r) dy did nu k)), (7, .int (nI (bz))), (6, .ref (fa 2)), (5, .int nu), (1, .ref (ta 0))]) (fun k hk ih5 ls hI => ?_) 0 (by omega) (lv_sub hl [0, 1, 2, 3, 9, 5] rfl)
    have hl := hI
    have hl : lv_has ls 10 [(9, .int (nI (k))), (8, .int (dnB (kd r) dy did nu k)), (7, .int (nI (bz))), (6, .ref (fa 2)), (5, .int nu), (1, .ref (ta 0))] := hl
    refine lv_iload hx hb dX2_doneBehind_36 (lv_at hl 0 rfl) ?_
    refine lv_iload hx hb dX2_doneBehind_38 (lv_at hl 2 rfl) ?_
    refine b_ge (tgt := 70) hx hb (by omega) (by omega) dX2_doneBehind_40 (by decide) (fun c6 => ?_) (fun c6 => ?_)
    · have h_k : bz = k := by omega
      subst h_k
      refine lv_iload hx hb dX2_doneBehind_70 (lv_at hl 1 rfl) ?_
      exact b_ret hx hb hr (by rw [show tn (nI lr) = lr from tn_nI (by omega), hbe, hk9]) dX2_doneBehind_72 hlocks
    · refine lv_iload hx hb dX2_doneBehind_43 (lv_at hl 1 rfl) ?_
      refine lv_aload hx hb dX2_doneBehind_45 (lv_at hl 3 rfl) ?_
      refine lv_aload_n hx hb dX2_doneBehind_47 rfl (lv_at hl 5 rfl) ?_
      refine va_get (D := D) (ci := 7) (v := .int dy) (C := RX8) (T := TX8) (N := 8) hx hb hts u_X2_doneBehind_X8 hown hK.1 hP 0 rfl rfl 1 (by decide) (hts (.fieldLink RX2 62 "NoticeWeek$Town" "day" "I") (List.mem_of_getElem? (i := 7) rfl)) (fun _ h9 => h9) rfl dX2_doneBehind_48 ?_
      refine lv_iload hx hb dX2_doneBehind_51 (lv_at hl 0 rfl) ?_
      refine lv_iadd hx hb dX2_doneBehind_53 ?_
      refine lv_iload hx hb dX2_doneBehind_54 (lv_at hl 1 rfl) ?_
      refine lv_iload hx hb dX2_doneBehind_56 (lv_at hl 4 rfl) ?_
      refine b_call (va_runU (As := [.int (dy + (nI (k))), .int (dnB (kd r) dy did nu k), .int nu]) (rest := [.int (dnB (kd r) dy did nu k)]) ⟨hx, hb, hml, hown, hts⟩ (c_X10_deedsOn l D cI cZ cT (fa 2) (dy + (nI (k))) (dnB (kd r) dy did nu k) nu) (va_cwA 3 hts gX2_doneBehind_X10_deedsOn_u72X10 rfl rfl rfl hK.2.2.1 (by decide +kernel) ⟨(Nat.le_of_ble_eq_true rfl), (Nat.le_of_ble_eq_true rfl)⟩) (b_pV hK hP [7] rfl 7 rfl rfl) rfl rfl hl.1 rfl (lv_room (Nat.le_of_ble_eq_true rfl)) dX2_doneBehind_58 ⟨Nat.zero_le _, Nat.zero_le _⟩).run ?_
      refine lv_ior hx hb dX2_doneBehind_61 ?_
      refine lv_topi (fun x7 ex7 => ?_)
      refine lv_istore (lv' := [(8, .int x7), (9, .int (nI (k))), (7, .int (nI (bz))), (6, .ref (fa 2)), (5, .int nu), (1, .ref (ta 0))]) hx hb dX2_doneBehind_62 hl (by decide) rfl (fun ls hl => ?_)
      refine lv_iinc (v := (nI (k + 1))) (lv' := [(9, .int (nI (k + 1))), (8, .int x7), (7, .int (nI (bz))), (6, .ref (fa 2)), (5, .int nu), (1, .ref (ta 0))]) hx hb dX2_doneBehind_64 hl (k := 1) rfl (nI_add _ _) (by decide) rfl (fun ls hl => ?_)
      refine lv_goto (tgt := 36) hx hb dX2_doneBehind_67 (by decide) ?_
      have st8 : x7 = (dnB (kd r) dy did nu (k + 1)) := (by rw [ex7]; show _ = dnB (kd r) dy did nu k ||| tDo (kd r) (dy + nI k) (dnB (kd r) dy did nu k) nu; generalize dnB (kd r) dy did nu k = z; rw [hk9, tDo_2])
      rw [st8] at hl
      exact ih5 (by omega) ls (lv_sub hl [0, 1, 2, 3, 4, 5] rfl)
  · refine lv_aload_n hx hb dX2_doneBehind_0 rfl (lv_at hl 0 rfl) ?_
    refine lv_aload_n hx hb dX2_doneBehind_1 rfl (lv_at hl 1 rfl) ?_
    refine va_get (D := D) (ci := 7) (v := .ref (ta 1)) (C := RX8) (T := TX8) (N := 8) hx hb hts u_X2_doneBehind_X8 hown hK.1 hP 0 rfl rfl 4 (by decide) (hts (.fieldLink RX2 55 "NoticeWeek$Town" "kind" "[I") (List.mem_of_getElem? (i := 1) rfl)) (fun _ h9 => h9) rfl dX2_doneBehind_2 ?_
    refine lv_iload_n hx hb dX2_doneBehind_5 rfl (lv_at hl 2 rfl) ?_
    refine b_ald hx hb hK hP 1 rfl (by omega) (by decide) dX2_doneBehind_6 ?_
    rw [hk9]
    refine b_callA (va_runV (As := [.int 3]) (rest := []) ⟨hx, hb, hml, hown, hts⟩ (c_X2_temperOf_3 l D cI cZ cT fa co wy) (cwV 1 hts gX2_doneBehind_X2_temperOf rfl rfl rfl (by decide +kernel) ⟨(Nat.le_of_ble_eq_true rfl), (Nat.le_of_ble_eq_true rfl)⟩) (b_pV hK hP [5, 6, 7, 8, 9, 10, 11, 12] rfl 5 rfl rfl) rfl rfl hl.1 rfl (lv_room (Nat.le_of_ble_eq_true rfl)) dX2_doneBehind_7 ⟨Nat.zero_le _, Nat.zero_le _⟩).run ?_
    refine lv_astore (lv' := [(6, .ref (fa 3)), (0, .ref (fa 0)), (1, .ref (ta 0)), (2, .int (nI (r))), (3, .int (nI (d))), (4, .int did), (5, .int nu)]) hx hb dX2_doneBehind_10 hl (by decide) rfl (fun ls hl => ?_)
    refine lv_bipush (v := 12) hx hb dX2_doneBehind_12 (by decide) ?_
    refine lv_iload_n hx hb dX2_doneBehind_14 rfl (lv_at hl 4 rfl) ?_
    refine lv_aload_n hx hb dX2_doneBehind_15 rfl (lv_at hl 2 rfl) ?_
    refine va_get (D := D) (ci := 7) (v := .ref (ta 4)) (C := RX8) (T := TX8) (N := 8) hx hb hts u_X2_doneBehind_X8 hown hK.1 hP 0 rfl rfl 7 (by decide) (hts (.fieldLink RX2 78 "NoticeWeek$Town" "left" "[I") (List.mem_of_getElem? (i := 2) rfl)) (fun _ h9 => h9) rfl dX2_doneBehind_16 ?_
    refine lv_iload_n hx hb dX2_doneBehind_19 rfl (lv_at hl 3 rfl) ?_
    refine b_ald hx hb hK hP 4 rfl (by omega) (by decide) dX2_doneBehind_20 ?_
    rw [hle]
    refine va_mmin hx hb (hml.trans hl.1.symm) hown (hts (.methodLink RX2 81 Lib.Math.min.name) (List.mem_of_getElem? (i := 3) rfl)) (hts (.static Lib.Math.min.name) (List.mem_of_getElem? (i := 4) rfl)) (hts (.initialized "java/lang/Math") (List.mem_of_getElem? (i := 5) rfl)) (hts (.code Lib.Math.min.name Lib.Math.min.code 2 (some .int)) (List.mem_of_getElem? (i := 6) rfl)) (Nat.le_of_ble_eq_true rfl) (Nat.le_of_ble_eq_true rfl) (Nat.zero_le _) (Nat.zero_le _) dX2_doneBehind_21 ?_
    rw [mnI (by omega) (by omega)]
    refine va_mmin hx hb (hml.trans hl.1.symm) hown (hts (.methodLink RX2 81 Lib.Math.min.name) (List.mem_of_getElem? (i := 3) rfl)) (hts (.static Lib.Math.min.name) (List.mem_of_getElem? (i := 4) rfl)) (hts (.initialized "java/lang/Math") (List.mem_of_getElem? (i := 5) rfl)) (hts (.code Lib.Math.min.name Lib.Math.min.code 2 (some .int)) (List.mem_of_getElem? (i := 6) rfl)) (Nat.le_of_ble_eq_true rfl) (Nat.le_of_ble_eq_true rfl) (Nat.zero_le _) (Nat.zero_le _) dX2_doneBehind_24 ?_
    rw [mnI12 (by omega)]
    obtain ⟨bz, hbz, hbe⟩ : ∃ bz, bz ≤ 12 ∧ min 12 (min d lr) = bz := ⟨_, by omega, rfl⟩
    rw [hbe]
    refine lv_istore (lv' := [(7, .int (nI (bz))), (6, .ref (fa 3)), (0, .ref (fa 0)), (1, .ref (ta 0)), (2, .int (nI (r))), (3, .int (nI (d))), (4, .int did), (5, .int nu)]) hx hb dX2_doneBehind_27 hl (by decide) rfl (fun ls hl => ?_)
    refine lv_iload hx hb dX2_doneBehind_29 (lv_at hl 6 rfl) ?_
    refine lv_istore (lv' := [(8, .int did), (7, .int (nI (bz))), (6, .ref (fa 3)), (0, .ref (fa 0)), (1, .ref (ta 0)), (2, .int (nI (r))), (3, .int (nI (d))), (4, .int did), (5, .int nu)]) hx hb dX2_doneBehind_31 hl (by decide) rfl (fun ls hl => ?_)
    refine lv_iconst (v := (nI 0)) hx hb dX2_doneBehind_33 (by decide) ?_
    refine lv_istore (lv' := [(9, .int (nI 0)), (8, .int did), (7, .int (nI (bz))), (6, .ref (fa 3)), (0, .ref (fa 0)), (1, .ref (ta 0)), (2, .int (nI (r))), (3, .int (nI (d))), (4, .int did), (5, .int nu)]) hx hb dX2_doneBehind_34 hl (by decide) rfl (fun ls hl => ?_)
    refine b_loopR (N := bz) (I := fun k ls => lv_has ls 10 [(9, .int (nI (k))), (8, .int (dnB (kd r) dy did nu k)), (7, .int (nI (bz))), (6, .ref (fa 3)), (5, .int nu), (1, .ref (ta 0))]) (fun k hk ih9 ls hI => ?_) 0 (by omega) (lv_sub hl [0, 1, 2, 3, 9, 5] rfl)
    have hl := hI
    have hl : lv_has ls 10 [(9, .int (nI (k))), (8, .int (dnB (kd r) dy did nu k)), (7, .int (nI (bz))), (6, .ref (fa 3)), (5, .int nu), (1, .ref (ta 0))] := hl
    refine lv_iload hx hb dX2_doneBehind_36 (lv_at hl 0 rfl) ?_
    refine lv_iload hx hb dX2_doneBehind_38 (lv_at hl 2 rfl) ?_
    refine b_ge (tgt := 70) hx hb (by omega) (by omega) dX2_doneBehind_40 (by decide) (fun c10 => ?_) (fun c10 => ?_)
    · have h_k : bz = k := by omega
      subst h_k
      refine lv_iload hx hb dX2_doneBehind_70 (lv_at hl 1 rfl) ?_
      exact b_ret hx hb hr (by rw [show tn (nI lr) = lr from tn_nI (by omega), hbe, hk9]) dX2_doneBehind_72 hlocks
    · refine lv_iload hx hb dX2_doneBehind_43 (lv_at hl 1 rfl) ?_
      refine lv_aload hx hb dX2_doneBehind_45 (lv_at hl 3 rfl) ?_
      refine lv_aload_n hx hb dX2_doneBehind_47 rfl (lv_at hl 5 rfl) ?_
      refine va_get (D := D) (ci := 7) (v := .int dy) (C := RX8) (T := TX8) (N := 8) hx hb hts u_X2_doneBehind_X8 hown hK.1 hP 0 rfl rfl 1 (by decide) (hts (.fieldLink RX2 62 "NoticeWeek$Town" "day" "I") (List.mem_of_getElem? (i := 7) rfl)) (fun _ h9 => h9) rfl dX2_doneBehind_48 ?_
      refine lv_iload hx hb dX2_doneBehind_51 (lv_at hl 0 rfl) ?_
      refine lv_iadd hx hb dX2_doneBehind_53 ?_
      refine lv_iload hx hb dX2_doneBehind_54 (lv_at hl 1 rfl) ?_
      refine lv_iload hx hb dX2_doneBehind_56 (lv_at hl 4 rfl) ?_
      refine b_call (va_runU (As := [.int (dy + (nI (k))), .int (dnB (kd r) dy did nu k), .int nu]) (rest := [.int (dnB (kd r) dy did nu k)]) ⟨hx, hb, hml, hown, hts⟩ (c_X5_deedsOn l D cI cZ cT (fa 3) (dy + (nI (k))) (dnB (kd r) dy did nu k) nu) (va_cwA 3 hts gX2_doneBehind_X5_deedsOn_u72X5 rfl rfl rfl hK.2.2.1 (by decide +kernel) ⟨(Nat.le_of_ble_eq_true rfl), (Nat.le_of_ble_eq_true rfl)⟩) (b_pV hK hP [8] rfl 8 rfl rfl) rfl rfl hl.1 rfl (lv_room (Nat.le_of_ble_eq_true rfl)) dX2_doneBehind_58 ⟨Nat.zero_le _, Nat.zero_le _⟩).run ?_
      refine lv_ior hx hb dX2_doneBehind_61 ?_
      refine lv_topi (fun x11 ex11 => ?_)
      refine lv_istore (lv' := [(8, .int x11), (9, .int (nI (k))), (7, .int (nI (bz))), (6, .ref (fa 3)), (5, .int nu), (1, .ref (ta 0))]) hx hb dX2_doneBehind_62 hl (by decide) rfl (fun ls hl => ?_)
      refine lv_iinc (v := (nI (k + 1))) (lv' := [(9, .int (nI (k + 1))), (8, .int x11), (7, .int (nI (bz))), (6, .ref (fa 3)), (5, .int nu), (1, .ref (ta 0))]) hx hb dX2_doneBehind_64 hl (k := 1) rfl (nI_add _ _) (by decide) rfl (fun ls hl => ?_)
      refine lv_goto (tgt := 36) hx hb dX2_doneBehind_67 (by decide) ?_
      have st12 : x11 = (dnB (kd r) dy did nu (k + 1)) := (by rw [ex11]; show _ = dnB (kd r) dy did nu k ||| tDo (kd r) (dy + nI k) (dnB (kd r) dy did nu k) nu; generalize dnB (kd r) dy did nu k = z; rw [hk9, tDo_3])
      rw [st12] at hl
      exact ih9 (by omega) ls (lv_sub hl [0, 1, 2, 3, 4, 5] rfl)
  · refine lv_aload_n hx hb dX2_doneBehind_0 rfl (lv_at hl 0 rfl) ?_
    refine lv_aload_n hx hb dX2_doneBehind_1 rfl (lv_at hl 1 rfl) ?_
    refine va_get (D := D) (ci := 7) (v := .ref (ta 1)) (C := RX8) (T := TX8) (N := 8) hx hb hts u_X2_doneBehind_X8 hown hK.1 hP 0 rfl rfl 4 (by decide) (hts (.fieldLink RX2 55 "NoticeWeek$Town" "kind" "[I") (List.mem_of_getElem? (i := 1) rfl)) (fun _ h9 => h9) rfl dX2_doneBehind_2 ?_
    refine lv_iload_n hx hb dX2_doneBehind_5 rfl (lv_at hl 2 rfl) ?_
    refine b_ald hx hb hK hP 1 rfl (by omega) (by decide) dX2_doneBehind_6 ?_
    rw [hk9]
    refine b_callA (va_runV (As := [.int 4]) (rest := []) ⟨hx, hb, hml, hown, hts⟩ (c_X2_temperOf_4 l D cI cZ cT fa co wy) (cwV 1 hts gX2_doneBehind_X2_temperOf rfl rfl rfl (by decide +kernel) ⟨(Nat.le_of_ble_eq_true rfl), (Nat.le_of_ble_eq_true rfl)⟩) (b_pV hK hP [5, 6, 7, 8, 9, 10, 11, 12] rfl 5 rfl rfl) rfl rfl hl.1 rfl (lv_room (Nat.le_of_ble_eq_true rfl)) dX2_doneBehind_7 ⟨Nat.zero_le _, Nat.zero_le _⟩).run ?_
    refine lv_astore (lv' := [(6, .ref (fa 4)), (0, .ref (fa 0)), (1, .ref (ta 0)), (2, .int (nI (r))), (3, .int (nI (d))), (4, .int did), (5, .int nu)]) hx hb dX2_doneBehind_10 hl (by decide) rfl (fun ls hl => ?_)
    refine lv_bipush (v := 12) hx hb dX2_doneBehind_12 (by decide) ?_
    refine lv_iload_n hx hb dX2_doneBehind_14 rfl (lv_at hl 4 rfl) ?_
    refine lv_aload_n hx hb dX2_doneBehind_15 rfl (lv_at hl 2 rfl) ?_
    refine va_get (D := D) (ci := 7) (v := .ref (ta 4)) (C := RX8) (T := TX8) (N := 8) hx hb hts u_X2_doneBehind_X8 hown hK.1 hP 0 rfl rfl 7 (by decide) (hts (.fieldLink RX2 78 "NoticeWeek$Town" "left" "[I") (List.mem_of_getElem? (i := 2) rfl)) (fun _ h9 => h9) rfl dX2_doneBehind_16 ?_
    refine lv_iload_n hx hb dX2_doneBehind_19 rfl (lv_at hl 3 rfl) ?_
    refine b_ald hx hb hK hP 4 rfl (by omega) (by decide) dX2_doneBehind_20 ?_
    rw [hle]
    refine va_mmin hx hb (hml.trans hl.1.symm) hown (hts (.methodLink RX2 81 Lib.Math.min.name) (List.mem_of_getElem? (i := 3) rfl)) (hts (.static Lib.Math.min.name) (List.mem_of_getElem? (i := 4) rfl)) (hts (.initialized "java/lang/Math") (List.mem_of_getElem? (i := 5) rfl)) (hts (.code Lib.Math.min.name Lib.Math.min.code 2 (some .int)) (List.mem_of_getElem? (i := 6) rfl)) (Nat.le_of_ble_eq_true rfl) (Nat.le_of_ble_eq_true rfl) (Nat.zero_le _) (Nat.zero_le _) dX2_doneBehind_21 ?_
    rw [mnI (by omega) (by omega)]
    refine va_mmin hx hb (hml.trans hl.1.symm) hown (hts (.methodLink RX2 81 Lib.Math.min.name) (List.mem_of_getElem? (i := 3) rfl)) (hts (.static Lib.Math.min.name) (List.mem_of_getElem? (i := 4) rfl)) (hts (.initialized "java/lang/Math") (List.mem_of_getElem? (i := 5) rfl)) (hts (.code Lib.Math.min.name Lib.Math.min.code 2 (some .int)) (List.mem_of_getElem? (i := 6) rfl)) (Nat.le_of_ble_eq_true rfl) (Nat.le_of_ble_eq_true rfl) (Nat.zero_le _) (Nat.zero_le _) dX2_doneBehind_24 ?_
    rw [mnI12 (by omega)]
    obtain ⟨bz, hbz, hbe⟩ : ∃ bz, bz ≤ 12 ∧ min 12 (min d lr) = bz := ⟨_, by omega, rfl⟩
    rw [hbe]
    refine lv_istore (lv' := [(7, .int (nI (bz))), (6, .ref (fa 4)), (0, .ref (fa 0)), (1, .ref (ta 0)), (2, .int (nI (r))), (3, .int (nI (d))), (4, .int did), (5, .int nu)]) hx hb dX2_doneBehind_27 hl (by decide) rfl (fun ls hl => ?_)
    refine lv_iload hx hb dX2_doneBehind_29 (lv_at hl 6 rfl) ?_
    refine lv_istore (lv' := [(8, .int did), (7, .int (nI (bz))), (6, .ref (fa 4)), (0, .ref (fa 0)), (1, .ref (ta 0)), (2, .int (nI (r))), (3, .int (nI (d))), (4, .int did), (5, .int nu)]) hx hb dX2_doneBehind_31 hl (by decide) rfl (fun ls hl => ?_)
    refine lv_iconst (v := (nI 0)) hx hb dX2_doneBehind_33 (by decide) ?_
    refine lv_istore (lv' := [(9, .int (nI 0)), (8, .int did), (7, .int (nI (bz))), (6, .ref (fa 4)), (0, .ref (fa 0)), (1, .ref (ta 0)), (2, .int (nI (r))), (3, .int (nI (d))), (4, .int did), (5, .int nu)]) hx hb dX2_doneBehind_34 hl (by decide) rfl (fun ls hl => ?_)
    refine b_loopR (N := bz) (I := fun k ls => lv_has ls 10 [(9, .int (nI (k))), (8, .int (dnB (kd r) dy did nu k)), (7, .int (nI (bz))), (6, .ref (fa 4)), (5, .int nu), (1, .ref (ta 0))]) (fun k hk ih13 ls hI => ?_) 0 (by omega) (lv_sub hl [0, 1, 2, 3, 9, 5] rfl)
    have hl := hI
    have hl : lv_has ls 10 [(9, .int (nI (k))), (8, .int (dnB (kd r) dy did nu k)), (7, .int (nI (bz))), (6, .ref (fa 4)), (5, .int nu), (1, .ref (ta 0))] := hl
    refine lv_iload hx hb dX2_doneBehind_36 (lv_at hl 0 rfl) ?_
    refine lv_iload hx hb dX2_doneBehind_38 (lv_at hl 2 rfl) ?_
    refine b_ge (tgt := 70) hx hb (by omega) (by omega) dX2_doneBehind_40 (by decide) (fun c14 => ?_) (fun c14 => ?_)
    · have h_k : bz = k := by omega
      subst h_k
      refine lv_iload hx hb dX2_doneBehind_70 (lv_at hl 1 rfl) ?_
      exact b_ret hx hb hr (by rw [show tn (nI lr) = lr from tn_nI (by omega), hbe, hk9]) dX2_doneBehind_72 hlocks
    · refine lv_iload hx hb dX2_doneBehind_43 (lv_at hl 1 rfl) ?_
      refine lv_aload hx hb dX2_doneBehind_45 (lv_at hl 3 rfl) ?_
      refine lv_aload_n hx hb dX2_doneBehind_47 rfl (lv_at hl 5 rfl) ?_
      refine va_get (D := D) (ci := 7) (v := .int dy) (C := RX8) (T := TX8) (N := 8) hx hb hts u_X2_doneBehind_X8 hown hK.1 hP 0 rfl rfl 1 (by decide) (hts (.fieldLink RX2 62 "NoticeWeek$Town" "day" "I") (List.mem_of_getElem? (i := 7) rfl)) (fun _ h9 => h9) rfl dX2_doneBehind_48 ?_
      refine lv_iload hx hb dX2_doneBehind_51 (lv_at hl 0 rfl) ?_
      refine lv_iadd hx hb dX2_doneBehind_53 ?_
      refine lv_iload hx hb dX2_doneBehind_54 (lv_at hl 1 rfl) ?_
      refine lv_iload hx hb dX2_doneBehind_56 (lv_at hl 4 rfl) ?_
      refine b_call (va_runU (As := [.int (dy + (nI (k))), .int (dnB (kd r) dy did nu k), .int nu]) (rest := [.int (dnB (kd r) dy did nu k)]) ⟨hx, hb, hml, hown, hts⟩ (c_X1_deedsOn l D cI cZ cT (fa 4) (dy + (nI (k))) (dnB (kd r) dy did nu k) nu) (va_cwA 3 hts gX2_doneBehind_X1_deedsOn_u72X1 rfl rfl rfl hK.2.2.1 (by decide +kernel) ⟨(Nat.le_of_ble_eq_true rfl), (Nat.le_of_ble_eq_true rfl)⟩) (b_pV hK hP [] rfl 9 rfl rfl) rfl rfl hl.1 rfl (lv_room (Nat.le_of_ble_eq_true rfl)) dX2_doneBehind_58 ⟨Nat.zero_le _, Nat.zero_le _⟩).run ?_
      refine lv_ior hx hb dX2_doneBehind_61 ?_
      refine lv_topi (fun x15 ex15 => ?_)
      refine lv_istore (lv' := [(8, .int x15), (9, .int (nI (k))), (7, .int (nI (bz))), (6, .ref (fa 4)), (5, .int nu), (1, .ref (ta 0))]) hx hb dX2_doneBehind_62 hl (by decide) rfl (fun ls hl => ?_)
      refine lv_iinc (v := (nI (k + 1))) (lv' := [(9, .int (nI (k + 1))), (8, .int x15), (7, .int (nI (bz))), (6, .ref (fa 4)), (5, .int nu), (1, .ref (ta 0))]) hx hb dX2_doneBehind_64 hl (k := 1) rfl (nI_add _ _) (by decide) rfl (fun ls hl => ?_)
      refine lv_goto (tgt := 36) hx hb dX2_doneBehind_67 (by decide) ?_
      have st16 : x15 = (dnB (kd r) dy did nu (k + 1)) := (by rw [ex15]; show _ = dnB (kd r) dy did nu k ||| tDo (kd r) (dy + nI k) (dnB (kd r) dy did nu k) nu; generalize dnB (kd r) dy did nu k = z; rw [hk9, tDo_4])
      rw [st16] at hl
      exact ih13 (by omega) ls (lv_sub hl [0, 1, 2, 3, 4, 5] rfl)
  · refine lv_aload_n hx hb dX2_doneBehind_0 rfl (lv_at hl 0 rfl) ?_
    refine lv_aload_n hx hb dX2_doneBehind_1 rfl (lv_at hl 1 rfl) ?_
    refine va_get (D := D) (ci := 7) (v := .ref (ta 1)) (C := RX8) (T := TX8) (N := 8) hx hb hts u_X2_doneBehind_X8 hown hK.1 hP 0 rfl rfl 4 (by decide) (hts (.fieldLink RX2 55 "NoticeWeek$Town" "kind" "[I") (List.mem_of_getElem? (i := 1) rfl)) (fun _ h9 => h9) rfl dX2_doneBehind_2 ?_
    refine lv_iload_n hx hb dX2_doneBehind_5 rfl (lv_at hl 2 rfl) ?_
    refine b_ald hx hb hK hP 1 rfl (by omega) (by decide) dX2_doneBehind_6 ?_
    rw [hk9]
    refine b_callA (va_runV (As := [.int 5]) (rest := []) ⟨hx, hb, hml, hown, hts⟩ (c_X2_temperOf_5 l D cI cZ cT fa co wy) (cwV 1 hts gX2_doneBehind_X2_temperOf rfl rfl rfl (by decide +kernel) ⟨(Nat.le_of_ble_eq_true rfl), (Nat.le_of_ble_eq_true rfl)⟩) (b_pV hK hP [5, 6, 7, 8, 9, 10, 11, 12] rfl 5 rfl rfl) rfl rfl hl.1 rfl (lv_room (Nat.le_of_ble_eq_true rfl)) dX2_doneBehind_7 ⟨Nat.zero_le _, Nat.zero_le _⟩).run ?_
    refine lv_astore (lv' := [(6, .ref (fa 5)), (0, .ref (fa 0)), (1, .ref (ta 0)), (2, .int (nI (r))), (3, .int (nI (d))), (4, .int did), (5, .int nu)]) hx hb dX2_doneBehind_10 hl (by decide) rfl (fun ls hl => ?_)
    refine lv_bipush (v := 12) hx hb dX2_doneBehind_12 (by decide) ?_
    refine lv_iload_n hx hb dX2_doneBehind_14 rfl (lv_at hl 4 rfl) ?_
    refine lv_aload_n hx hb dX2_doneBehind_15 rfl (lv_at hl 2 rfl) ?_
    refine va_get (D := D) (ci := 7) (v := .ref (ta 4)) (C := RX8) (T := TX8) (N := 8) hx hb hts u_X2_doneBehind_X8 hown hK.1 hP 0 rfl rfl 7 (by decide) (hts (.fieldLink RX2 78 "NoticeWeek$Town" "left" "[I") (List.mem_of_getElem? (i := 2) rfl)) (fun _ h9 => h9) rfl dX2_doneBehind_16 ?_
    refine lv_iload_n hx hb dX2_doneBehind_19 rfl (lv_at hl 3 rfl) ?_
    refine b_ald hx hb hK hP 4 rfl (by omega) (by decide) dX2_doneBehind_20 ?_
    rw [hle]
    refine va_mmin hx hb (hml.trans hl.1.symm) hown (hts (.methodLink RX2 81 Lib.Math.min.name) (List.mem_of_getElem? (i := 3) rfl)) (hts (.static Lib.Math.min.name) (List.mem_of_getElem? (i := 4) rfl)) (hts (.initialized "java/lang/Math") (List.mem_of_getElem? (i := 5) rfl)) (hts (.code Lib.Math.min.name Lib.Math.min.code 2 (some .int)) (List.mem_of_getElem? (i := 6) rfl)) (Nat.le_of_ble_eq_true rfl) (Nat.le_of_ble_eq_true rfl) (Nat.zero_le _) (Nat.zero_le _) dX2_doneBehind_21 ?_
    rw [mnI (by omega) (by omega)]
    refine va_mmin hx hb (hml.trans hl.1.symm) hown (hts (.methodLink RX2 81 Lib.Math.min.name) (List.mem_of_getElem? (i := 3) rfl)) (hts (.static Lib.Math.min.name) (List.mem_of_getElem? (i := 4) rfl)) (hts (.initialized "java/lang/Math") (List.mem_of_getElem? (i := 5) rfl)) (hts (.code Lib.Math.min.name Lib.Math.min.code 2 (some .int)) (List.mem_of_getElem? (i := 6) rfl)) (Nat.le_of_ble_eq_true rfl) (Nat.le_of_ble_eq_true rfl) (Nat.zero_le _) (Nat.zero_le _) dX2_doneBehind_24 ?_
    rw [mnI12 (by omega)]
    obtain ⟨bz, hbz, hbe⟩ : ∃ bz, bz ≤ 12 ∧ min 12 (min d lr) = bz := ⟨_, by omega, rfl⟩
    rw [hbe]
    refine lv_istore (lv' := [(7, .int (nI (bz))), (6, .ref (fa 5)), (0, .ref (fa 0)), (1, .ref (ta 0)), (2, .int (nI (r))), (3, .int (nI (d))), (4, .int did), (5, .int nu)]) hx hb dX2_doneBehind_27 hl (by decide) rfl (fun ls hl => ?_)
    refine lv_iload hx hb dX2_doneBehind_29 (lv_at hl 6 rfl) ?_
    refine lv_istore (lv' := [(8, .int did), (7, .int (nI (bz))), (6, .ref (fa 5)), (0, .ref (fa 0)), (1, .ref (ta 0)), (2, .int (nI (r))), (3, .int (nI (d))), (4, .int did), (5, .int nu)]) hx hb dX2_doneBehind_31 hl (by decide) rfl (fun ls hl => ?_)
    refine lv_iconst (v := (nI 0)) hx hb dX2_doneBehind_33 (by decide) ?_
    refine lv_istore (lv' := [(9, .int (nI 0)), (8, .int did), (7, .int (nI (bz))), (6, .ref (fa 5)), (0, .ref (fa 0)), (1, .ref (ta 0)), (2, .int (nI (r))), (3, .int (nI (d))), (4, .int did), (5, .int nu)]) hx hb dX2_doneBehind_34 hl (by decide) rfl (fun ls hl => ?_)
    refine b_loopR (N := bz) (I := fun k ls => lv_has ls 10 [(9, .int (nI (k))), (8, .int (dnB (kd r) dy did nu k)), (7, .int (nI (bz))), (6, .ref (fa 5)), (5, .int nu), (1, .ref (ta 0))]) (fun k hk ih17 ls hI => ?_) 0 (by omega) (lv_sub hl [0, 1, 2, 3, 9, 5] rfl)
    have hl := hI
    have hl : lv_has ls 10 [(9, .int (nI (k))), (8, .int (dnB (kd r) dy did nu k)), (7, .int (nI (bz))), (6, .ref (fa 5)), (5, .int nu), (1, .ref (ta 0))] := hl
    refine lv_iload hx hb dX2_doneBehind_36 (lv_at hl 0 rfl) ?_
    refine lv_iload hx hb dX2_doneBehind_38 (lv_at hl 2 rfl) ?_
    refine b_ge (tgt := 70) hx hb (by omega) (by omega) dX2_doneBehind_40 (by decide) (fun c18 => ?_) (fun c18 => ?_)
    · have h_k : bz = k := by omega
      subst h_k
      refine lv_iload hx hb dX2_doneBehind_70 (lv_at hl 1 rfl) ?_
      exact b_ret hx hb hr (by rw [show tn (nI lr) = lr from tn_nI (by omega), hbe, hk9]) dX2_doneBehind_72 hlocks
    · refine lv_iload hx hb dX2_doneBehind_43 (lv_at hl 1 rfl) ?_
      refine lv_aload hx hb dX2_doneBehind_45 (lv_at hl 3 rfl) ?_
      refine lv_aload_n hx hb dX2_doneBehind_47 rfl (lv_at hl 5 rfl) ?_
      refine va_get (D := D) (ci := 7) (v := .int dy) (C := RX8) (T := TX8) (N := 8) hx hb hts u_X2_doneBehind_X8 hown hK.1 hP 0 rfl rfl 1 (by decide) (hts (.fieldLink RX2 62 "NoticeWeek$Town" "day" "I") (List.mem_of_getElem? (i := 7) rfl)) (fun _ h9 => h9) rfl dX2_doneBehind_48 ?_
      refine lv_iload hx hb dX2_doneBehind_51 (lv_at hl 0 rfl) ?_
      refine lv_iadd hx hb dX2_doneBehind_53 ?_
      refine lv_iload hx hb dX2_doneBehind_54 (lv_at hl 1 rfl) ?_
      refine lv_iload hx hb dX2_doneBehind_56 (lv_at hl 4 rfl) ?_
      refine b_call (va_runU (As := [.int (dy + (nI (k))), .int (dnB (kd r) dy did nu k), .int nu]) (rest := [.int (dnB (kd r) dy did nu k)]) ⟨hx, hb, hml, hown, hts⟩ (c_X0_deedsOn l D cI cZ cT (fa 5) (dy + (nI (k))) (dnB (kd r) dy did nu k) nu) (va_cwA 3 hts gX2_doneBehind_X0_deedsOn_u72X0 rfl rfl rfl hK.2.2.1 (by decide +kernel) ⟨(Nat.le_of_ble_eq_true rfl), (Nat.le_of_ble_eq_true rfl)⟩) (b_pV hK hP [10] rfl 10 rfl rfl) rfl rfl hl.1 rfl (lv_room (Nat.le_of_ble_eq_true rfl)) dX2_doneBehind_58 ⟨Nat.zero_le _, Nat.zero_le _⟩).run ?_
      refine lv_ior hx hb dX2_doneBehind_61 ?_
      refine lv_topi (fun x19 ex19 => ?_)
      refine lv_istore (lv' := [(8, .int x19), (9, .int (nI (k))), (7, .int (nI (bz))), (6, .ref (fa 5)), (5, .int nu), (1, .ref (ta 0))]) hx hb dX2_doneBehind_62 hl (by decide) rfl (fun ls hl => ?_)
      refine lv_iinc (v := (nI (k + 1))) (lv' := [(9, .int (nI (k + 1))), (8, .int x19), (7, .int (nI (bz))), (6, .ref (fa 5)), (5, .int nu), (1, .ref (ta 0))]) hx hb dX2_doneBehind_64 hl (k := 1) rfl (nI_add _ _) (by decide) rfl (fun ls hl => ?_)
      refine lv_goto (tgt := 36) hx hb dX2_doneBehind_67 (by decide) ?_
      have st20 : x19 = (dnB (kd r) dy did nu (k + 1)) := (by rw [ex19]; show _ = dnB (kd r) dy did nu k ||| tDo (kd r) (dy + nI k) (dnB (kd r) dy did nu k) nu; generalize dnB (kd r) dy did nu k = z; rw [hk9, tDo_5])
      rw [st20] at hl
      exact ih17 (by omega) ls (lv_sub hl [0, 1, 2, 3, 4, 5] rfl)
theorem u_X2_falseLinesBehind_X8 : ∀ w ∈ wsX80, w ∈ wsX2_falseLinesBehind := fun _ h => List.mem_cons_of_mem _ (List.mem_append_left _ (List.mem_append_right _ h))
set_option maxHeartbeats 4000000 in
set_option maxRecDepth 100000 in
theorem c_X2_falseLinesBehind (l : Launch) (D : va_G) (cI cZ cT : ClassId) (ta : Nat → Nat) (st dy ln rd : Int32) (kd dd nt lf : Nat → Int32) (fa : Nat → Nat) (co wy : Nat → Int32) (r d : Nat) (hr_ : r ≤ 5) (hd60 : d ≤ 60) (hk : isK (kd r)) (hlf : isL (lf r)) : Met l yX2_falseLinesBehind wsX2_falseLinesBehind ({ frames := 4, cells := 0, slots := 0, locals := 96 }) (pR D cI cZ cT [.ref (fa 0), .ref (ta 0), .int (nI (r)), .int (nI (d))] (wTown cI ta st dy ln rd kd dd nt lf ++ wFore cI fa co wy)) (QcRead (bc32 (dnB (kd r) dy (dd r) (nt r) (min 12 (min d (tn (lf r)))) ^^^ nt r))) 0 0 (fun _ => False) := by
  refine Met.ofW (cc := cX2_falseLinesBehind) (maxL := 5) (ret := (some .int)) (by decide) rfl ?_
  intro p e s m args below meth c s₁ B hml hv
  obtain ⟨rfl, hP, hK⟩ := hv
  have hx := B.exec
  have hb := B.bytes
  have hr := B.returns
  have hts := atoms_spec (ws := wsX2_falseLinesBehind) B.pre
  have hown : s.vm.findClass RX2 = some m.cls := findClass_of_methodNamed B.named
  have hlocks := B.notSynchronized
  have hl := lv_entry ([.ref (fa 0), .ref (ta 0), .int (nI (r)), .int (nI (d))]) (n := 5) (Nat.le_of_ble_eq_true rfl)
  rw [lg_entry_eq]
  generalize (lg_sl ([.ref (fa 0), .ref (ta 0), .int (nI (r)), .int (nI (d))]) ++ List.replicate (5 - (lg_sl ([.ref (fa 0), .ref (ta 0), .int (nI (r)), .int (nI (d))])).length) Slot.unset).toArray = ls at hl ⊢
  have hl : lv_has ls 5 [(0, .ref (fa 0)), (1, .ref (ta 0)), (2, .int (nI (r))), (3, .int (nI (d)))] := hl
  refine lv_aload_n hx hb dX2_falseLinesBehind_0 rfl (lv_at hl 1 rfl) ?_
  refine va_get (D := D) (ci := 7) (v := .ref (ta 3)) (C := RX8) (T := TX8) (N := 8) hx hb hts u_X2_falseLinesBehind_X8 hown hK.1 hP 0 rfl rfl 6 (by decide) (hts (.fieldLink RX2 69 "NoticeWeek$Town" "notice" "[I") (List.mem_of_getElem? (i := 1) rfl)) (fun _ h9 => h9) rfl dX2_falseLinesBehind_1 ?_
  refine lv_iload_n hx hb dX2_falseLinesBehind_4 rfl (lv_at hl 2 rfl) ?_
  refine b_ald hx hb hK hP 3 rfl (by omega) (by decide) dX2_falseLinesBehind_5 ?_
  refine lv_topi (fun x1 ex1 => ?_)
  refine lv_istore (lv' := [(4, .int x1), (0, .ref (fa 0)), (1, .ref (ta 0)), (2, .int (nI (r))), (3, .int (nI (d)))]) hx hb dX2_falseLinesBehind_6 hl (by decide) rfl (fun ls hl => ?_)
  refine lv_aload_n hx hb dX2_falseLinesBehind_8 rfl (lv_at hl 1 rfl) ?_
  refine lv_aload_n hx hb dX2_falseLinesBehind_9 rfl (lv_at hl 2 rfl) ?_
  refine lv_iload_n hx hb dX2_falseLinesBehind_10 rfl (lv_at hl 3 rfl) ?_
  refine lv_iload_n hx hb dX2_falseLinesBehind_11 rfl (lv_at hl 4 rfl) ?_
  refine lv_aload_n hx hb dX2_falseLinesBehind_12 rfl (lv_at hl 2 rfl) ?_
  refine va_get (D := D) (ci := 7) (v := .ref (ta 2)) (C := RX8) (T := TX8) (N := 8) hx hb hts u_X2_falseLinesBehind_X8 hown hK.1 hP 0 rfl rfl 5 (by decide) (hts (.fieldLink RX2 66 "NoticeWeek$Town" "did" "[I") (List.mem_of_getElem? (i := 2) rfl)) (fun _ h9 => h9) rfl dX2_falseLinesBehind_13 ?_
  refine lv_iload_n hx hb dX2_falseLinesBehind_16 rfl (lv_at hl 3 rfl) ?_
  refine b_ald hx hb hK hP 2 rfl (by omega) (by decide) dX2_falseLinesBehind_17 ?_
  refine lv_iload hx hb dX2_falseLinesBehind_18 (lv_at hl 0 rfl) ?_
  refine b_call (va_runV (As := [.ref (ta 0), .int (nI (r)), .int (nI (d)), .int (dd r), .int x1]) (rest := []) ⟨hx, hb, hml, hown, hts⟩ (c_X2_doneBehind l D cI cZ cT ta st dy ln rd kd dd nt lf fa co wy r d (dd r) x1 hr_ hd60 hk hlf) (cwV 5 hts gX2_falseLinesBehind_X2_doneBehind rfl rfl rfl (by decide +kernel) ⟨(Nat.le_of_ble_eq_true rfl), (Nat.le_of_ble_eq_true rfl)⟩) (b_pV hK hP [0, 1, 2, 3, 4, 5, 6, 7, 8, 9, 10, 11, 12] rfl 5 rfl rfl) rfl rfl hl.1 rfl (lv_room (Nat.le_of_ble_eq_true rfl)) dX2_falseLinesBehind_20 ⟨Nat.zero_le _, Nat.zero_le _⟩).run ?_
  refine lv_iload hx hb dX2_falseLinesBehind_23 (lv_at hl 0 rfl) ?_
  refine b_call (va_runSN (As := [.int (dnB (kd r) dy (dd r) x1 (min 12 (min d (tn (lf r))))), .int x1]) (rest := []) ⟨hx, hb, hml, hown, hts⟩ (c_X11_falseLines l D cI cZ cT (dnB (kd r) dy (dd r) x1 (min 12 (min d (tn (lf r))))) x1) ⟨va_cnB (host := RX11) 2 hts gX2_falseLinesBehind_X11_falseLines_n91 rfl rfl rfl (hK.2.1 _ (List.mem_of_getElem? (i := 18) rfl)) (hts (.initialized RX11) (List.mem_of_getElem? (i := 37) rfl)) (by decide +kernel) ⟨(Nat.le_of_ble_eq_true rfl), (Nat.le_of_ble_eq_true rfl)⟩, hts (.static yX11_falseLines) (List.mem_of_getElem? (i := 64) rfl), trivial⟩ (b_pS0 hK) rfl rfl hl.1 rfl (lv_room (Nat.le_of_ble_eq_true rfl)) dX2_falseLinesBehind_25 ⟨Nat.zero_le _, Nat.zero_le _⟩).run ?_
  exact b_ret hx hb hr (by subst ex1; first | with_reducible rfl | (simp only [bI, not_true_eq_false, not_false_eq_true, ite_true, ite_false, if_true, if_false, and_self, and_true, true_and, false_and, and_false, or_true, true_or, or_false, false_or]; done) | (simp [bI]; done) | omega) dX2_falseLinesBehind_28 hlocks
