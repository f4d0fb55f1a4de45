/-! CLASS: asks -/
theorem beg_le2 {z : Nat × (Nat → Int32)} {a b : Int32} (h : z.1 ≤ 16) : (m_beg (m_beg z a) b).1 ≤ 16 := m_beg_le (m_beg_le h)
theorem u_X7_size_X8 : ∀ w ∈ wsX80, w ∈ wsX7_size := fun _ h => List.mem_cons_of_mem _ (List.mem_append_left _ (List.mem_append_right _ h))
set_option maxHeartbeats 4000000 in
set_option maxRecDepth 100000 in
theorem c_X7_size (l : Launch) (D : va_G) (cI cZ cT : ClassId) (ta : Nat → Nat) (st dy ln rd : Int32) (kd dd nt lf : Nat → Int32) (za : Nat → Nat) (xa : Nat) (σ : Nat × (Nat → Int32)) (r : Nat) (hr_ : r ≤ 5) (hz : σ.1 ≤ 16) : Met l yX7_size wsX7_size ({ frames := 1, cells := 0, slots := 0, locals := 21 }) (pM D cI cZ cT [.ref xa, .ref (ta 0), .int (nI (r)), .ref (za 0)] (wTown cI ta st dy ln rd kd dd nt lf ++ wTrace cI za (nI σ.1) σ.2)) (qM D (some (.int (bc32 (nt r)))) (wTown cI ta st dy ln rd kd dd nt lf ++ wTrace cI za (nI (m_beg σ 10).1) ((m_beg σ 10).2)) (adr (wTown cI ta st dy ln rd kd dd nt lf ++ wTrace cI za (nI σ.1) σ.2))) 0 0 (adr (wTown cI ta st dy ln rd kd dd nt lf ++ wTrace cI za (nI σ.1) σ.2)) := by
  refine Met.ofW (cc := cX7_size) (maxL := 4) (ret := (some .int)) (by decide) rfl ?_
  intro p e s m args below meth c s₁ B hml hv
  obtain ⟨rfl, hP, hD0, hK⟩ := hv
  have hx := B.exec
  have hb := B.bytes
  have hr := B.returns
  have hts := atoms_spec (ws := wsX7_size) B.pre
  have hown : s.vm.findClass RX7 = some m.cls := findClass_of_methodNamed B.named
  have hlocks := B.notSynchronized
  have hD := hD0.toAdr
  have hS : va_S (adr (wTown cI ta st dy ln rd kd dd nt lf ++ wTrace cI za (nI σ.1) σ.2)) s.heap s.heap [] := va_S.rf
  generalize adr (wTown cI ta st dy ln rd kd dd nt lf ++ wTrace cI za (nI σ.1) σ.2) = A at hD hS ⊢
  have hl := lv_entry ([.ref xa, .ref (ta 0), .int (nI (r)), .ref (za 0)]) (n := 4) (Nat.le_of_ble_eq_true rfl)
  rw [lg_entry_eq]
  generalize (lg_sl ([.ref xa, .ref (ta 0), .int (nI (r)), .ref (za 0)]) ++ List.replicate (4 - (lg_sl ([.ref xa, .ref (ta 0), .int (nI (r)), .ref (za 0)])).length) Slot.unset).toArray = ls at hl ⊢
  have hl : lv_has ls 4 [(0, .ref xa), (1, .ref (ta 0)), (2, .int (nI (r))), (3, .ref (za 0))] := hl
  refine lv_aload_n hx hb dX7_size_0 rfl (lv_at hl 3 rfl) ?_
  refine lv_bipush (v := 10) hx hb dX7_size_1 (by decide) ?_
  refine b_callM [5, 6] (va_runV (As := [.int 10]) (rest := []) ⟨hx, hb, hml, hown, hts⟩ (c_X9_leave l D cI cZ cT za σ 10 hz) (cwV 1 hts gX7_size_X9_leave rfl rfl rfl (by decide +kernel) ⟨(Nat.le_of_ble_eq_true rfl), (Nat.le_of_ble_eq_true rfl)⟩) (b_pVM hK hP hD [5, 6] (by decide) rfl rfl 5 rfl rfl) rfl rfl hl.1 rfl (lv_room (Nat.le_of_ble_eq_true rfl)) dX7_size_3 ⟨Nat.zero_le _, Nat.zero_le _⟩).run hP hD hS rfl (Nat.le_of_ble_eq_true rfl) (fun H locs hP hS => ?_)
  have hP : va_P D vwCl (wTown cI ta st dy ln rd kd dd nt lf ++ wTrace cI za (nI (m_beg σ 10).1) ((m_beg σ 10).2)) H := hP
  generalize eq3 : m_beg σ 10 = q3 at hP ⊢
  have hP : va_P D vwCl (wTown cI ta st dy ln rd kd dd nt lf ++ wTrace cI za (nI q3.1) q3.2) H := hP
  have hD : va_D A (wTown cI ta st dy ln rd kd dd nt lf ++ wTrace cI za (nI q3.1) q3.2) := hD.sameA [(ta 0), (ta 1), (ta 2), (ta 3), (ta 4), (za 0), (za 1)] rfl rfl
  have hq3 : q3.1 ≤ 16 := by rw [← eq3]; first | exact m_beg_le hz | exact m_beg_le (m_beg_le hz) | exact m_beg_le (m_beg_le (m_beg_le hz)) | exact m_beg_le (m_beg_le (m_beg_le (m_beg_le hz))) | exact m_beg_le (m_beg_le (m_beg_le (m_beg_le (m_beg_le hz))))
  refine lv_aload_n hx hb dX7_size_6 rfl (lv_at hl 1 rfl) ?_
  refine va_get (D := D) (ci := 7) (v := .ref (ta 3)) (C := RX8) (T := TX8) (N := 8) hx hb hts u_X7_size_X8 hown hK.1 hP 0 rfl rfl 6 (by decide) (hts (.fieldLink RX7 13 "NoticeWeek$Town" "notice" "[I") (List.mem_of_getElem? (i := 1) rfl)) (fun _ h9 => h9) rfl dX7_size_7 ?_
  refine lv_iload_n hx hb dX7_size_10 rfl (lv_at hl 2 rfl) ?_
  refine b_ald hx hb hK hP 3 rfl (by omega) (by decide) dX7_size_11 ?_
  refine b_call (va_runS (As := [.int (nt r)]) (rest := []) ⟨hx, hb, hml, hown, hts⟩ (c_J6_bitCount_0f7a4 l D cI cZ cT (nt r)) (va_cwS 1 hts gX7_size_J6_bitCount_0f7a4 rfl rfl rfl (by decide +kernel) ⟨(Nat.le_of_ble_eq_true rfl), (Nat.le_of_ble_eq_true rfl)⟩) (b_pS0 hK) rfl rfl hl.1 rfl (lv_room (Nat.le_of_ble_eq_true rfl)) dX7_size_12 ⟨Nat.zero_le _, Nat.zero_le _⟩).run ?_
  have E : m_beg σ 10 = q3 := (by rw [eq3])
  try rw [E]
  exact b_retM hx hb hr hP hS rfl dX7_size_15 hlocks
set_option maxHeartbeats 4000000 in
set_option maxRecDepth 100000 in
theorem c_X7_mark (l : Launch) (D : va_G) (cI cZ cT : ClassId) (ta : Nat → Nat) (st dy ln rd : Int32) (kd dd nt lf : Nat → Int32) (za : Nat → Nat) (xa : Nat) (σ : Nat × (Nat → Int32)) (r : Nat) (hr_ : r ≤ 5) (hz : σ.1 ≤ 16) : Met l yX7_mark wsX7_mark ({ frames := 1, cells := 0, slots := 0, locals := 21 }) (pM D cI cZ cT [.ref xa, .ref (ta 0), .int (nI (r)), .ref (za 0)] (wTown cI ta st dy ln rd kd dd nt lf ++ wTrace cI za (nI σ.1) σ.2)) (qM D (some (.int (nI r))) (wTown cI ta st dy ln rd kd dd nt lf ++ wTrace cI za (nI (m_beg σ 20).1) ((m_beg σ 20).2)) (adr (wTown cI ta st dy ln rd kd dd nt lf ++ wTrace cI za (nI σ.1) σ.2))) 0 0 (adr (wTown cI ta st dy ln rd kd dd nt lf ++ wTrace cI za (nI σ.1) σ.2)) := by
  refine Met.ofW (cc := cX7_mark) (maxL := 4) (ret := (some .int)) (by decide) rfl ?_
  intro p e s m args below meth c s₁ B hml hv
  obtain ⟨rfl, hP, hD0, hK⟩ := hv
  have hx := B.exec
  have hb := B.bytes
  have hr := B.returns
  have hts := atoms_spec (ws := wsX7_mark) B.pre
  have hown : s.vm.findClass RX7 = some m.cls := findClass_of_methodNamed B.named
  have hlocks := B.notSynchronized
  have hD := hD0.toAdr
  have hS : va_S (adr (wTown cI ta st dy ln rd kd dd nt lf ++ wTrace cI za (nI σ.1) σ.2)) s.heap s.heap [] := va_S.rf
  generalize adr (wTown cI ta st dy ln rd kd dd nt lf ++ wTrace cI za (nI σ.1) σ.2) = A at hD hS ⊢
  have hl := lv_entry ([.ref xa, .ref (ta 0), .int (nI (r)), .ref (za 0)]) (n := 4) (Nat.le_of_ble_eq_true rfl)
  rw [lg_entry_eq]
  generalize (lg_sl ([.ref xa, .ref (ta 0), .int (nI (r)), .ref (za 0)]) ++ List.replicate (4 - (lg_sl ([.ref xa, .ref (ta 0), .int (nI (r)), .ref (za 0)])).length) Slot.unset).toArray = ls at hl ⊢
  have hl : lv_has ls 4 [(0, .ref xa), (1, .ref (ta 0)), (2, .int (nI (r))), (3, .ref (za 0))] := hl
  refine lv_aload_n hx hb dX7_mark_0 rfl (lv_at hl 3 rfl) ?_
  refine lv_bipush (v := 20) hx hb dX7_mark_1 (by decide) ?_
  refine b_callM [5, 6] (va_runV (As := [.int 20]) (rest := []) ⟨hx, hb, hml, hown, hts⟩ (c_X9_leave l D cI cZ cT za σ 20 hz) (cwV 1 hts gX7_mark_X9_leave rfl rfl rfl (by decide +kernel) ⟨(Nat.le_of_ble_eq_true rfl), (Nat.le_of_ble_eq_true rfl)⟩) (b_pVM hK hP hD [5, 6] (by decide) rfl rfl 5 rfl rfl) rfl rfl hl.1 rfl (lv_room (Nat.le_of_ble_eq_true rfl)) dX7_mark_3 ⟨Nat.zero_le _, Nat.zero_le _⟩).run hP hD hS rfl (Nat.le_of_ble_eq_true rfl) (fun H locs hP hS => ?_)
  have hP : va_P D vwCl (wTown cI ta st dy ln rd kd dd nt lf ++ wTrace cI za (nI (m_beg σ 20).1) ((m_beg σ 20).2)) H := hP
  generalize eq3 : m_beg σ 20 = q3 at hP ⊢
  have hP : va_P D vwCl (wTown cI ta st dy ln rd kd dd nt lf ++ wTrace cI za (nI q3.1) q3.2) H := hP
  have hD : va_D A (wTown cI ta st dy ln rd kd dd nt lf ++ wTrace cI za (nI q3.1) q3.2) := hD.sameA [(ta 0), (ta 1), (ta 2), (ta 3), (ta 4), (za 0), (za 1)] rfl rfl
  have hq3 : q3.1 ≤ 16 := by rw [← eq3]; first | exact m_beg_le hz | exact m_beg_le (m_beg_le hz) | exact m_beg_le (m_beg_le (m_beg_le hz)) | exact m_beg_le (m_beg_le (m_beg_le (m_beg_le hz))) | exact m_beg_le (m_beg_le (m_beg_le (m_beg_le (m_beg_le hz))))
  refine lv_iload_n hx hb dX7_mark_6 rfl (lv_at hl 2 rfl) ?_
  have E : m_beg σ 20 = q3 := (by rw [eq3])
  try rw [E]
  exact b_retM hx hb hr hP hS rfl dX7_mark_7 hlocks
theorem u_X3_mark_X8 : ∀ w ∈ wsX80, w ∈ wsX3_mark := fun _ h => List.mem_cons_of_mem _ (List.mem_append_left _ (List.mem_append_right _ h))
set_option maxHeartbeats 4000000 in
set_option maxRecDepth 100000 in
theorem c_X3_mark_X3 (l : Launch) (D : va_G) (cI cZ cT : ClassId) (ta : Nat → Nat) (st dy ln rd : Int32) (kd dd nt lf : Nat → Int32) (za : Nat → Nat) (xa : Nat) (σ : Nat × (Nat → Int32)) (r : Nat) (hr_ : r ≤ 5) (hz : σ.1 ≤ 16) : Met l yX3_mark wsX3_mark ({ frames := 2, cells := 0, slots := 0, locals := 44 }) (pM D cI cZ cT [.ref xa, .ref (ta 0), .int (nI (r)), .ref (za 0)] (wTown cI ta st dy ln rd kd dd nt lf ++ wTrace cI za (nI σ.1) σ.2 ++ wTmp 3 xa)) (qM D (some (.int (nI r + bc32 (dd r)))) (wTown cI ta st dy ln rd kd dd nt lf ++ wTrace cI za (nI (m_beg (m_beg σ 21) 20).1) ((m_beg (m_beg σ 21) 20).2) ++ wTmp 3 xa) (adr (wTown cI ta st dy ln rd kd dd nt lf ++ wTrace cI za (nI σ.1) σ.2 ++ wTmp 3 xa))) 0 0 (adr (wTown cI ta st dy ln rd kd dd nt lf ++ wTrace cI za (nI σ.1) σ.2 ++ wTmp 3 xa)) := by
  refine Met.ofW (cc := cX3_mark) (maxL := 4) (ret := (some .int)) (by decide) rfl ?_
  intro p e s m args below meth c s₁ B hml hv
  obtain ⟨rfl, hP, hD0, hK⟩ := hv
  have hx := B.exec
  have hb := B.bytes
  have hr := B.returns
  have hts := atoms_spec (ws := wsX3_mark) B.pre
  have hown : s.vm.findClass RX3 = some m.cls := findClass_of_methodNamed B.named
  have hlocks := B.notSynchronized
  have hD := hD0.toAdr
  have hS : va_S (adr (wTown cI ta st dy ln rd kd dd nt lf ++ wTrace cI za (nI σ.1) σ.2 ++ wTmp 3 xa)) s.heap s.heap [] := va_S.rf
  generalize adr (wTown cI ta st dy ln rd kd dd nt lf ++ wTrace cI za (nI σ.1) σ.2 ++ wTmp 3 xa) = A at hD hS ⊢
  have hl := lv_entry ([.ref xa, .ref (ta 0), .int (nI (r)), .ref (za 0)]) (n := 4) (Nat.le_of_ble_eq_true rfl)
  rw [lg_entry_eq]
  generalize (lg_sl ([.ref xa, .ref (ta 0), .int (nI (r)), .ref (za 0)]) ++ List.replicate (4 - (lg_sl ([.ref xa, .ref (ta 0), .int (nI (r)), .ref (za 0)])).length) Slot.unset).toArray = ls at hl ⊢
  have hl : lv_has ls 4 [(0, .ref xa), (1, .ref (ta 0)), (2, .int (nI (r))), (3, .ref (za 0))] := hl
  refine lv_aload_n hx hb dX3_mark_0 rfl (lv_at hl 3 rfl) ?_
  refine lv_bipush (v := 21) hx hb dX3_mark_1 (by decide) ?_
  refine b_callM [5, 6] (va_runV (As := [.int 21]) (rest := []) ⟨hx, hb, hml, hown, hts⟩ (c_X9_leave l D cI cZ cT za σ 21 hz) (cwV 1 hts gX3_mark_X9_leave rfl rfl rfl (by decide +kernel) ⟨(Nat.le_of_ble_eq_true rfl), (Nat.le_of_ble_eq_true rfl)⟩) (b_pVM hK hP hD [5, 6] (by decide) rfl rfl 5 rfl rfl) rfl rfl hl.1 rfl (lv_room (Nat.le_of_ble_eq_true rfl)) dX3_mark_3 ⟨Nat.zero_le _, Nat.zero_le _⟩).run hP hD hS rfl (Nat.le_of_ble_eq_true rfl) (fun H locs hP hS => ?_)
  have hP : va_P D vwCl (wTown cI ta st dy ln rd kd dd nt lf ++ wTrace cI za (nI (m_beg σ 21).1) ((m_beg σ 21).2) ++ wTmp 3 xa) H := hP
  generalize eq3 : m_beg σ 21 = q3 at hP ⊢
  have hP : va_P D vwCl (wTown cI ta st dy ln rd kd dd nt lf ++ wTrace cI za (nI q3.1) q3.2 ++ wTmp 3 xa) H := hP
  have hD : va_D A (wTown cI ta st dy ln rd kd dd nt lf ++ wTrace cI za (nI q3.1) q3.2 ++ wTmp 3 xa) := hD.sameA [(ta 0), (ta 1), (ta 2), (ta 3), (ta 4), (za 0), (za 1), xa] rfl rfl
  have hq3 : q3.1 ≤ 16 := by rw [← eq3]; first | exact m_beg_le hz | exact m_beg_le (m_beg_le hz) | exact m_beg_le (m_beg_le (m_beg_le hz)) | exact m_beg_le (m_beg_le (m_beg_le (m_beg_le hz))) | exact m_beg_le (m_beg_le (m_beg_le (m_beg_le (m_beg_le hz))))
  refine lv_aload_n hx hb dX3_mark_6 rfl (lv_at hl 0 rfl) ?_
  refine lv_aload_n hx hb dX3_mark_7 rfl (lv_at hl 1 rfl) ?_
  refine lv_iload_n hx hb dX3_mark_8 rfl (lv_at hl 2 rfl) ?_
  refine lv_aload_n hx hb dX3_mark_9 rfl (lv_at hl 3 rfl) ?_
  refine b_callM [0, 1, 2, 3, 4, 5, 6] (va_runSU (As := [.ref (ta 0), .int (nI (r)), .ref (za 0)]) (rest := []) (hK.1.1 3 _ rfl).2 ⟨hx, hb, hml, hown, hts⟩ (c_X7_mark l D cI cZ cT ta st dy ln rd kd dd nt lf za xa q3 r hr_ (by omega)) (va_cwSU 3 hts gX3_mark_X7_mark_s28 rfl rfl rfl (by decide +kernel) ⟨(Nat.le_of_ble_eq_true rfl), (Nat.le_of_ble_eq_true rfl)⟩) (b_pVM hK hP hD [0, 1, 2, 3, 4, 5, 6] (by decide) rfl rfl 7 rfl rfl) rfl rfl hl.1 rfl (lv_room (Nat.le_of_ble_eq_true rfl)) dX3_mark_10 ⟨Nat.zero_le _, Nat.zero_le _⟩).run hP hD hS rfl (Nat.le_of_ble_eq_true rfl) (fun H locs hP hS => ?_)
  have hP : va_P D vwCl (wTown cI ta st dy ln rd kd dd nt lf ++ wTrace cI za (nI (m_beg q3 20).1) ((m_beg q3 20).2) ++ wTmp 3 xa) H := hP
  generalize eq10 : m_beg q3 20 = q10 at hP ⊢
  have hP : va_P D vwCl (wTown cI ta st dy ln rd kd dd nt lf ++ wTrace cI za (nI q10.1) q10.2 ++ wTmp 3 xa) H := hP
  have hD : va_D A (wTown cI ta st dy ln rd kd dd nt lf ++ wTrace cI za (nI q10.1) q10.2 ++ wTmp 3 xa) := hD.sameA [(ta 0), (ta 1), (ta 2), (ta 3), (ta 4), (za 0), (za 1), xa] rfl rfl
  have hq10 : q10.1 ≤ 16 := by rw [← eq10]; first | exact m_beg_le hq3 | exact m_beg_le (m_beg_le hq3) | exact m_beg_le (m_beg_le (m_beg_le hq3)) | exact m_beg_le (m_beg_le (m_beg_le (m_beg_le hq3))) | exact m_beg_le (m_beg_le (m_beg_le (m_beg_le (m_beg_le hq3))))
  refine lv_aload_n hx hb dX3_mark_13 rfl (lv_at hl 1 rfl) ?_
  refine va_get (D := D) (ci := 7) (v := .ref (ta 2)) (C := RX8) (T := TX8) (N := 8) hx hb hts u_X3_mark_X8 hown hK.1 hP 0 rfl rfl 5 (by decide) (hts (.fieldLink RX3 29 "NoticeWeek$Town" "did" "[I") (List.mem_of_getElem? (i := 1) rfl)) (fun _ h9 => h9) rfl dX3_mark_14 ?_
  refine lv_iload_n hx hb dX3_mark_17 rfl (lv_at hl 2 rfl) ?_
  refine b_ald hx hb hK hP 2 rfl (by omega) (by decide) dX3_mark_18 ?_
  refine b_call (va_runS (As := [.int (dd r)]) (rest := [.int (nI (r))]) ⟨hx, hb, hml, hown, hts⟩ (c_J6_bitCount_0f7a4 l D cI cZ cT (dd r)) (va_cwS 1 hts gX3_mark_J6_bitCount_0f7a4 rfl rfl rfl (by decide +kernel) ⟨(Nat.le_of_ble_eq_true rfl), (Nat.le_of_ble_eq_true rfl)⟩) (b_pS0 hK) rfl rfl hl.1 rfl (lv_room (Nat.le_of_ble_eq_true rfl)) dX3_mark_19 ⟨Nat.zero_le _, Nat.zero_le _⟩).run ?_
  refine lv_iadd hx hb dX3_mark_22 ?_
  have E : m_beg (m_beg σ 21) 20 = q10 := (by rw [eq3, eq10])
  try rw [E]
  exact b_retM hx hb hr hP hS rfl dX3_mark_23 hlocks
set_option maxHeartbeats 4000000 in
set_option maxRecDepth 100000 in
theorem c_X3_mark_X10 (l : Launch) (D : va_G) (cI cZ cT : ClassId) (ta : Nat → Nat) (st dy ln rd : Int32) (kd dd nt lf : Nat → Int32) (za : Nat → Nat) (xa : Nat) (σ : Nat × (Nat → Int32)) (r : Nat) (hr_ : r ≤ 5) (hz : σ.1 ≤ 16) : Met l yX3_mark wsX3_mark ({ frames := 2, cells := 0, slots := 0, locals := 44 }) (pM D cI cZ cT [.ref xa, .ref (ta 0), .int (nI (r)), .ref (za 0)] (wTown cI ta st dy ln rd kd dd nt lf ++ wTrace cI za (nI σ.1) σ.2 ++ wTmp 9 xa)) (qM D (some (.int (nI r + bc32 (dd r)))) (wTown cI ta st dy ln rd kd dd nt lf ++ wTrace cI za (nI (m_beg (m_beg σ 21) 20).1) ((m_beg (m_beg σ 21) 20).2) ++ wTmp 9 xa) (adr (wTown cI ta st dy ln rd kd dd nt lf ++ wTrace cI za (nI σ.1) σ.2 ++ wTmp 9 xa))) 0 0 (adr (wTown cI ta st dy ln rd kd dd nt lf ++ wTrace cI za (nI σ.1) σ.2 ++ wTmp 9 xa)) := by
  refine Met.ofW (cc := cX3_mark) (maxL := 4) (ret := (some .int)) (by decide) rfl ?_
  intro p e s m args below meth c s₁ B hml hv
  obtain ⟨rfl, hP, hD0, hK⟩ := hv
  have hx := B.exec
  have hb := B.bytes
  have hr := B.returns
  have hts := atoms_spec (ws := wsX3_mark) B.pre
  have hown : s.vm.findClass RX3 = some m.cls := findClass_of_methodNamed B.named
  have hlocks := B.notSynchronized
  have hD := hD0.toAdr
  have hS : va_S (adr (wTown cI ta st dy ln rd kd dd nt lf ++ wTrace cI za (nI σ.1) σ.2 ++ wTmp 9 xa)) s.heap s.heap [] := va_S.rf
  generalize adr (wTown cI ta st dy ln rd kd dd nt lf ++ wTrace cI za (nI σ.1) σ.2 ++ wTmp 9 xa) = A at hD hS ⊢
  have hl := lv_entry ([.ref xa, .ref (ta 0), .int (nI (r)), .ref (za 0)]) (n := 4) (Nat.le_of_ble_eq_true rfl)
  rw [lg_entry_eq]
  generalize (lg_sl ([.ref xa, .ref (ta 0), .int (nI (r)), .ref (za 0)]) ++ List.replicate (4 - (lg_sl ([.ref xa, .ref (ta 0), .int (nI (r)), .ref (za 0)])).length) Slot.unset).toArray = ls at hl ⊢
  have hl : lv_has ls 4 [(0, .ref xa), (1, .ref (ta 0)), (2, .int (nI (r))), (3, .ref (za 0))] := hl
  refine lv_aload_n hx hb dX3_mark_0 rfl (lv_at hl 3 rfl) ?_
  refine lv_bipush (v := 21) hx hb dX3_mark_1 (by decide) ?_
  refine b_callM [5, 6] (va_runV (As := [.int 21]) (rest := []) ⟨hx, hb, hml, hown, hts⟩ (c_X9_leave l D cI cZ cT za σ 21 hz) (cwV 1 hts gX3_mark_X9_leave rfl rfl rfl (by decide +kernel) ⟨(Nat.le_of_ble_eq_true rfl), (Nat.le_of_ble_eq_true rfl)⟩) (b_pVM hK hP hD [5, 6] (by decide) rfl rfl 5 rfl rfl) rfl rfl hl.1 rfl (lv_room (Nat.le_of_ble_eq_true rfl)) dX3_mark_3 ⟨Nat.zero_le _, Nat.zero_le _⟩).run hP hD hS rfl (Nat.le_of_ble_eq_true rfl) (fun H locs hP hS => ?_)
  have hP : va_P D vwCl (wTown cI ta st dy ln rd kd dd nt lf ++ wTrace cI za (nI (m_beg σ 21).1) ((m_beg σ 21).2) ++ wTmp 9 xa) H := hP
  generalize eq3 : m_beg σ 21 = q3 at hP ⊢
  have hP : va_P D vwCl (wTown cI ta st dy ln rd kd dd nt lf ++ wTrace cI za (nI q3.1) q3.2 ++ wTmp 9 xa) H := hP
  have hD : va_D A (wTown cI ta st dy ln rd kd dd nt lf ++ wTrace cI za (nI q3.1) q3.2 ++ wTmp 9 xa) := hD.sameA [(ta 0), (ta 1), (ta 2), (ta 3), (ta 4), (za 0), (za 1), xa] rfl rfl
  have hq3 : q3.1 ≤ 16 := by rw [← eq3]; first | exact m_beg_le hz | exact m_beg_le (m_beg_le hz) | exact m_beg_le (m_beg_le (m_beg_le hz)) | exact m_beg_le (m_beg_le (m_beg_le (m_beg_le hz))) | exact m_beg_le (m_beg_le (m_beg_le (m_beg_le (m_beg_le hz))))
  refine lv_aload_n hx hb dX3_mark_6 rfl (lv_at hl 0 rfl) ?_
  refine lv_aload_n hx hb dX3_mark_7 rfl (lv_at hl 1 rfl) ?_
  refine lv_iload_n hx hb dX3_mark_8 rfl (lv_at hl 2 rfl) ?_
  refine lv_aload_n hx hb dX3_mark_9 rfl (lv_at hl 3 rfl) ?_
  refine b_callM [0, 1, 2, 3, 4, 5, 6] (va_runSU (As := [.ref (ta 0), .int (nI (r)), .ref (za 0)]) (rest := []) (hK.1.1 9 _ rfl).2 ⟨hx, hb, hml, hown, hts⟩ (c_X7_mark l D cI cZ cT ta st dy ln rd kd dd nt lf za xa q3 r hr_ (by omega)) (va_cwSU 3 hts gX3_mark_X7_mark_s28 rfl rfl rfl (by decide +kernel) ⟨(Nat.le_of_ble_eq_true rfl), (Nat.le_of_ble_eq_true rfl)⟩) (b_pVM hK hP hD [0, 1, 2, 3, 4, 5, 6] (by decide) rfl rfl 7 rfl rfl) rfl rfl hl.1 rfl (lv_room (Nat.le_of_ble_eq_true rfl)) dX3_mark_10 ⟨Nat.zero_le _, Nat.zero_le _⟩).run hP hD hS rfl (Nat.le_of_ble_eq_true rfl) (fun H locs hP hS => ?_)
  have hP : va_P D vwCl (wTown cI ta st dy ln rd kd dd nt lf ++ wTrace cI za (nI (m_beg q3 20).1) ((m_beg q3 20).2) ++ wTmp 9 xa) H := hP
  generalize eq10 : m_beg q3 20 = q10 at hP ⊢
  have hP : va_P D vwCl (wTown cI ta st dy ln rd kd dd nt lf ++ wTrace cI za (nI q10.1) q10.2 ++ wTmp 9 xa) H := hP
  have hD : va_D A (wTown cI ta st dy ln rd kd dd nt lf ++ wTrace cI za (nI q10.1) q10.2 ++ wTmp 9 xa) := hD.sameA [(ta 0), (ta 1), (ta 2), (ta 3), (ta 4), (za 0), (za 1), xa] rfl rfl
  have hq10 : q10.1 ≤ 16 := by rw [← eq10]; first | exact m_beg_le hq3 | exact m_beg_le (m_beg_le hq3) | exact m_beg_le (m_beg_le (m_beg_le hq3)) | exact m_beg_le (m_beg_le (m_beg_le (m_beg_le hq3))) | exact m_beg_le (m_beg_le (m_beg_le (m_beg_le (m_beg_le hq3))))
  refine lv_aload_n hx hb dX3_mark_13 rfl (lv_at hl 1 rfl) ?_
  refine va_get (D := D) (ci := 7) (v := .ref (ta 2)) (C := RX8) (T := TX8) (N := 8) hx hb hts u_X3_mark_X8 hown hK.1 hP 0 rfl rfl 5 (by decide) (hts (.fieldLink RX3 29 "NoticeWeek$Town" "did" "[I") (List.mem_of_getElem? (i := 1) rfl)) (fun _ h9 => h9) rfl dX3_mark_14 ?_
  refine lv_iload_n hx hb dX3_mark_17 rfl (lv_at hl 2 rfl) ?_
  refine b_ald hx hb hK hP 2 rfl (by omega) (by decide) dX3_mark_18 ?_
  refine b_call (va_runS (As := [.int (dd r)]) (rest := [.int (nI (r))]) ⟨hx, hb, hml, hown, hts⟩ (c_J6_bitCount_0f7a4 l D cI cZ cT (dd r)) (va_cwS 1 hts gX3_mark_J6_bitCount_0f7a4 rfl rfl rfl (by decide +kernel) ⟨(Nat.le_of_ble_eq_true rfl), (Nat.le_of_ble_eq_true rfl)⟩) (b_pS0 hK) rfl rfl hl.1 rfl (lv_room (Nat.le_of_ble_eq_true rfl)) dX3_mark_19 ⟨Nat.zero_le _, Nat.zero_le _⟩).run ?_
  refine lv_iadd hx hb dX3_mark_22 ?_
  have E : m_beg (m_beg σ 21) 20 = q10 := (by rw [eq3, eq10])
  try rw [E]
  exact b_retM hx hb hr hP hS rfl dX3_mark_23 hlocks
set_option maxHeartbeats 4000000 in
set_option maxRecDepth 100000 in
theorem c_X3_mark_X5 (l : Launch) (D : va_G) (cI cZ cT : ClassId) (ta : Nat → Nat) (st dy ln rd : Int32) (kd dd nt lf : Nat → Int32) (za : Nat → Nat) (xa : Nat) (σ : Nat × (Nat → Int32)) (r : Nat) (hr_ : r ≤ 5) (hz : σ.1 ≤ 16) : Met l yX3_mark wsX3_mark ({ frames := 2, cells := 0, slots := 0, locals := 44 }) (pM D cI cZ cT [.ref xa, .ref (ta 0), .int (nI (r)), .ref (za 0)] (wTown cI ta st dy ln rd kd dd nt lf ++ wTrace cI za (nI σ.1) σ.2 ++ wTmp 5 xa)) (qM D (some (.int (nI r + bc32 (dd r)))) (wTown cI ta st dy ln rd kd dd nt lf ++ wTrace cI za (nI (m_beg (m_beg σ 21) 20).1) ((m_beg (m_beg σ 21) 20).2) ++ wTmp 5 xa) (adr (wTown cI ta st dy ln rd kd dd nt lf ++ wTrace cI za (nI σ.1) σ.2 ++ wTmp 5 xa))) 0 0 (adr (wTown cI ta st dy ln rd kd dd nt lf ++ wTrace cI za (nI σ.1) σ.2 ++ wTmp 5 xa)) := by
  refine Met.ofW (cc := cX3_mark) (maxL := 4) (ret := (some .int)) (by decide) rfl ?_
  intro p e s m args below meth c s₁ B hml hv
  obtain ⟨rfl, hP, hD0, hK⟩ := hv
  have hx := B.exec
  have hb := B.bytes
  have hr := B.returns
  have hts := atoms_spec (ws := wsX3_mark) B.pre
  have hown : s.vm.findClass RX3 = some m.cls := findClass_of_methodNamed B.named
  have hlocks := B.notSynchronized
  have hD := hD0.toAdr
  have hS : va_S (adr (wTown cI ta st dy ln rd kd dd nt lf ++ wTrace cI za (nI σ.1) σ.2 ++ wTmp 5 xa)) s.heap s.heap [] := va_S.rf
  generalize adr (wTown cI ta st dy ln rd kd dd nt lf ++ wTrace cI za (nI σ.1) σ.2 ++ wTmp 5 xa) = A at hD hS ⊢
  have hl := lv_entry ([.ref xa, .ref (ta 0), .int (nI (r)), .ref (za 0)]) (n := 4) (Nat.le_of_ble_eq_true rfl)
  rw [lg_entry_eq]
  generalize (lg_sl ([.ref xa, .ref (ta 0), .int (nI (r)), .ref (za 0)]) ++ List.replicate (4 - (lg_sl ([.ref xa, .ref (ta 0), .int (nI (r)), .ref (za 0)])).length) Slot.unset).toArray = ls at hl ⊢
  have hl : lv_has ls 4 [(0, .ref xa), (1, .ref (ta 0)), (2, .int (nI (r))), (3, .ref (za 0))] := hl
  refine lv_aload_n hx hb dX3_mark_0 rfl (lv_at hl 3 rfl) ?_
  refine lv_bipush (v := 21) hx hb dX3_mark_1 (by decide) ?_
  refine b_callM [5, 6] (va_runV (As := [.int 21]) (rest := []) ⟨hx, hb, hml, hown, hts⟩ (c_X9_leave l D cI cZ cT za σ 21 hz) (cwV 1 hts gX3_mark_X9_leave rfl rfl rfl (by decide +kernel) ⟨(Nat.le_of_ble_eq_true rfl), (Nat.le_of_ble_eq_true rfl)⟩) (b_pVM hK hP hD [5, 6] (by decide) rfl rfl 5 rfl rfl) rfl rfl hl.1 rfl (lv_room (Nat.le_of_ble_eq_true rfl)) dX3_mark_3 ⟨Nat.zero_le _, Nat.zero_le _⟩).run hP hD hS rfl (Nat.le_of_ble_eq_true rfl) (fun H locs hP hS => ?_)
  have hP : va_P D vwCl (wTown cI ta st dy ln rd kd dd nt lf ++ wTrace cI za (nI (m_beg σ 21).1) ((m_beg σ 21).2) ++ wTmp 5 xa) H := hP
  generalize eq3 : m_beg σ 21 = q3 at hP ⊢
  have hP : va_P D vwCl (wTown cI ta st dy ln rd kd dd nt lf ++ wTrace cI za (nI q3.1) q3.2 ++ wTmp 5 xa) H := hP
  have hD : va_D A (wTown cI ta st dy ln rd kd dd nt lf ++ wTrace cI za (nI q3.1) q3.2 ++ wTmp 5 xa) := hD.sameA [(ta 0), (ta 1), (ta 2), (ta 3), (ta 4), (za 0), (za 1), xa] rfl rfl
  have hq3 : q3.1 ≤ 16 := by rw [← eq3]; first | exact m_beg_le hz | exact m_beg_le (m_beg_le hz) | exact m_beg_le (m_beg_le (m_beg_le hz)) | exact m_beg_le (m_beg_le (m_beg_le (m_beg_le hz))) | exact m_beg_le (m_beg_le (m_beg_le (m_beg_le (m_beg_le hz))))
  refine lv_aload_n hx hb dX3_mark_6 rfl (lv_at hl 0 rfl) ?_
  refine lv_aload_n hx hb dX3_mark_7 rfl (lv_at hl 1 rfl) ?_
  refine lv_iload_n hx hb dX3_mark_8 rfl (lv_at hl 2 rfl) ?_
  refine lv_aload_n hx hb dX3_mark_9 rfl (lv_at hl 3 rfl) ?_
  refine b_callM [0, 1, 2, 3, 4, 5, 6] (va_runSU (As := [.ref (ta 0), .int (nI (r)), .ref (za 0)]) (rest := []) (hK.1.1 5 _ rfl).2 ⟨hx, hb, hml, hown, hts⟩ (c_X7_mark l D cI cZ cT ta st dy ln rd kd dd nt lf za xa q3 r hr_ (by omega)) (va_cwSU 3 hts gX3_mark_X7_mark_s28 rfl rfl rfl (by decide +kernel) ⟨(Nat.le_of_ble_eq_true rfl), (Nat.le_of_ble_eq_true rfl)⟩) (b_pVM hK hP hD [0, 1, 2, 3, 4, 5, 6] (by decide) rfl rfl 7 rfl rfl) rfl rfl hl.1 rfl (lv_room (Nat.le_of_ble_eq_true rfl)) dX3_mark_10 ⟨Nat.zero_le _, Nat.zero_le _⟩).run hP hD hS rfl (Nat.le_of_ble_eq_true rfl) (fun H locs hP hS => ?_)
  have hP : va_P D vwCl (wTown cI ta st dy ln rd kd dd nt lf ++ wTrace cI za (nI (m_beg q3 20).1) ((m_beg q3 20).2) ++ wTmp 5 xa) H := hP
  generalize eq10 : m_beg q3 20 = q10 at hP ⊢
  have hP : va_P D vwCl (wTown cI ta st dy ln rd kd dd nt lf ++ wTrace cI za (nI q10.1) q10.2 ++ wTmp 5 xa) H := hP
  have hD : va_D A (wTown cI ta st dy ln rd kd dd nt lf ++ wTrace cI za (nI q10.1) q10.2 ++ wTmp 5 xa) := hD.sameA [(ta 0), (ta 1), (ta 2), (ta 3), (ta 4), (za 0), (za 1), xa] rfl rfl
  have hq10 : q10.1 ≤ 16 := by rw [← eq10]; first | exact m_beg_le hq3 | exact m_beg_le (m_beg_le hq3) | exact m_beg_le (m_beg_le (m_beg_le hq3)) | exact m_beg_le (m_beg_le (m_beg_le (m_beg_le hq3))) | exact m_beg_le (m_beg_le (m_beg_le (m_beg_le (m_beg_le hq3))))
  refine lv_aload_n hx hb dX3_mark_13 rfl (lv_at hl 1 rfl) ?_
  refine va_get (D := D) (ci := 7) (v := .ref (ta 2)) (C := RX8) (T := TX8) (N := 8) hx hb hts u_X3_mark_X8 hown hK.1 hP 0 rfl rfl 5 (by decide) (hts (.fieldLink RX3 29 "NoticeWeek$Town" "did" "[I") (List.mem_of_getElem? (i := 1) rfl)) (fun _ h9 => h9) rfl dX3_mark_14 ?_
  refine lv_iload_n hx hb dX3_mark_17 rfl (lv_at hl 2 rfl) ?_
  refine b_ald hx hb hK hP 2 rfl (by omega) (by decide) dX3_mark_18 ?_
  refine b_call (va_runS (As := [.int (dd r)]) (rest := [.int (nI (r))]) ⟨hx, hb, hml, hown, hts⟩ (c_J6_bitCount_0f7a4 l D cI cZ cT (dd r)) (va_cwS 1 hts gX3_mark_J6_bitCount_0f7a4 rfl rfl rfl (by decide +kernel) ⟨(Nat.le_of_ble_eq_true rfl), (Nat.le_of_ble_eq_true rfl)⟩) (b_pS0 hK) rfl rfl hl.1 rfl (lv_room (Nat.le_of_ble_eq_true rfl)) dX3_mark_19 ⟨Nat.zero_le _, Nat.zero_le _⟩).run ?_
  refine lv_iadd hx hb dX3_mark_22 ?_
  have E : m_beg (m_beg σ 21) 20 = q10 := (by rw [eq3, eq10])
  try rw [E]
  exact b_retM hx hb hr hP hS rfl dX3_mark_23 hlocks
set_option maxHeartbeats 4000000 in
set_option maxRecDepth 100000 in
theorem c_X10_mark_X10 (l : Launch) (D : va_G) (cI cZ cT : ClassId) (ta : Nat → Nat) (st dy ln rd : Int32) (kd dd nt lf : Nat → Int32) (za : Nat → Nat) (xa : Nat) (σ : Nat × (Nat → Int32)) (r : Nat) (hr_ : r ≤ 5) (hz : σ.1 ≤ 16) : Met l yX10_mark wsX10_mark ({ frames := 3, cells := 0, slots := 0, locals := 67 }) (pM D cI cZ cT [.ref xa, .ref (ta 0), .int (nI (r)), .ref (za 0)] (wTown cI ta st dy ln rd kd dd nt lf ++ wTrace cI za (nI σ.1) σ.2 ++ wTmp 9 xa)) (qM D (some (.int (2 * (nI r + bc32 (dd r))))) (wTown cI ta st dy ln rd kd dd nt lf ++ wTrace cI za (nI (m_beg (m_beg (m_beg σ 24) 21) 20).1) ((m_beg (m_beg (m_beg σ 24) 21) 20).2) ++ wTmp 9 xa) (adr (wTown cI ta st dy ln rd kd dd nt lf ++ wTrace cI za (nI σ.1) σ.2 ++ wTmp 9 xa))) 0 0 (adr (wTown cI ta st dy ln rd kd dd nt lf ++ wTrace cI za (nI σ.1) σ.2 ++ wTmp 9 xa)) := by
  refine Met.ofW (cc := cX10_mark) (maxL := 4) (ret := (some .int)) (by decide) rfl ?_
  intro p e s m args below meth c s₁ B hml hv
  obtain ⟨rfl, hP, hD0, hK⟩ := hv
  have hx := B.exec
  have hb := B.bytes
  have hr := B.returns
  have hts := atoms_spec (ws := wsX10_mark) B.pre
  have hown : s.vm.findClass RX10 = some m.cls := findClass_of_methodNamed B.named
  have hlocks := B.notSynchronized
  have hD := hD0.toAdr
  have hS : va_S (adr (wTown cI ta st dy ln rd kd dd nt lf ++ wTrace cI za (nI σ.1) σ.2 ++ wTmp 9 xa)) s.heap s.heap [] := va_S.rf
  generalize adr (wTown cI ta st dy ln rd kd dd nt lf ++ wTrace cI za (nI σ.1) σ.2 ++ wTmp 9 xa) = A at hD hS ⊢
  have hl := lv_entry ([.ref xa, .ref (ta 0), .int (nI (r)), .ref (za 0)]) (n := 4) (Nat.le_of_ble_eq_true rfl)
  rw [lg_entry_eq]
  generalize (lg_sl ([.ref xa, .ref (ta 0), .int (nI (r)), .ref (za 0)]) ++ List.replicate (4 - (lg_sl ([.ref xa, .ref (ta 0), .int (nI (r)), .ref (za 0)])).length) Slot.unset).toArray = ls at hl ⊢
  have hl : lv_has ls 4 [(0, .ref xa), (1, .ref (ta 0)), (2, .int (nI (r))), (3, .ref (za 0))] := hl
  refine lv_aload_n hx hb dX10_mark_0 rfl (lv_at hl 3 rfl) ?_
  refine lv_bipush (v := 24) hx hb dX10_mark_1 (by decide) ?_
  refine b_callM [5, 6] (va_runV (As := [.int 24]) (rest := []) ⟨hx, hb, hml, hown, hts⟩ (c_X9_leave l D cI cZ cT za σ 24 hz) (cwV 1 hts gX10_mark_X9_leave rfl rfl rfl (by decide +kernel) ⟨(Nat.le_of_ble_eq_true rfl), (Nat.le_of_ble_eq_true rfl)⟩) (b_pVM hK hP hD [5, 6] (by decide) rfl rfl 5 rfl rfl) rfl rfl hl.1 rfl (lv_room (Nat.le_of_ble_eq_true rfl)) dX10_mark_3 ⟨Nat.zero_le _, Nat.zero_le _⟩).run hP hD hS rfl (Nat.le_of_ble_eq_true rfl) (fun H locs hP hS => ?_)
  have hP : va_P D vwCl (wTown cI ta st dy ln rd kd dd nt lf ++ wTrace cI za (nI (m_beg σ 24).1) ((m_beg σ 24).2) ++ wTmp 9 xa) H := hP
  generalize eq3 : m_beg σ 24 = q3 at hP ⊢
  have hP : va_P D vwCl (wTown cI ta st dy ln rd kd dd nt lf ++ wTrace cI za (nI q3.1) q3.2 ++ wTmp 9 xa) H := hP
  have hD : va_D A (wTown cI ta st dy ln rd kd dd nt lf ++ wTrace cI za (nI q3.1) q3.2 ++ wTmp 9 xa) := hD.sameA [(ta 0), (ta 1), (ta 2), (ta 3), (ta 4), (za 0), (za 1), xa] rfl rfl
  have hq3 : q3.1 ≤ 16 := by rw [← eq3]; first | exact m_beg_le hz | exact m_beg_le (m_beg_le hz) | exact m_beg_le (m_beg_le (m_beg_le hz)) | exact m_beg_le (m_beg_le (m_beg_le (m_beg_le hz))) | exact m_beg_le (m_beg_le (m_beg_le (m_beg_le (m_beg_le hz))))
  refine lv_iconst (v := 2) hx hb dX10_mark_6 (by decide) ?_
  refine lv_aload_n hx hb dX10_mark_7 rfl (lv_at hl 0 rfl) ?_
  refine lv_aload_n hx hb dX10_mark_8 rfl (lv_at hl 1 rfl) ?_
  refine lv_iload_n hx hb dX10_mark_9 rfl (lv_at hl 2 rfl) ?_
  refine lv_aload_n hx hb dX10_mark_10 rfl (lv_at hl 3 rfl) ?_
  refine b_callM [0, 1, 2, 3, 4, 5, 6, 7] (va_runSU (As := [.ref (ta 0), .int (nI (r)), .ref (za 0)]) (rest := [.int 2]) (hK.1.1 9 _ rfl).2 ⟨hx, hb, hml, hown, hts⟩ (c_X3_mark_X10 l D cI cZ cT ta st dy ln rd kd dd nt lf za xa q3 r hr_ (by omega)) (va_cwSU 3 hts gX10_mark_X3_mark_s27 rfl rfl rfl (by decide +kernel) ⟨(Nat.le_of_ble_eq_true rfl), (Nat.le_of_ble_eq_true rfl)⟩) (b_pVM hK hP hD [0, 1, 2, 3, 4, 5, 6, 7] (by decide) rfl rfl 7 rfl rfl) rfl rfl hl.1 rfl (lv_room (Nat.le_of_ble_eq_true rfl)) dX10_mark_11 ⟨Nat.zero_le _, Nat.zero_le _⟩).run hP hD hS rfl (Nat.le_of_ble_eq_true rfl) (fun H locs hP hS => ?_)
  have hP : va_P D vwCl (wTown cI ta st dy ln rd kd dd nt lf ++ wTrace cI za (nI (m_beg (m_beg q3 21) 20).1) ((m_beg (m_beg q3 21) 20).2) ++ wTmp 9 xa) H := hP
  generalize eq11 : m_beg (m_beg q3 21) 20 = q11 at hP ⊢
  have hP : va_P D vwCl (wTown cI ta st dy ln rd kd dd nt lf ++ wTrace cI za (nI q11.1) q11.2 ++ wTmp 9 xa) H := hP
  have hD : va_D A (wTown cI ta st dy ln rd kd dd nt lf ++ wTrace cI za (nI q11.1) q11.2 ++ wTmp 9 xa) := hD.sameA [(ta 0), (ta 1), (ta 2), (ta 3), (ta 4), (za 0), (za 1), xa] rfl rfl
  have hq11 : q11.1 ≤ 16 := by rw [← eq11]; first | exact m_beg_le hq3 | exact m_beg_le (m_beg_le hq3) | exact m_beg_le (m_beg_le (m_beg_le hq3)) | exact m_beg_le (m_beg_le (m_beg_le (m_beg_le hq3))) | exact m_beg_le (m_beg_le (m_beg_le (m_beg_le (m_beg_le hq3))))
  refine lv_imul hx hb dX10_mark_14 ?_
  have E : m_beg (m_beg (m_beg σ 24) 21) 20 = q11 := (by rw [eq3, eq11])
  try rw [E]
  exact b_retM hx hb hr hP hS rfl dX10_mark_15 hlocks
set_option maxHeartbeats 4000000 in
set_option maxRecDepth 100000 in
theorem c_X5_mark_X5 (l : Launch) (D : va_G) (cI cZ cT : ClassId) (ta : Nat → Nat) (st dy ln rd : Int32) (kd dd nt lf : Nat → Int32) (za : Nat → Nat) (xa : Nat) (σ : Nat × (Nat → Int32)) (r : Nat) (hr_ : r ≤ 5) (hz : σ.1 ≤ 16) : Met l yX5_mark wsX5_mark ({ frames := 3, cells := 0, slots := 0, locals := 67 }) (pM D cI cZ cT [.ref xa, .ref (ta 0), .int (nI (r)), .ref (za 0)] (wTown cI ta st dy ln rd kd dd nt lf ++ wTrace cI za (nI σ.1) σ.2 ++ wTmp 5 xa)) (qM D (some (.int (nI r + bc32 (dd r) - 1000))) (wTown cI ta st dy ln rd kd dd nt lf ++ wTrace cI za (nI (m_beg (m_beg (m_beg σ 22) 21) 20).1) ((m_beg (m_beg (m_beg σ 22) 21) 20).2) ++ wTmp 5 xa) (adr (wTown cI ta st dy ln rd kd dd nt lf ++ wTrace cI za (nI σ.1) σ.2 ++ wTmp 5 xa))) 0 0 (adr (wTown cI ta st dy ln rd kd dd nt lf ++ wTrace cI za (nI σ.1) σ.2 ++ wTmp 5 xa)) := by
  refine Met.ofW (cc := cX5_mark) (maxL := 4) (ret := (some .int)) (by decide) rfl ?_
  intro p e s m args below meth c s₁ B hml hv
  obtain ⟨rfl, hP, hD0, hK⟩ := hv
  have hx := B.exec
  have hb := B.bytes
  have hr := B.returns
  have hts := atoms_spec (ws := wsX5_mark) B.pre
  have hown : s.vm.findClass RX5 = some m.cls := findClass_of_methodNamed B.named
  have hlocks := B.notSynchronized
  have hD := hD0.toAdr
  have hS : va_S (adr (wTown cI ta st dy ln rd kd dd nt lf ++ wTrace cI za (nI σ.1) σ.2 ++ wTmp 5 xa)) s.heap s.heap [] := va_S.rf
  generalize adr (wTown cI ta st dy ln rd kd dd nt lf ++ wTrace cI za (nI σ.1) σ.2 ++ wTmp 5 xa) = A at hD hS ⊢
  have hl := lv_entry ([.ref xa, .ref (ta 0), .int (nI (r)), .ref (za 0)]) (n := 4) (Nat.le_of_ble_eq_true rfl)
  rw [lg_entry_eq]
  generalize (lg_sl ([.ref xa, .ref (ta 0), .int (nI (r)), .ref (za 0)]) ++ List.replicate (4 - (lg_sl ([.ref xa, .ref (ta 0), .int (nI (r)), .ref (za 0)])).length) Slot.unset).toArray = ls at hl ⊢
  have hl : lv_has ls 4 [(0, .ref xa), (1, .ref (ta 0)), (2, .int (nI (r))), (3, .ref (za 0))] := hl
  refine lv_aload_n hx hb dX5_mark_0 rfl (lv_at hl 3 rfl) ?_
  refine lv_bipush (v := 22) hx hb dX5_mark_1 (by decide) ?_
  refine b_callM [5, 6] (va_runV (As := [.int 22]) (rest := []) ⟨hx, hb, hml, hown, hts⟩ (c_X9_leave l D cI cZ cT za σ 22 hz) (cwV 1 hts gX5_mark_X9_leave rfl rfl rfl (by decide +kernel) ⟨(Nat.le_of_ble_eq_true rfl), (Nat.le_of_ble_eq_true rfl)⟩) (b_pVM hK hP hD [5, 6] (by decide) rfl rfl 5 rfl rfl) rfl rfl hl.1 rfl (lv_room (Nat.le_of_ble_eq_true rfl)) dX5_mark_3 ⟨Nat.zero_le _, Nat.zero_le _⟩).run hP hD hS rfl (Nat.le_of_ble_eq_true rfl) (fun H locs hP hS => ?_)
  have hP : va_P D vwCl (wTown cI ta st dy ln rd kd dd nt lf ++ wTrace cI za (nI (m_beg σ 22).1) ((m_beg σ 22).2) ++ wTmp 5 xa) H := hP
  generalize eq3 : m_beg σ 22 = q3 at hP ⊢
  have hP : va_P D vwCl (wTown cI ta st dy ln rd kd dd nt lf ++ wTrace cI za (nI q3.1) q3.2 ++ wTmp 5 xa) H := hP
  have hD : va_D A (wTown cI ta st dy ln rd kd dd nt lf ++ wTrace cI za (nI q3.1) q3.2 ++ wTmp 5 xa) := hD.sameA [(ta 0), (ta 1), (ta 2), (ta 3), (ta 4), (za 0), (za 1), xa] rfl rfl
  have hq3 : q3.1 ≤ 16 := by rw [← eq3]; first | exact m_beg_le hz | exact m_beg_le (m_beg_le hz) | exact m_beg_le (m_beg_le (m_beg_le hz)) | exact m_beg_le (m_beg_le (m_beg_le (m_beg_le hz))) | exact m_beg_le (m_beg_le (m_beg_le (m_beg_le (m_beg_le hz))))
  refine lv_aload_n hx hb dX5_mark_6 rfl (lv_at hl 0 rfl) ?_
  refine lv_aload_n hx hb dX5_mark_7 rfl (lv_at hl 1 rfl) ?_
  refine lv_iload_n hx hb dX5_mark_8 rfl (lv_at hl 2 rfl) ?_
  refine lv_aload_n hx hb dX5_mark_9 rfl (lv_at hl 3 rfl) ?_
  refine b_callM [0, 1, 2, 3, 4, 5, 6, 7] (va_runSU (As := [.ref (ta 0), .int (nI (r)), .ref (za 0)]) (rest := []) (hK.1.1 5 _ rfl).2 ⟨hx, hb, hml, hown, hts⟩ (c_X3_mark_X5 l D cI cZ cT ta st dy ln rd kd dd nt lf za xa q3 r hr_ (by omega)) (va_cwSU 3 hts gX5_mark_X3_mark_s25 rfl rfl rfl (by decide +kernel) ⟨(Nat.le_of_ble_eq_true rfl), (Nat.le_of_ble_eq_true rfl)⟩) (b_pVM hK hP hD [0, 1, 2, 3, 4, 5, 6, 7] (by decide) rfl rfl 7 rfl rfl) rfl rfl hl.1 rfl (lv_room (Nat.le_of_ble_eq_true rfl)) dX5_mark_10 ⟨Nat.zero_le _, Nat.zero_le _⟩).run hP hD hS rfl (Nat.le_of_ble_eq_true rfl) (fun H locs hP hS => ?_)
  have hP : va_P D vwCl (wTown cI ta st dy ln rd kd dd nt lf ++ wTrace cI za (nI (m_beg (m_beg q3 21) 20).1) ((m_beg (m_beg q3 21) 20).2) ++ wTmp 5 xa) H := hP
  generalize eq10 : m_beg (m_beg q3 21) 20 = q10 at hP ⊢
  have hP : va_P D vwCl (wTown cI ta st dy ln rd kd dd nt lf ++ wTrace cI za (nI q10.1) q10.2 ++ wTmp 5 xa) H := hP
  have hD : va_D A (wTown cI ta st dy ln rd kd dd nt lf ++ wTrace cI za (nI q10.1) q10.2 ++ wTmp 5 xa) := hD.sameA [(ta 0), (ta 1), (ta 2), (ta 3), (ta 4), (za 0), (za 1), xa] rfl rfl
  have hq10 : q10.1 ≤ 16 := by rw [← eq10]; first | exact m_beg_le hq3 | exact m_beg_le (m_beg_le hq3) | exact m_beg_le (m_beg_le (m_beg_le hq3)) | exact m_beg_le (m_beg_le (m_beg_le (m_beg_le hq3))) | exact m_beg_le (m_beg_le (m_beg_le (m_beg_le (m_beg_le hq3))))
  refine lv_sipush (v := 1000) hx hb dX5_mark_13 (by decide) ?_
  refine lv_isub hx hb dX5_mark_16 ?_
  have E : m_beg (m_beg (m_beg σ 22) 21) 20 = q10 := (by rw [eq3, eq10])
  try rw [E]
  exact b_retM hx hb hr hP hS rfl dX5_mark_17 hlocks
set_option maxHeartbeats 4000000 in
set_option maxRecDepth 100000 in
theorem c_X3_size_X3 (l : Launch) (D : va_G) (cI cZ cT : ClassId) (ta : Nat → Nat) (st dy ln rd : Int32) (kd dd nt lf : Nat → Int32) (za : Nat → Nat) (xa : Nat) (σ : Nat × (Nat → Int32)) (r : Nat) (hr_ : r ≤ 5) (hz : σ.1 ≤ 16) : Met l yX3_size wsX3_size ({ frames := 3, cells := 0, slots := 0, locals := 67 }) (pM D cI cZ cT [.ref xa, .ref (ta 0), .int (nI (r)), .ref (za 0)] (wTown cI ta st dy ln rd kd dd nt lf ++ wTrace cI za (nI σ.1) σ.2 ++ wTmp 3 xa)) (qM D (some (.int (bc32 (nt r) + (nI r + bc32 (dd r))))) (wTown cI ta st dy ln rd kd dd nt lf ++ wTrace cI za (nI (m_beg (m_beg (m_beg (m_beg σ 11) 10) 21) 20).1) ((m_beg (m_beg (m_beg (m_beg σ 11) 10) 21) 20).2) ++ wTmp 3 xa) (adr (wTown cI ta st dy ln rd kd dd nt lf ++ wTrace cI za (nI σ.1) σ.2 ++ wTmp 3 xa))) 0 0 (adr (wTown cI ta st dy ln rd kd dd nt lf ++ wTrace cI za (nI σ.1) σ.2 ++ wTmp 3 xa)) := by
  refine Met.ofW (cc := cX3_size) (maxL := 4) (ret := (some .int)) (by decide) rfl ?_
  intro p e s m args below meth c s₁ B hml hv
  obtain ⟨rfl, hP, hD0, hK⟩ := hv
  have hx := B.exec
  have hb := B.bytes
  have hr := B.returns
  have hts := atoms_spec (ws := wsX3_size) B.pre
  have hown : s.vm.findClass RX3 = some m.cls := findClass_of_methodNamed B.named
  have hlocks := B.notSynchronized
  have hD := hD0.toAdr
  have hS : va_S (adr (wTown cI ta st dy ln rd kd dd nt lf ++ wTrace cI za (nI σ.1) σ.2 ++ wTmp 3 xa)) s.heap s.heap [] := va_S.rf
  generalize adr (wTown cI ta st dy ln rd kd dd nt lf ++ wTrace cI za (nI σ.1) σ.2 ++ wTmp 3 xa) = A at hD hS ⊢
  have hl := lv_entry ([.ref xa, .ref (ta 0), .int (nI (r)), .ref (za 0)]) (n := 4) (Nat.le_of_ble_eq_true rfl)
  rw [lg_entry_eq]
  generalize (lg_sl ([.ref xa, .ref (ta 0), .int (nI (r)), .ref (za 0)]) ++ List.replicate (4 - (lg_sl ([.ref xa, .ref (ta 0), .int (nI (r)), .ref (za 0)])).length) Slot.unset).toArray = ls at hl ⊢
  have hl : lv_has ls 4 [(0, .ref xa), (1, .ref (ta 0)), (2, .int (nI (r))), (3, .ref (za 0))] := hl
  refine lv_aload_n hx hb dX3_size_0 rfl (lv_at hl 3 rfl) ?_
  refine lv_bipush (v := 11) hx hb dX3_size_1 (by decide) ?_
  refine b_callM [5, 6] (va_runV (As := [.int 11]) (rest := []) ⟨hx, hb, hml, hown, hts⟩ (c_X9_leave l D cI cZ cT za σ 11 hz) (cwV 1 hts gX3_size_X9_leave rfl rfl rfl (by decide +kernel) ⟨(Nat.le_of_ble_eq_true rfl), (Nat.le_of_ble_eq_true rfl)⟩) (b_pVM hK hP hD [5, 6] (by decide) rfl rfl 5 rfl rfl) rfl rfl hl.1 rfl (lv_room (Nat.le_of_ble_eq_true rfl)) dX3_size_3 ⟨Nat.zero_le _, Nat.zero_le _⟩).run hP hD hS rfl (Nat.le_of_ble_eq_true rfl) (fun H locs hP hS => ?_)
  have hP : va_P D vwCl (wTown cI ta st dy ln rd kd dd nt lf ++ wTrace cI za (nI (m_beg σ 11).1) ((m_beg σ 11).2) ++ wTmp 3 xa) H := hP
  generalize eq3 : m_beg σ 11 = q3 at hP ⊢
  have hP : va_P D vwCl (wTown cI ta st dy ln rd kd dd nt lf ++ wTrace cI za (nI q3.1) q3.2 ++ wTmp 3 xa) H := hP
  have hD : va_D A (wTown cI ta st dy ln rd kd dd nt lf ++ wTrace cI za (nI q3.1) q3.2 ++ wTmp 3 xa) := hD.sameA [(ta 0), (ta 1), (ta 2), (ta 3), (ta 4), (za 0), (za 1), xa] rfl rfl
  have hq3 : q3.1 ≤ 16 := by rw [← eq3]; first | exact m_beg_le hz | exact m_beg_le (m_beg_le hz) | exact m_beg_le (m_beg_le (m_beg_le hz)) | exact m_beg_le (m_beg_le (m_beg_le (m_beg_le hz))) | exact m_beg_le (m_beg_le (m_beg_le (m_beg_le (m_beg_le hz))))
  refine lv_aload_n hx hb dX3_size_6 rfl (lv_at hl 0 rfl) ?_
  refine lv_aload_n hx hb dX3_size_7 rfl (lv_at hl 1 rfl) ?_
  refine lv_iload_n hx hb dX3_size_8 rfl (lv_at hl 2 rfl) ?_
  refine lv_aload_n hx hb dX3_size_9 rfl (lv_at hl 3 rfl) ?_
  refine b_callM [0, 1, 2, 3, 4, 5, 6] (va_runSU (As := [.ref (ta 0), .int (nI (r)), .ref (za 0)]) (rest := []) (hK.1.1 3 _ rfl).2 ⟨hx, hb, hml, hown, hts⟩ (c_X7_size l D cI cZ cT ta st dy ln rd kd dd nt lf za xa q3 r hr_ (by omega)) (va_cwSU 3 hts gX3_size_X7_size_s19 rfl rfl rfl (by decide +kernel) ⟨(Nat.le_of_ble_eq_true rfl), (Nat.le_of_ble_eq_true rfl)⟩) (b_pVM hK hP hD [0, 1, 2, 3, 4, 5, 6] (by decide) rfl rfl 7 rfl rfl) rfl rfl hl.1 rfl (lv_room (Nat.le_of_ble_eq_true rfl)) dX3_size_10 ⟨Nat.zero_le _, Nat.zero_le _⟩).run hP hD hS rfl (Nat.le_of_ble_eq_true rfl) (fun H locs hP hS => ?_)
  have hP : va_P D vwCl (wTown cI ta st dy ln rd kd dd nt lf ++ wTrace cI za (nI (m_beg q3 10).1) ((m_beg q3 10).2) ++ wTmp 3 xa) H := hP
  generalize eq10 : m_beg q3 10 = q10 at hP ⊢
  have hP : va_P D vwCl (wTown cI ta st dy ln rd kd dd nt lf ++ wTrace cI za (nI q10.1) q10.2 ++ wTmp 3 xa) H := hP
  have hD : va_D A (wTown cI ta st dy ln rd kd dd nt lf ++ wTrace cI za (nI q10.1) q10.2 ++ wTmp 3 xa) := hD.sameA [(ta 0), (ta 1), (ta 2), (ta 3), (ta 4), (za 0), (za 1), xa] rfl rfl
  have hq10 : q10.1 ≤ 16 := by rw [← eq10]; first | exact m_beg_le hq3 | exact m_beg_le (m_beg_le hq3) | exact m_beg_le (m_beg_le (m_beg_le hq3)) | exact m_beg_le (m_beg_le (m_beg_le (m_beg_le hq3))) | exact m_beg_le (m_beg_le (m_beg_le (m_beg_le (m_beg_le hq3))))
  refine lv_aload_n hx hb dX3_size_13 rfl (lv_at hl 0 rfl) ?_
  refine lv_aload_n hx hb dX3_size_14 rfl (lv_at hl 1 rfl) ?_
  refine lv_iload_n hx hb dX3_size_15 rfl (lv_at hl 2 rfl) ?_
  refine lv_aload_n hx hb dX3_size_16 rfl (lv_at hl 3 rfl) ?_
  refine b_callM [0, 1, 2, 3, 4, 5, 6, 7] (va_runV (As := [.ref (ta 0), .int (nI (r)), .ref (za 0)]) (rest := [.int (bc32 (nt r))]) ⟨hx, hb, hml, hown, hts⟩ (c_X3_mark_X3 l D cI cZ cT ta st dy ln rd kd dd nt lf za xa q10 r hr_ (by omega)) (cwV 3 hts gX3_size_X3_mark rfl rfl rfl (by decide +kernel) ⟨(Nat.le_of_ble_eq_true rfl), (Nat.le_of_ble_eq_true rfl)⟩) (b_pVM hK hP hD [0, 1, 2, 3, 4, 5, 6, 7] (by decide) rfl rfl 7 rfl rfl) rfl rfl hl.1 rfl (lv_room (Nat.le_of_ble_eq_true rfl)) dX3_size_17 ⟨Nat.zero_le _, Nat.zero_le _⟩).run hP hD hS rfl (Nat.le_of_ble_eq_true rfl) (fun H locs hP hS => ?_)
  have hP : va_P D vwCl (wTown cI ta st dy ln rd kd dd nt lf ++ wTrace cI za (nI (m_beg (m_beg q10 21) 20).1) ((m_beg (m_beg q10 21) 20).2) ++ wTmp 3 xa) H := hP
  generalize eq17 : m_beg (m_beg q10 21) 20 = q17 at hP ⊢
  have hP : va_P D vwCl (wTown cI ta st dy ln rd kd dd nt lf ++ wTrace cI za (nI q17.1) q17.2 ++ wTmp 3 xa) H := hP
  have hD : va_D A (wTown cI ta st dy ln rd kd dd nt lf ++ wTrace cI za (nI q17.1) q17.2 ++ wTmp 3 xa) := hD.sameA [(ta 0), (ta 1), (ta 2), (ta 3), (ta 4), (za 0), (za 1), xa] rfl rfl
  have hq17 : q17.1 ≤ 16 := by rw [← eq17]; first | exact m_beg_le hq10 | exact m_beg_le (m_beg_le hq10) | exact m_beg_le (m_beg_le (m_beg_le hq10)) | exact m_beg_le (m_beg_le (m_beg_le (m_beg_le hq10))) | exact m_beg_le (m_beg_le (m_beg_le (m_beg_le (m_beg_le hq10))))
  refine lv_iadd hx hb dX3_size_20 ?_
  have E : m_beg (m_beg (m_beg (m_beg σ 11) 10) 21) 20 = q17 := (by rw [eq3, eq10, eq17])
  try rw [E]
  exact b_retM hx hb hr hP hS rfl dX3_size_21 hlocks
set_option maxHeartbeats 4000000 in
set_option maxRecDepth 100000 in
theorem c_X3_size_X10 (l : Launch) (D : va_G) (cI cZ cT : ClassId) (ta : Nat → Nat) (st dy ln rd : Int32) (kd dd nt lf : Nat → Int32) (za : Nat → Nat) (xa : Nat) (σ : Nat × (Nat → Int32)) (r : Nat) (hr_ : r ≤ 5) (hz : σ.1 ≤ 16) : Met l yX3_size wsX3_size ({ frames := 4, cells := 0, slots := 0, locals := 90 }) (pM D cI cZ cT [.ref xa, .ref (ta 0), .int (nI (r)), .ref (za 0)] (wTown cI ta st dy ln rd kd dd nt lf ++ wTrace cI za (nI σ.1) σ.2 ++ wTmp 9 xa)) (qM D (some (.int (bc32 (nt r) + 2 * (nI r + bc32 (dd r))))) (wTown cI ta st dy ln rd kd dd nt lf ++ wTrace cI za (nI (m_beg (m_beg (m_beg (m_beg (m_beg σ 11) 10) 24) 21) 20).1) ((m_beg (m_beg (m_beg (m_beg (m_beg σ 11) 10) 24) 21) 20).2) ++ wTmp 9 xa) (adr (wTown cI ta st dy ln rd kd dd nt lf ++ wTrace cI za (nI σ.1) σ.2 ++ wTmp 9 xa))) 0 0 (adr (wTown cI ta st dy ln rd kd dd nt lf ++ wTrace cI za (nI σ.1) σ.2 ++ wTmp 9 xa)) := by
  refine Met.ofW (cc := cX3_size) (maxL := 4) (ret := (some .int)) (by decide) rfl ?_
  intro p e s m args below meth c s₁ B hml hv
  obtain ⟨rfl, hP, hD0, hK⟩ := hv
  have hx := B.exec
  have hb := B.bytes
  have hr := B.returns
  have hts := atoms_spec (ws := wsX3_size) B.pre
  have hown : s.vm.findClass RX3 = some m.cls := findClass_of_methodNamed B.named
  have hlocks := B.notSynchronized
  have hD := hD0.toAdr
  have hS : va_S (adr (wTown cI ta st dy ln rd kd dd nt lf ++ wTrace cI za (nI σ.1) σ.2 ++ wTmp 9 xa)) s.heap s.heap [] := va_S.rf
  generalize adr (wTown cI ta st dy ln rd kd dd nt lf ++ wTrace cI za (nI σ.1) σ.2 ++ wTmp 9 xa) = A at hD hS ⊢
  have hl := lv_entry ([.ref xa, .ref (ta 0), .int (nI (r)), .ref (za 0)]) (n := 4) (Nat.le_of_ble_eq_true rfl)
  rw [lg_entry_eq]
  generalize (lg_sl ([.ref xa, .ref (ta 0), .int (nI (r)), .ref (za 0)]) ++ List.replicate (4 - (lg_sl ([.ref xa, .ref (ta 0), .int (nI (r)), .ref (za 0)])).length) Slot.unset).toArray = ls at hl ⊢
  have hl : lv_has ls 4 [(0, .ref xa), (1, .ref (ta 0)), (2, .int (nI (r))), (3, .ref (za 0))] := hl
  refine lv_aload_n hx hb dX3_size_0 rfl (lv_at hl 3 rfl) ?_
  refine lv_bipush (v := 11) hx hb dX3_size_1 (by decide) ?_
  refine b_callM [5, 6] (va_runV (As := [.int 11]) (rest := []) ⟨hx, hb, hml, hown, hts⟩ (c_X9_leave l D cI cZ cT za σ 11 hz) (cwV 1 hts gX3_size_X9_leave rfl rfl rfl (by decide +kernel) ⟨(Nat.le_of_ble_eq_true rfl), (Nat.le_of_ble_eq_true rfl)⟩) (b_pVM hK hP hD [5, 6] (by decide) rfl rfl 5 rfl rfl) rfl rfl hl.1 rfl (lv_room (Nat.le_of_ble_eq_true rfl)) dX3_size_3 ⟨Nat.zero_le _, Nat.zero_le _⟩).run hP hD hS rfl (Nat.le_of_ble_eq_true rfl) (fun H locs hP hS => ?_)
  have hP : va_P D vwCl (wTown cI ta st dy ln rd kd dd nt lf ++ wTrace cI za (nI (m_beg σ 11).1) ((m_beg σ 11).2) ++ wTmp 9 xa) H := hP
  generalize eq3 : m_beg σ 11 = q3 at hP ⊢
  have hP : va_P D vwCl (wTown cI ta st dy ln rd kd dd nt lf ++ wTrace cI za (nI q3.1) q3.2 ++ wTmp 9 xa) H := hP
  have hD : va_D A (wTown cI ta st dy ln rd kd dd nt lf ++ wTrace cI za (nI q3.1) q3.2 ++ wTmp 9 xa) := hD.sameA [(ta 0), (ta 1), (ta 2), (ta 3), (ta 4), (za 0), (za 1), xa] rfl rfl
  have hq3 : q3.1 ≤ 16 := by rw [← eq3]; first | exact m_beg_le hz | exact m_beg_le (m_beg_le hz) | exact m_beg_le (m_beg_le (m_beg_le hz)) | exact m_beg_le (m_beg_le (m_beg_le (m_beg_le hz))) | exact m_beg_le (m_beg_le (m_beg_le (m_beg_le (m_beg_le hz))))
  refine lv_aload_n hx hb dX3_size_6 rfl (lv_at hl 0 rfl) ?_
  refine lv_aload_n hx hb dX3_size_7 rfl (lv_at hl 1 rfl) ?_
  refine lv_iload_n hx hb dX3_size_8 rfl (lv_at hl 2 rfl) ?_
  refine lv_aload_n hx hb dX3_size_9 rfl (lv_at hl 3 rfl) ?_
  refine b_callM [0, 1, 2, 3, 4, 5, 6] (va_runSU (As := [.ref (ta 0), .int (nI (r)), .ref (za 0)]) (rest := []) (hK.1.1 9 _ rfl).2 ⟨hx, hb, hml, hown, hts⟩ (c_X7_size l D cI cZ cT ta st dy ln rd kd dd nt lf za xa q3 r hr_ (by omega)) (va_cwSU 3 hts gX3_size_X7_size_s19 rfl rfl rfl (by decide +kernel) ⟨(Nat.le_of_ble_eq_true rfl), (Nat.le_of_ble_eq_true rfl)⟩) (b_pVM hK hP hD [0, 1, 2, 3, 4, 5, 6] (by decide) rfl rfl 7 rfl rfl) rfl rfl hl.1 rfl (lv_room (Nat.le_of_ble_eq_true rfl)) dX3_size_10 ⟨Nat.zero_le _, Nat.zero_le _⟩).run hP hD hS rfl (Nat.le_of_ble_eq_true rfl) (fun H locs hP hS => ?_)
  have hP : va_P D vwCl (wTown cI ta st dy ln rd kd dd nt lf ++ wTrace cI za (nI (m_beg q3 10).1) ((m_beg q3 10).2) ++ wTmp 9 xa) H := hP
  generalize eq10 : m_beg q3 10 = q10 at hP ⊢
  have hP : va_P D vwCl (wTown cI ta st dy ln rd kd dd nt lf ++ wTrace cI za (nI q10.1) q10.2 ++ wTmp 9 xa) H := hP
  have hD : va_D A (wTown cI ta st dy ln rd kd dd nt lf ++ wTrace cI za (nI q10.1) q10.2 ++ wTmp 9 xa) := hD.sameA [(ta 0), (ta 1), (ta 2), (ta 3), (ta 4), (za 0), (za 1), xa] rfl rfl
  have hq10 : q10.1 ≤ 16 := by rw [← eq10]; first | exact m_beg_le hq3 | exact m_beg_le (m_beg_le hq3) | exact m_beg_le (m_beg_le (m_beg_le hq3)) | exact m_beg_le (m_beg_le (m_beg_le (m_beg_le hq3))) | exact m_beg_le (m_beg_le (m_beg_le (m_beg_le (m_beg_le hq3))))
  refine lv_aload_n hx hb dX3_size_13 rfl (lv_at hl 0 rfl) ?_
  refine lv_aload_n hx hb dX3_size_14 rfl (lv_at hl 1 rfl) ?_
  refine lv_iload_n hx hb dX3_size_15 rfl (lv_at hl 2 rfl) ?_
  refine lv_aload_n hx hb dX3_size_16 rfl (lv_at hl 3 rfl) ?_
  refine b_callM [0, 1, 2, 3, 4, 5, 6, 7] (va_runU (As := [.ref (ta 0), .int (nI (r)), .ref (za 0)]) (rest := [.int (bc32 (nt r))]) ⟨hx, hb, hml, hown, hts⟩ (c_X10_mark_X10 l D cI cZ cT ta st dy ln rd kd dd nt lf za xa q10 r hr_ (by omega)) (va_cwO 3 hts gX3_size_X10_mark_u23X10 rfl rfl rfl (b0 := cX3_mark) (m0 := 4) (r0 := (some .int)) (List.mem_of_getElem? (i := 27) rfl) (by decide +kernel) ⟨(Nat.le_of_ble_eq_true rfl), (Nat.le_of_ble_eq_true rfl)⟩) (b_pVM hK hP hD [0, 1, 2, 3, 4, 5, 6, 7] (by decide) rfl rfl 7 rfl rfl) rfl rfl hl.1 rfl (lv_room (Nat.le_of_ble_eq_true rfl)) dX3_size_17 ⟨Nat.zero_le _, Nat.zero_le _⟩).run hP hD hS rfl (Nat.le_of_ble_eq_true rfl) (fun H locs hP hS => ?_)
  have hP : va_P D vwCl (wTown cI ta st dy ln rd kd dd nt lf ++ wTrace cI za (nI (m_beg (m_beg (m_beg q10 24) 21) 20).1) ((m_beg (m_beg (m_beg q10 24) 21) 20).2) ++ wTmp 9 xa) H := hP
  generalize eq17 : m_beg (m_beg (m_beg q10 24) 21) 20 = q17 at hP ⊢
  have hP : va_P D vwCl (wTown cI ta st dy ln rd kd dd nt lf ++ wTrace cI za (nI q17.1) q17.2 ++ wTmp 9 xa) H := hP
  have hD : va_D A (wTown cI ta st dy ln rd kd dd nt lf ++ wTrace cI za (nI q17.1) q17.2 ++ wTmp 9 xa) := hD.sameA [(ta 0), (ta 1), (ta 2), (ta 3), (ta 4), (za 0), (za 1), xa] rfl rfl
  have hq17 : q17.1 ≤ 16 := by rw [← eq17]; first | exact m_beg_le hq10 | exact m_beg_le (m_beg_le hq10) | exact m_beg_le (m_beg_le (m_beg_le hq10)) | exact m_beg_le (m_beg_le (m_beg_le (m_beg_le hq10))) | exact m_beg_le (m_beg_le (m_beg_le (m_beg_le (m_beg_le hq10))))
  refine lv_iadd hx hb dX3_size_20 ?_
  have E : m_beg (m_beg (m_beg (m_beg (m_beg σ 11) 10) 24) 21) 20 = q17 := (by rw [eq3, eq10, eq17])
  try rw [E]
  exact b_retM hx hb hr hP hS rfl dX3_size_21 hlocks
set_option maxHeartbeats 4000000 in
set_option maxRecDepth 100000 in
theorem c_X3_size_X5 (l : Launch) (D : va_G) (cI cZ cT : ClassId) (ta : Nat → Nat) (st dy ln rd : Int32) (kd dd nt lf : Nat → Int32) (za : Nat → Nat) (xa : Nat) (σ : Nat × (Nat → Int32)) (r : Nat) (hr_ : r ≤ 5) (hz : σ.1 ≤ 16) : Met l yX3_size wsX3_size ({ frames := 4, cells := 0, slots := 0, locals := 90 }) (pM D cI cZ cT [.ref xa, .ref (ta 0), .int (nI (r)), .ref (za 0)] (wTown cI ta st dy ln rd kd dd nt lf ++ wTrace cI za (nI σ.1) σ.2 ++ wTmp 5 xa)) (qM D (some (.int (bc32 (nt r) + (nI r + bc32 (dd r) - 1000)))) (wTown cI ta st dy ln rd kd dd nt lf ++ wTrace cI za (nI (m_beg (m_beg (m_beg (m_beg (m_beg σ 11) 10) 22) 21) 20).1) ((m_beg (m_beg (m_beg (m_beg (m_beg σ 11) 10) 22) 21) 20).2) ++ wTmp 5 xa) (adr (wTown cI ta st dy ln rd kd dd nt lf ++ wTrace cI za (nI σ.1) σ.2 ++ wTmp 5 xa))) 0 0 (adr (wTown cI ta st dy ln rd kd dd nt lf ++ wTrace cI za (nI σ.1) σ.2 ++ wTmp 5 xa)) := by
  refine Met.ofW (cc := cX3_size) (maxL := 4) (ret := (some .int)) (by decide) rfl ?_
  intro p e s m args below meth c s₁ B hml hv
  obtain ⟨rfl, hP, hD0, hK⟩ := hv
  have hx := B.exec
  have hb := B.bytes
  have hr := B.returns
  have hts := atoms_spec (ws := wsX3_size) B.pre
  have hown : s.vm.findClass RX3 = some m.cls := findClass_of_methodNamed B.named
  have hlocks := B.notSynchronized
  have hD := hD0.toAdr
  have hS : va_S (adr (wTown cI ta st dy ln rd kd dd nt lf ++ wTrace cI za (nI σ.1) σ.2 ++ wTmp 5 xa)) s.heap s.heap [] := va_S.rf
  generalize adr (wTown cI ta st dy ln rd kd dd nt lf ++ wTrace cI za (nI σ.1) σ.2 ++ wTmp 5 xa) = A at hD hS ⊢
  have hl := lv_entry ([.ref xa, .ref (ta 0), .int (nI (r)), .ref (za 0)]) (n := 4) (Nat.le_of_ble_eq_true rfl)
  rw [lg_entry_eq]
  generalize (lg_sl ([.ref xa, .ref (ta 0), .int (nI (r)), .ref (za 0)]) ++ List.replicate (4 - (lg_sl ([.ref xa, .ref (ta 0), .int (nI (r)), .ref (za 0)])).length) Slot.unset).toArray = ls at hl ⊢
  have hl : lv_has ls 4 [(0, .ref xa), (1, .ref (ta 0)), (2, .int (nI (r))), (3, .ref (za 0))] := hl
  refine lv_aload_n hx hb dX3_size_0 rfl (lv_at hl 3 rfl) ?_
  refine lv_bipush (v := 11) hx hb dX3_size_1 (by decide) ?_
  refine b_callM [5, 6] (va_runV (As := [.int 11]) (rest := []) ⟨hx, hb, hml, hown, hts⟩ (c_X9_leave l D cI cZ cT za σ 11 hz) (cwV 1 hts gX3_size_X9_leave rfl rfl rfl (by decide +kernel) ⟨(Nat.le_of_ble_eq_true rfl), (Nat.le_of_ble_eq_true rfl)⟩) (b_pVM hK hP hD [5, 6] (by decide) rfl rfl 5 rfl rfl) rfl rfl hl.1 rfl (lv_room (Nat.le_of_ble_eq_true rfl)) dX3_size_3 ⟨Nat.zero_le _, Nat.zero_le _⟩).run hP hD hS rfl (Nat.le_of_ble_eq_true rfl) (fun H locs hP hS => ?_)
  have hP : va_P D vwCl (wTown cI ta st dy ln rd kd dd nt lf ++ wTrace cI za (nI (m_beg σ 11).1) ((m_beg σ 11).2) ++ wTmp 5 xa) H := hP
  generalize eq3 : m_beg σ 11 = q3 at hP ⊢
  have hP : va_P D vwCl (wTown cI ta st dy ln rd kd dd nt lf ++ wTrace cI za (nI q3.1) q3.2 ++ wTmp 5 xa) H := hP
  have hD : va_D A (wTown cI ta st dy ln rd kd dd nt lf ++ wTrace cI za (nI q3.1) q3.2 ++ wTmp 5 xa) := hD.sameA [(ta 0), (ta 1), (ta 2), (ta 3), (ta 4), (za 0), (za 1), xa] rfl rfl
  have hq3 : q3.1 ≤ 16 := by rw [← eq3]; first | exact m_beg_le hz | exact m_beg_le (m_beg_le hz) | exact m_beg_le (m_beg_le (m_beg_le hz)) | exact m_beg_le (m_beg_le (m_beg_le (m_beg_le hz))) | exact m_beg_le (m_beg_le (m_beg_le (m_beg_le (m_beg_le hz))))
  refine lv_aload_n hx hb dX3_size_6 rfl (lv_at hl 0 rfl) ?_
  refine lv_aload_n hx hb dX3_size_7 rfl (lv_at hl 1 rfl) ?_
  refine lv_iload_n hx hb dX3_size_8 rfl (lv_at hl 2 rfl) ?_
  refine lv_aload_n hx hb dX3_size_9 rfl (lv_at hl 3 rfl) ?_
  refine b_callM [0, 1, 2, 3, 4, 5, 6] (va_runSU (As := [.ref (ta 0), .int (nI (r)), .ref (za 0)]) (rest := []) (hK.1.1 5 _ rfl).2 ⟨hx, hb, hml, hown, hts⟩ (c_X7_size l D cI cZ cT ta st dy ln rd kd dd nt lf za xa q3 r hr_ (by omega)) (va_cwSU 3 hts gX3_size_X7_size_s19 rfl rfl rfl (by decide +kernel) ⟨(Nat.le_of_ble_eq_true rfl), (Nat.le_of_ble_eq_true rfl)⟩) (b_pVM hK hP hD [0, 1, 2, 3, 4, 5, 6] (by decide) rfl rfl 7 rfl rfl) rfl rfl hl.1 rfl (lv_room (Nat.le_of_ble_eq_true rfl)) dX3_size_10 ⟨Nat.zero_le _, Nat.zero_le _⟩).run hP hD hS rfl (Nat.le_of_ble_eq_true rfl) (fun H locs hP hS => ?_)
  have hP : va_P D vwCl (wTown cI ta st dy ln rd kd dd nt lf ++ wTrace cI za (nI (m_beg q3 10).1) ((m_beg q3 10).2) ++ wTmp 5 xa) H := hP
  generalize eq10 : m_beg q3 10 = q10 at hP ⊢
  have hP : va_P D vwCl (wTown cI ta st dy ln rd kd dd nt lf ++ wTrace cI za (nI q10.1) q10.2 ++ wTmp 5 xa) H := hP
  have hD : va_D A (wTown cI ta st dy ln rd kd dd nt lf ++ wTrace cI za (nI q10.1) q10.2 ++ wTmp 5 xa) := hD.sameA [(ta 0), (ta 1), (ta 2), (ta 3), (ta 4), (za 0), (za 1), xa] rfl rfl
  have hq10 : q10.1 ≤ 16 := by rw [← eq10]; first | exact m_beg_le hq3 | exact m_beg_le (m_beg_le hq3) | exact m_beg_le (m_beg_le (m_beg_le hq3)) | exact m_beg_le (m_beg_le (m_beg_le (m_beg_le hq3))) | exact m_beg_le (m_beg_le (m_beg_le (m_beg_le (m_beg_le hq3))))
  refine lv_aload_n hx hb dX3_size_13 rfl (lv_at hl 0 rfl) ?_
  refine lv_aload_n hx hb dX3_size_14 rfl (lv_at hl 1 rfl) ?_
  refine lv_iload_n hx hb dX3_size_15 rfl (lv_at hl 2 rfl) ?_
  refine lv_aload_n hx hb dX3_size_16 rfl (lv_at hl 3 rfl) ?_
  refine b_callM [0, 1, 2, 3, 4, 5, 6, 7] (va_runU (As := [.ref (ta 0), .int (nI (r)), .ref (za 0)]) (rest := [.int (bc32 (nt r))]) ⟨hx, hb, hml, hown, hts⟩ (c_X5_mark_X5 l D cI cZ cT ta st dy ln rd kd dd nt lf za xa q10 r hr_ (by omega)) (va_cwO 3 hts gX3_size_X5_mark_u23X5 rfl rfl rfl (b0 := cX3_mark) (m0 := 4) (r0 := (some .int)) (List.mem_of_getElem? (i := 27) rfl) (by decide +kernel) ⟨(Nat.le_of_ble_eq_true rfl), (Nat.le_of_ble_eq_true rfl)⟩) (b_pVM hK hP hD [0, 1, 2, 3, 4, 5, 6, 7] (by decide) rfl rfl 7 rfl rfl) rfl rfl hl.1 rfl (lv_room (Nat.le_of_ble_eq_true rfl)) dX3_size_17 ⟨Nat.zero_le _, Nat.zero_le _⟩).run hP hD hS rfl (Nat.le_of_ble_eq_true rfl) (fun H locs hP hS => ?_)
  have hP : va_P D vwCl (wTown cI ta st dy ln rd kd dd nt lf ++ wTrace cI za (nI (m_beg (m_beg (m_beg q10 22) 21) 20).1) ((m_beg (m_beg (m_beg q10 22) 21) 20).2) ++ wTmp 5 xa) H := hP
  generalize eq17 : m_beg (m_beg (m_beg q10 22) 21) 20 = q17 at hP ⊢
  have hP : va_P D vwCl (wTown cI ta st dy ln rd kd dd nt lf ++ wTrace cI za (nI q17.1) q17.2 ++ wTmp 5 xa) H := hP
  have hD : va_D A (wTown cI ta st dy ln rd kd dd nt lf ++ wTrace cI za (nI q17.1) q17.2 ++ wTmp 5 xa) := hD.sameA [(ta 0), (ta 1), (ta 2), (ta 3), (ta 4), (za 0), (za 1), xa] rfl rfl
  have hq17 : q17.1 ≤ 16 := by rw [← eq17]; first | exact m_beg_le hq10 | exact m_beg_le (m_beg_le hq10) | exact m_beg_le (m_beg_le (m_beg_le hq10)) | exact m_beg_le (m_beg_le (m_beg_le (m_beg_le hq10))) | exact m_beg_le (m_beg_le (m_beg_le (m_beg_le (m_beg_le hq10))))
  refine lv_iadd hx hb dX3_size_20 ?_
  have E : m_beg (m_beg (m_beg (m_beg (m_beg σ 11) 10) 22) 21) 20 = q17 := (by rw [eq3, eq10, eq17])
  try rw [E]
  exact b_retM hx hb hr hP hS rfl dX3_size_21 hlocks
set_option maxHeartbeats 4000000 in
set_option maxRecDepth 100000 in
theorem c_X10_size_X10 (l : Launch) (D : va_G) (cI cZ cT : ClassId) (ta : Nat → Nat) (st dy ln rd : Int32) (kd dd nt lf : Nat → Int32) (za : Nat → Nat) (xa : Nat) (σ : Nat × (Nat → Int32)) (r : Nat) (hr_ : r ≤ 5) (hz : σ.1 ≤ 16) : Met l yX10_size wsX10_size ({ frames := 5, cells := 0, slots := 0, locals := 113 }) (pM D cI cZ cT [.ref xa, .ref (ta 0), .int (nI (r)), .ref (za 0)] (wTown cI ta st dy ln rd kd dd nt lf ++ wTrace cI za (nI σ.1) σ.2 ++ wTmp 9 xa)) (qM D (some (.int (-(bc32 (nt r) + 2 * (nI r + bc32 (dd r)))))) (wTown cI ta st dy ln rd kd dd nt lf ++ wTrace cI za (nI (m_beg (m_beg (m_beg (m_beg (m_beg (m_beg σ 12) 11) 10) 24) 21) 20).1) ((m_beg (m_beg (m_beg (m_beg (m_beg (m_beg σ 12) 11) 10) 24) 21) 20).2) ++ wTmp 9 xa) (adr (wTown cI ta st dy ln rd kd dd nt lf ++ wTrace cI za (nI σ.1) σ.2 ++ wTmp 9 xa))) 0 0 (adr (wTown cI ta st dy ln rd kd dd nt lf ++ wTrace cI za (nI σ.1) σ.2 ++ wTmp 9 xa)) := by
  refine Met.ofW (cc := cX10_size) (maxL := 4) (ret := (some .int)) (by decide) rfl ?_
  intro p e s m args below meth c s₁ B hml hv
  obtain ⟨rfl, hP, hD0, hK⟩ := hv
  have hx := B.exec
  have hb := B.bytes
  have hr := B.returns
  have hts := atoms_spec (ws := wsX10_size) B.pre
  have hown : s.vm.findClass RX10 = some m.cls := findClass_of_methodNamed B.named
  have hlocks := B.notSynchronized
  have hD := hD0.toAdr
  have hS : va_S (adr (wTown cI ta st dy ln rd kd dd nt lf ++ wTrace cI za (nI σ.1) σ.2 ++ wTmp 9 xa)) s.heap s.heap [] := va_S.rf
  generalize adr (wTown cI ta st dy ln rd kd dd nt lf ++ wTrace cI za (nI σ.1) σ.2 ++ wTmp 9 xa) = A at hD hS ⊢
  have hl := lv_entry ([.ref xa, .ref (ta 0), .int (nI (r)), .ref (za 0)]) (n := 4) (Nat.le_of_ble_eq_true rfl)
  rw [lg_entry_eq]
  generalize (lg_sl ([.ref xa, .ref (ta 0), .int (nI (r)), .ref (za 0)]) ++ List.replicate (4 - (lg_sl ([.ref xa, .ref (ta 0), .int (nI (r)), .ref (za 0)])).length) Slot.unset).toArray = ls at hl ⊢
  have hl : lv_has ls 4 [(0, .ref xa), (1, .ref (ta 0)), (2, .int (nI (r))), (3, .ref (za 0))] := hl
  refine lv_aload_n hx hb dX10_size_0 rfl (lv_at hl 3 rfl) ?_
  refine lv_bipush (v := 12) hx hb dX10_size_1 (by decide) ?_
  refine b_callM [5, 6] (va_runV (As := [.int 12]) (rest := []) ⟨hx, hb, hml, hown, hts⟩ (c_X9_leave l D cI cZ cT za σ 12 hz) (cwV 1 hts gX10_size_X9_leave rfl rfl rfl (by decide +kernel) ⟨(Nat.le_of_ble_eq_true rfl), (Nat.le_of_ble_eq_true rfl)⟩) (b_pVM hK hP hD [5, 6] (by decide) rfl rfl 5 rfl rfl) rfl rfl hl.1 rfl (lv_room (Nat.le_of_ble_eq_true rfl)) dX10_size_3 ⟨Nat.zero_le _, Nat.zero_le _⟩).run hP hD hS rfl (Nat.le_of_ble_eq_true rfl) (fun H locs hP hS => ?_)
  have hP : va_P D vwCl (wTown cI ta st dy ln rd kd dd nt lf ++ wTrace cI za (nI (m_beg σ 12).1) ((m_beg σ 12).2) ++ wTmp 9 xa) H := hP
  generalize eq3 : m_beg σ 12 = q3 at hP ⊢
  have hP : va_P D vwCl (wTown cI ta st dy ln rd kd dd nt lf ++ wTrace cI za (nI q3.1) q3.2 ++ wTmp 9 xa) H := hP
  have hD : va_D A (wTown cI ta st dy ln rd kd dd nt lf ++ wTrace cI za (nI q3.1) q3.2 ++ wTmp 9 xa) := hD.sameA [(ta 0), (ta 1), (ta 2), (ta 3), (ta 4), (za 0), (za 1), xa] rfl rfl
  have hq3 : q3.1 ≤ 16 := by rw [← eq3]; first | exact m_beg_le hz | exact m_beg_le (m_beg_le hz) | exact m_beg_le (m_beg_le (m_beg_le hz)) | exact m_beg_le (m_beg_le (m_beg_le (m_beg_le hz))) | exact m_beg_le (m_beg_le (m_beg_le (m_beg_le (m_beg_le hz))))
  refine lv_aload_n hx hb dX10_size_6 rfl (lv_at hl 0 rfl) ?_
  refine lv_aload_n hx hb dX10_size_7 rfl (lv_at hl 1 rfl) ?_
  refine lv_iload_n hx hb dX10_size_8 rfl (lv_at hl 2 rfl) ?_
  refine lv_aload_n hx hb dX10_size_9 rfl (lv_at hl 3 rfl) ?_
  refine b_callM [0, 1, 2, 3, 4, 5, 6, 7] (va_runSU (As := [.ref (ta 0), .int (nI (r)), .ref (za 0)]) (rest := []) (hK.1.1 9 _ rfl).2 ⟨hx, hb, hml, hown, hts⟩ (c_X3_size_X10 l D cI cZ cT ta st dy ln rd kd dd nt lf za xa q3 r hr_ (by omega)) (va_cwSU 3 hts gX10_size_X3_size_s23 rfl rfl rfl (by decide +kernel) ⟨(Nat.le_of_ble_eq_true rfl), (Nat.le_of_ble_eq_true rfl)⟩) (b_pVM hK hP hD [0, 1, 2, 3, 4, 5, 6, 7] (by decide) rfl rfl 7 rfl rfl) rfl rfl hl.1 rfl (lv_room (Nat.le_of_ble_eq_true rfl)) dX10_size_10 ⟨Nat.zero_le _, Nat.zero_le _⟩).run hP hD hS rfl (Nat.le_of_ble_eq_true rfl) (fun H locs hP hS => ?_)
  have hP : va_P D vwCl (wTown cI ta st dy ln rd kd dd nt lf ++ wTrace cI za (nI (m_beg (m_beg (m_beg (m_beg (m_beg q3 11) 10) 24) 21) 20).1) ((m_beg (m_beg (m_beg (m_beg (m_beg q3 11) 10) 24) 21) 20).2) ++ wTmp 9 xa) H := hP
  generalize eq10 : m_beg (m_beg (m_beg (m_beg (m_beg q3 11) 10) 24) 21) 20 = q10 at hP ⊢
  have hP : va_P D vwCl (wTown cI ta st dy ln rd kd dd nt lf ++ wTrace cI za (nI q10.1) q10.2 ++ wTmp 9 xa) H := hP
  have hD : va_D A (wTown cI ta st dy ln rd kd dd nt lf ++ wTrace cI za (nI q10.1) q10.2 ++ wTmp 9 xa) := hD.sameA [(ta 0), (ta 1), (ta 2), (ta 3), (ta 4), (za 0), (za 1), xa] rfl rfl
  have hq10 : q10.1 ≤ 16 := by rw [← eq10]; first | exact m_beg_le hq3 | exact m_beg_le (m_beg_le hq3) | exact m_beg_le (m_beg_le (m_beg_le hq3)) | exact m_beg_le (m_beg_le (m_beg_le (m_beg_le hq3))) | exact m_beg_le (m_beg_le (m_beg_le (m_beg_le (m_beg_le hq3))))
  refine lv_ineg hx hb dX10_size_13 ?_
  have E : m_beg (m_beg (m_beg (m_beg (m_beg (m_beg σ 12) 11) 10) 24) 21) 20 = q10 := (by rw [eq3, eq10])
  try rw [E]
  exact b_retM hx hb hr hP hS rfl dX10_size_14 hlocks
set_option maxHeartbeats 4000000 in
set_option maxRecDepth 100000 in
theorem c_X1_size_X1 (l : Launch) (D : va_G) (cI cZ cT : ClassId) (ta : Nat → Nat) (st dy ln rd : Int32) (kd dd nt lf : Nat → Int32) (za : Nat → Nat) (xa : Nat) (σ : Nat × (Nat → Int32)) (r : Nat) (hr_ : r ≤ 5) (hz : σ.1 ≤ 16) : Met l yX1_size wsX1_size ({ frames := 2, cells := 0, slots := 0, locals := 44 }) (pM D cI cZ cT [.ref xa, .ref (ta 0), .int (nI (r)), .ref (za 0)] (wTown cI ta st dy ln rd kd dd nt lf ++ wTrace cI za (nI σ.1) σ.2 ++ wTmp 1 xa)) (qM D (some (.int (bc32 (nt r) - 100))) (wTown cI ta st dy ln rd kd dd nt lf ++ wTrace cI za (nI (m_beg (m_beg σ 13) 10).1) ((m_beg (m_beg σ 13) 10).2) ++ wTmp 1 xa) (adr (wTown cI ta st dy ln rd kd dd nt lf ++ wTrace cI za (nI σ.1) σ.2 ++ wTmp 1 xa))) 0 0 (adr (wTown cI ta st dy ln rd kd dd nt lf ++ wTrace cI za (nI σ.1) σ.2 ++ wTmp 1 xa)) := by
  refine Met.ofW (cc := cX1_size) (maxL := 4) (ret := (some .int)) (by decide) rfl ?_
  intro p e s m args below meth c s₁ B hml hv
  obtain ⟨rfl, hP, hD0, hK⟩ := hv
  have hx := B.exec
  have hb := B.bytes
  have hr := B.returns
  have hts := atoms_spec (ws := wsX1_size) B.pre
  have hown : s.vm.findClass RX1 = some m.cls := findClass_of_methodNamed B.named
  have hlocks := B.notSynchronized
  have hD := hD0.toAdr
  have hS : va_S (adr (wTown cI ta st dy ln rd kd dd nt lf ++ wTrace cI za (nI σ.1) σ.2 ++ wTmp 1 xa)) s.heap s.heap [] := va_S.rf
  generalize adr (wTown cI ta st dy ln rd kd dd nt lf ++ wTrace cI za (nI σ.1) σ.2 ++ wTmp 1 xa) = A at hD hS ⊢
  have hl := lv_entry ([.ref xa, .ref (ta 0), .int (nI (r)), .ref (za 0)]) (n := 4) (Nat.le_of_ble_eq_true rfl)
  rw [lg_entry_eq]
  generalize (lg_sl ([.ref xa, .ref (ta 0), .int (nI (r)), .ref (za 0)]) ++ List.replicate (4 - (lg_sl ([.ref xa, .ref (ta 0), .int (nI (r)), .ref (za 0)])).length) Slot.unset).toArray = ls at hl ⊢
  have hl : lv_has ls 4 [(0, .ref xa), (1, .ref (ta 0)), (2, .int (nI (r))), (3, .ref (za 0))] := hl
  refine lv_aload_n hx hb dX1_size_0 rfl (lv_at hl 3 rfl) ?_
  refine lv_bipush (v := 13) hx hb dX1_size_1 (by decide) ?_
  refine b_callM [5, 6] (va_runV (As := [.int 13]) (rest := []) ⟨hx, hb, hml, hown, hts⟩ (c_X9_leave l D cI cZ cT za σ 13 hz) (cwV 1 hts gX1_size_X9_leave rfl rfl rfl (by decide +kernel) ⟨(Nat.le_of_ble_eq_true rfl), (Nat.le_of_ble_eq_true rfl)⟩) (b_pVM hK hP hD [5, 6] (by decide) rfl rfl 5 rfl rfl) rfl rfl hl.1 rfl (lv_room (Nat.le_of_ble_eq_true rfl)) dX1_size_3 ⟨Nat.zero_le _, Nat.zero_le _⟩).run hP hD hS rfl (Nat.le_of_ble_eq_true rfl) (fun H locs hP hS => ?_)
  have hP : va_P D vwCl (wTown cI ta st dy ln rd kd dd nt lf ++ wTrace cI za (nI (m_beg σ 13).1) ((m_beg σ 13).2) ++ wTmp 1 xa) H := hP
  generalize eq3 : m_beg σ 13 = q3 at hP ⊢
  have hP : va_P D vwCl (wTown cI ta st dy ln rd kd dd nt lf ++ wTrace cI za (nI q3.1) q3.2 ++ wTmp 1 xa) H := hP
  have hD : va_D A (wTown cI ta st dy ln rd kd dd nt lf ++ wTrace cI za (nI q3.1) q3.2 ++ wTmp 1 xa) := hD.sameA [(ta 0), (ta 1), (ta 2), (ta 3), (ta 4), (za 0), (za 1), xa] rfl rfl
  have hq3 : q3.1 ≤ 16 := by rw [← eq3]; first | exact m_beg_le hz | exact m_beg_le (m_beg_le hz) | exact m_beg_le (m_beg_le (m_beg_le hz)) | exact m_beg_le (m_beg_le (m_beg_le (m_beg_le hz))) | exact m_beg_le (m_beg_le (m_beg_le (m_beg_le (m_beg_le hz))))
  refine lv_aload_n hx hb dX1_size_6 rfl (lv_at hl 0 rfl) ?_
  refine lv_aload_n hx hb dX1_size_7 rfl (lv_at hl 1 rfl) ?_
  refine lv_iload_n hx hb dX1_size_8 rfl (lv_at hl 2 rfl) ?_
  refine lv_aload_n hx hb dX1_size_9 rfl (lv_at hl 3 rfl) ?_
  refine b_callM [0, 1, 2, 3, 4, 5, 6] (va_runSU (As := [.ref (ta 0), .int (nI (r)), .ref (za 0)]) (rest := []) (hK.1.1 1 _ rfl).2 ⟨hx, hb, hml, hown, hts⟩ (c_X7_size l D cI cZ cT ta st dy ln rd kd dd nt lf za xa q3 r hr_ (by omega)) (va_cwSU 3 hts gX1_size_X7_size_s19 rfl rfl rfl (by decide +kernel) ⟨(Nat.le_of_ble_eq_true rfl), (Nat.le_of_ble_eq_true rfl)⟩) (b_pVM hK hP hD [0, 1, 2, 3, 4, 5, 6] (by decide) rfl rfl 7 rfl rfl) rfl rfl hl.1 rfl (lv_room (Nat.le_of_ble_eq_true rfl)) dX1_size_10 ⟨Nat.zero_le _, Nat.zero_le _⟩).run hP hD hS rfl (Nat.le_of_ble_eq_true rfl) (fun H locs hP hS => ?_)
  have hP : va_P D vwCl (wTown cI ta st dy ln rd kd dd nt lf ++ wTrace cI za (nI (m_beg q3 10).1) ((m_beg q3 10).2) ++ wTmp 1 xa) H := hP
  generalize eq10 : m_beg q3 10 = q10 at hP ⊢
  have hP : va_P D vwCl (wTown cI ta st dy ln rd kd dd nt lf ++ wTrace cI za (nI q10.1) q10.2 ++ wTmp 1 xa) H := hP
  have hD : va_D A (wTown cI ta st dy ln rd kd dd nt lf ++ wTrace cI za (nI q10.1) q10.2 ++ wTmp 1 xa) := hD.sameA [(ta 0), (ta 1), (ta 2), (ta 3), (ta 4), (za 0), (za 1), xa] rfl rfl
  have hq10 : q10.1 ≤ 16 := by rw [← eq10]; first | exact m_beg_le hq3 | exact m_beg_le (m_beg_le hq3) | exact m_beg_le (m_beg_le (m_beg_le hq3)) | exact m_beg_le (m_beg_le (m_beg_le (m_beg_le hq3))) | exact m_beg_le (m_beg_le (m_beg_le (m_beg_le (m_beg_le hq3))))
  refine lv_bipush (v := 100) hx hb dX1_size_13 (by decide) ?_
  refine lv_isub hx hb dX1_size_15 ?_
  have E : m_beg (m_beg σ 13) 10 = q10 := (by rw [eq3, eq10])
  try rw [E]
  exact b_retM hx hb hr hP hS rfl dX1_size_16 hlocks
set_option maxHeartbeats 4000000 in
set_option maxRecDepth 100000 in
theorem c_X1_size_X0 (l : Launch) (D : va_G) (cI cZ cT : ClassId) (ta : Nat → Nat) (st dy ln rd : Int32) (kd dd nt lf : Nat → Int32) (za : Nat → Nat) (xa : Nat) (σ : Nat × (Nat → Int32)) (r : Nat) (hr_ : r ≤ 5) (hz : σ.1 ≤ 16) : Met l yX1_size wsX1_size ({ frames := 2, cells := 0, slots := 0, locals := 44 }) (pM D cI cZ cT [.ref xa, .ref (ta 0), .int (nI (r)), .ref (za 0)] (wTown cI ta st dy ln rd kd dd nt lf ++ wTrace cI za (nI σ.1) σ.2 ++ wTmp 0 xa)) (qM D (some (.int (bc32 (nt r) - 100))) (wTown cI ta st dy ln rd kd dd nt lf ++ wTrace cI za (nI (m_beg (m_beg σ 13) 10).1) ((m_beg (m_beg σ 13) 10).2) ++ wTmp 0 xa) (adr (wTown cI ta st dy ln rd kd dd nt lf ++ wTrace cI za (nI σ.1) σ.2 ++ wTmp 0 xa))) 0 0 (adr (wTown cI ta st dy ln rd kd dd nt lf ++ wTrace cI za (nI σ.1) σ.2 ++ wTmp 0 xa)) := by
  refine Met.ofW (cc := cX1_size) (maxL := 4) (ret := (some .int)) (by decide) rfl ?_
  intro p e s m args below meth c s₁ B hml hv
  obtain ⟨rfl, hP, hD0, hK⟩ := hv
  have hx := B.exec
  have hb := B.bytes
  have hr := B.returns
  have hts := atoms_spec (ws := wsX1_size) B.pre
  have hown : s.vm.findClass RX1 = some m.cls := findClass_of_methodNamed B.named
  have hlocks := B.notSynchronized
  have hD := hD0.toAdr
  have hS : va_S (adr (wTown cI ta st dy ln rd kd dd nt lf ++ wTrace cI za (nI σ.1) σ.2 ++ wTmp 0 xa)) s.heap s.heap [] := va_S.rf
  generalize adr (wTown cI ta st dy ln rd kd dd nt lf ++ wTrace cI za (nI σ.1) σ.2 ++ wTmp 0 xa) = A at hD hS ⊢
  have hl := lv_entry ([.ref xa, .ref (ta 0), .int (nI (r)), .ref (za 0)]) (n := 4) (Nat.le_of_ble_eq_true rfl)
  rw [lg_entry_eq]
  generalize (lg_sl ([.ref xa, .ref (ta 0), .int (nI (r)), .ref (za 0)]) ++ List.replicate (4 - (lg_sl ([.ref xa, .ref (ta 0), .int (nI (r)), .ref (za 0)])).length) Slot.unset).toArray = ls at hl ⊢
  have hl : lv_has ls 4 [(0, .ref xa), (1, .ref (ta 0)), (2, .int (nI (r))), (3, .ref (za 0))] := hl
  refine lv_aload_n hx hb dX1_size_0 rfl (lv_at hl 3 rfl) ?_
  refine lv_bipush (v := 13) hx hb dX1_size_1 (by decide) ?_
  refine b_callM [5, 6] (va_runV (As := [.int 13]) (rest := []) ⟨hx, hb, hml, hown, hts⟩ (c_X9_leave l D cI cZ cT za σ 13 hz) (cwV 1 hts gX1_size_X9_leave rfl rfl rfl (by decide +kernel) ⟨(Nat.le_of_ble_eq_true rfl), (Nat.le_of_ble_eq_true rfl)⟩) (b_pVM hK hP hD [5, 6] (by decide) rfl rfl 5 rfl rfl) rfl rfl hl.1 rfl (lv_room (Nat.le_of_ble_eq_true rfl)) dX1_size_3 ⟨Nat.zero_le _, Nat.zero_le _⟩).run hP hD hS rfl (Nat.le_of_ble_eq_true rfl) (fun H locs hP hS => ?_)
  have hP : va_P D vwCl (wTown cI ta st dy ln rd kd dd nt lf ++ wTrace cI za (nI (m_beg σ 13).1) ((m_beg σ 13).2) ++ wTmp 0 xa) H := hP
  generalize eq3 : m_beg σ 13 = q3 at hP ⊢
  have hP : va_P D vwCl (wTown cI ta st dy ln rd kd dd nt lf ++ wTrace cI za (nI q3.1) q3.2 ++ wTmp 0 xa) H := hP
  have hD : va_D A (wTown cI ta st dy ln rd kd dd nt lf ++ wTrace cI za (nI q3.1) q3.2 ++ wTmp 0 xa) := hD.sameA [(ta 0), (ta 1), (ta 2), (ta 3), (ta 4), (za 0), (za 1), xa] rfl rfl
  have hq3 : q3.1 ≤ 16 := by rw [← eq3]; first | exact m_beg_le hz | exact m_beg_le (m_beg_le hz) | exact m_beg_le (m_beg_le (m_beg_le hz)) | exact m_beg_le (m_beg_le (m_beg_le (m_beg_le hz))) | exact m_beg_le (m_beg_le (m_beg_le (m_beg_le (m_beg_le hz))))
  refine lv_aload_n hx hb dX1_size_6 rfl (lv_at hl 0 rfl) ?_
  refine lv_aload_n hx hb dX1_size_7 rfl (lv_at hl 1 rfl) ?_
  refine lv_iload_n hx hb dX1_size_8 rfl (lv_at hl 2 rfl) ?_
  refine lv_aload_n hx hb dX1_size_9 rfl (lv_at hl 3 rfl) ?_
  refine b_callM [0, 1, 2, 3, 4, 5, 6] (va_runSU (As := [.ref (ta 0), .int (nI (r)), .ref (za 0)]) (rest := []) (hK.1.1 0 _ rfl).2 ⟨hx, hb, hml, hown, hts⟩ (c_X7_size l D cI cZ cT ta st dy ln rd kd dd nt lf za xa q3 r hr_ (by omega)) (va_cwSU 3 hts gX1_size_X7_size_s19 rfl rfl rfl (by decide +kernel) ⟨(Nat.le_of_ble_eq_true rfl), (Nat.le_of_ble_eq_true rfl)⟩) (b_pVM hK hP hD [0, 1, 2, 3, 4, 5, 6] (by decide) rfl rfl 7 rfl rfl) rfl rfl hl.1 rfl (lv_room (Nat.le_of_ble_eq_true rfl)) dX1_size_10 ⟨Nat.zero_le _, Nat.zero_le _⟩).run hP hD hS rfl (Nat.le_of_ble_eq_true rfl) (fun H locs hP hS => ?_)
  have hP : va_P D vwCl (wTown cI ta st dy ln rd kd dd nt lf ++ wTrace cI za (nI (m_beg q3 10).1) ((m_beg q3 10).2) ++ wTmp 0 xa) H := hP
  generalize eq10 : m_beg q3 10 = q10 at hP ⊢
  have hP : va_P D vwCl (wTown cI ta st dy ln rd kd dd nt lf ++ wTrace cI za (nI q10.1) q10.2 ++ wTmp 0 xa) H := hP
  have hD : va_D A (wTown cI ta st dy ln rd kd dd nt lf ++ wTrace cI za (nI q10.1) q10.2 ++ wTmp 0 xa) := hD.sameA [(ta 0), (ta 1), (ta 2), (ta 3), (ta 4), (za 0), (za 1), xa] rfl rfl
  have hq10 : q10.1 ≤ 16 := by rw [← eq10]; first | exact m_beg_le hq3 | exact m_beg_le (m_beg_le hq3) | exact m_beg_le (m_beg_le (m_beg_le hq3)) | exact m_beg_le (m_beg_le (m_beg_le (m_beg_le hq3))) | exact m_beg_le (m_beg_le (m_beg_le (m_beg_le (m_beg_le hq3))))
  refine lv_bipush (v := 100) hx hb dX1_size_13 (by decide) ?_
  refine lv_isub hx hb dX1_size_15 ?_
  have E : m_beg (m_beg σ 13) 10 = q10 := (by rw [eq3, eq10])
  try rw [E]
  exact b_retM hx hb hr hP hS rfl dX1_size_16 hlocks
set_option maxHeartbeats 4000000 in
set_option maxRecDepth 100000 in
theorem c_X0_size_X0 (l : Launch) (D : va_G) (cI cZ cT : ClassId) (ta : Nat → Nat) (st dy ln rd : Int32) (kd dd nt lf : Nat → Int32) (za : Nat → Nat) (xa : Nat) (σ : Nat × (Nat → Int32)) (r : Nat) (hr_ : r ≤ 5) (hz : σ.1 ≤ 16) : Met l yX0_size wsX0_size ({ frames := 3, cells := 0, slots := 0, locals := 67 }) (pM D cI cZ cT [.ref xa, .ref (ta 0), .int (nI (r)), .ref (za 0)] (wTown cI ta st dy ln rd kd dd nt lf ++ wTrace cI za (nI σ.1) σ.2 ++ wTmp 0 xa)) (qM D (some (.int (2 * (bc32 (nt r) - 100)))) (wTown cI ta st dy ln rd kd dd nt lf ++ wTrace cI za (nI (m_beg (m_beg (m_beg σ 14) 13) 10).1) ((m_beg (m_beg (m_beg σ 14) 13) 10).2) ++ wTmp 0 xa) (adr (wTown cI ta st dy ln rd kd dd nt lf ++ wTrace cI za (nI σ.1) σ.2 ++ wTmp 0 xa))) 0 0 (adr (wTown cI ta st dy ln rd kd dd nt lf ++ wTrace cI za (nI σ.1) σ.2 ++ wTmp 0 xa)) := by
  refine Met.ofW (cc := cX0_size) (maxL := 4) (ret := (some .int)) (by decide) rfl ?_
  intro p e s m args below meth c s₁ B hml hv
  obtain ⟨rfl, hP, hD0, hK⟩ := hv
  have hx := B.exec
  have hb := B.bytes
  have hr := B.returns
  have hts := atoms_spec (ws := wsX0_size) B.pre
  have hown : s.vm.findClass RX0 = some m.cls := findClass_of_methodNamed B.named
  have hlocks := B.notSynchronized
  have hD := hD0.toAdr
  have hS : va_S (adr (wTown cI ta st dy ln rd kd dd nt lf ++ wTrace cI za (nI σ.1) σ.2 ++ wTmp 0 xa)) s.heap s.heap [] := va_S.rf
  generalize adr (wTown cI ta st dy ln rd kd dd nt lf ++ wTrace cI za (nI σ.1) σ.2 ++ wTmp 0 xa) = A at hD hS ⊢
  have hl := lv_entry ([.ref xa, .ref (ta 0), .int (nI (r)), .ref (za 0)]) (n := 4) (Nat.le_of_ble_eq_true rfl)
  rw [lg_entry_eq]
  generalize (lg_sl ([.ref xa, .ref (ta 0), .int (nI (r)), .ref (za 0)]) ++ List.replicate (4 - (lg_sl ([.ref xa, .ref (ta 0), .int (nI (r)), .ref (za 0)])).length) Slot.unset).toArray = ls at hl ⊢
  have hl : lv_has ls 4 [(0, .ref xa), (1, .ref (ta 0)), (2, .int (nI (r))), (3, .ref (za 0))] := hl
  refine lv_aload_n hx hb dX0_size_0 rfl (lv_at hl 3 rfl) ?_
  refine lv_bipush (v := 14) hx hb dX0_size_1 (by decide) ?_
  refine b_callM [5, 6] (va_runV (As := [.int 14]) (rest := []) ⟨hx, hb, hml, hown, hts⟩ (c_X9_leave l D cI cZ cT za σ 14 hz) (cwV 1 hts gX0_size_X9_leave rfl rfl rfl (by decide +kernel) ⟨(Nat.le_of_ble_eq_true rfl), (Nat.le_of_ble_eq_true rfl)⟩) (b_pVM hK hP hD [5, 6] (by decide) rfl rfl 5 rfl rfl) rfl rfl hl.1 rfl (lv_room (Nat.le_of_ble_eq_true rfl)) dX0_size_3 ⟨Nat.zero_le _, Nat.zero_le _⟩).run hP hD hS rfl (Nat.le_of_ble_eq_true rfl) (fun H locs hP hS => ?_)
  have hP : va_P D vwCl (wTown cI ta st dy ln rd kd dd nt lf ++ wTrace cI za (nI (m_beg σ 14).1) ((m_beg σ 14).2) ++ wTmp 0 xa) H := hP
  generalize eq3 : m_beg σ 14 = q3 at hP ⊢
  have hP : va_P D vwCl (wTown cI ta st dy ln rd kd dd nt lf ++ wTrace cI za (nI q3.1) q3.2 ++ wTmp 0 xa) H := hP
  have hD : va_D A (wTown cI ta st dy ln rd kd dd nt lf ++ wTrace cI za (nI q3.1) q3.2 ++ wTmp 0 xa) := hD.sameA [(ta 0), (ta 1), (ta 2), (ta 3), (ta 4), (za 0), (za 1), xa] rfl rfl
  have hq3 : q3.1 ≤ 16 := by rw [← eq3]; first | exact m_beg_le hz | exact m_beg_le (m_beg_le hz) | exact m_beg_le (m_beg_le (m_beg_le hz)) | exact m_beg_le (m_beg_le (m_beg_le (m_beg_le hz))) | exact m_beg_le (m_beg_le (m_beg_le (m_beg_le (m_beg_le hz))))
  refine lv_iconst (v := 2) hx hb dX0_size_6 (by decide) ?_
  refine lv_aload_n hx hb dX0_size_7 rfl (lv_at hl 0 rfl) ?_
  refine lv_aload_n hx hb dX0_size_8 rfl (lv_at hl 1 rfl) ?_
  refine lv_iload_n hx hb dX0_size_9 rfl (lv_at hl 2 rfl) ?_
  refine lv_aload_n hx hb dX0_size_10 rfl (lv_at hl 3 rfl) ?_
  refine b_callM [0, 1, 2, 3, 4, 5, 6, 7] (va_runSU (As := [.ref (ta 0), .int (nI (r)), .ref (za 0)]) (rest := [.int 2]) (hK.1.1 0 _ rfl).2 ⟨hx, hb, hml, hown, hts⟩ (c_X1_size_X0 l D cI cZ cT ta st dy ln rd kd dd nt lf za xa q3 r hr_ (by omega)) (va_cwSU 3 hts gX0_size_X1_size_s17 rfl rfl rfl (by decide +kernel) ⟨(Nat.le_of_ble_eq_true rfl), (Nat.le_of_ble_eq_true rfl)⟩) (b_pVM hK hP hD [0, 1, 2, 3, 4, 5, 6, 7] (by decide) rfl rfl 7 rfl rfl) rfl rfl hl.1 rfl (lv_room (Nat.le_of_ble_eq_true rfl)) dX0_size_11 ⟨Nat.zero_le _, Nat.zero_le _⟩).run hP hD hS rfl (Nat.le_of_ble_eq_true rfl) (fun H locs hP hS => ?_)
  have hP : va_P D vwCl (wTown cI ta st dy ln rd kd dd nt lf ++ wTrace cI za (nI (m_beg (m_beg q3 13) 10).1) ((m_beg (m_beg q3 13) 10).2) ++ wTmp 0 xa) H := hP
  generalize eq11 : m_beg (m_beg q3 13) 10 = q11 at hP ⊢
  have hP : va_P D vwCl (wTown cI ta st dy ln rd kd dd nt lf ++ wTrace cI za (nI q11.1) q11.2 ++ wTmp 0 xa) H := hP
  have hD : va_D A (wTown cI ta st dy ln rd kd dd nt lf ++ wTrace cI za (nI q11.1) q11.2 ++ wTmp 0 xa) := hD.sameA [(ta 0), (ta 1), (ta 2), (ta 3), (ta 4), (za 0), (za 1), xa] rfl rfl
  have hq11 : q11.1 ≤ 16 := by rw [← eq11]; first | exact m_beg_le hq3 | exact m_beg_le (m_beg_le hq3) | exact m_beg_le (m_beg_le (m_beg_le hq3)) | exact m_beg_le (m_beg_le (m_beg_le (m_beg_le hq3))) | exact m_beg_le (m_beg_le (m_beg_le (m_beg_le (m_beg_le hq3))))
  refine lv_imul hx hb dX0_size_14 ?_
  have E : m_beg (m_beg (m_beg σ 14) 13) 10 = q11 := (by rw [eq3, eq11])
  try rw [E]
  exact b_retM hx hb hr hP hS rfl dX0_size_15 hlocks
set_option maxHeartbeats 4000000 in
set_option maxRecDepth 100000 in
theorem c_X1_mark_X1 (l : Launch) (D : va_G) (cI cZ cT : ClassId) (ta : Nat → Nat) (st dy ln rd : Int32) (kd dd nt lf : Nat → Int32) (za : Nat → Nat) (xa : Nat) (σ : Nat × (Nat → Int32)) (r : Nat) (hr_ : r ≤ 5) (hz : σ.1 ≤ 16) : Met l yX1_mark wsX1_mark ({ frames := 3, cells := 0, slots := 0, locals := 67 }) (pM D cI cZ cT [.ref xa, .ref (ta 0), .int (nI (r)), .ref (za 0)] (wTown cI ta st dy ln rd kd dd nt lf ++ wTrace cI za (nI σ.1) σ.2 ++ wTmp 1 xa)) (qM D (some (.int (nI r - (bc32 (nt r) - 100)))) (wTown cI ta st dy ln rd kd dd nt lf ++ wTrace cI za (nI (m_beg (m_beg (m_beg (m_beg σ 23) 20) 13) 10).1) ((m_beg (m_beg (m_beg (m_beg σ 23) 20) 13) 10).2) ++ wTmp 1 xa) (adr (wTown cI ta st dy ln rd kd dd nt lf ++ wTrace cI za (nI σ.1) σ.2 ++ wTmp 1 xa))) 0 0 (adr (wTown cI ta st dy ln rd kd dd nt lf ++ wTrace cI za (nI σ.1) σ.2 ++ wTmp 1 xa)) := by
  refine Met.ofW (cc := cX1_mark) (maxL := 4) (ret := (some .int)) (by decide) rfl ?_
  intro p e s m args below meth c s₁ B hml hv
  obtain ⟨rfl, hP, hD0, hK⟩ := hv
  have hx := B.exec
  have hb := B.bytes
  have hr := B.returns
  have hts := atoms_spec (ws := wsX1_mark) B.pre
  have hown : s.vm.findClass RX1 = some m.cls := findClass_of_methodNamed B.named
  have hlocks := B.notSynchronized
  have hD := hD0.toAdr
  have hS : va_S (adr (wTown cI ta st dy ln rd kd dd nt lf ++ wTrace cI za (nI σ.1) σ.2 ++ wTmp 1 xa)) s.heap s.heap [] := va_S.rf
  generalize adr (wTown cI ta st dy ln rd kd dd nt lf ++ wTrace cI za (nI σ.1) σ.2 ++ wTmp 1 xa) = A at hD hS ⊢
  have hl := lv_entry ([.ref xa, .ref (ta 0), .int (nI (r)), .ref (za 0)]) (n := 4) (Nat.le_of_ble_eq_true rfl)
  rw [lg_entry_eq]
  generalize (lg_sl ([.ref xa, .ref (ta 0), .int (nI (r)), .ref (za 0)]) ++ List.replicate (4 - (lg_sl ([.ref xa, .ref (ta 0), .int (nI (r)), .ref (za 0)])).length) Slot.unset).toArray = ls at hl ⊢
  have hl : lv_has ls 4 [(0, .ref xa), (1, .ref (ta 0)), (2, .int (nI (r))), (3, .ref (za 0))] := hl
  refine lv_aload_n hx hb dX1_mark_0 rfl (lv_at hl 3 rfl) ?_
  refine lv_bipush (v := 23) hx hb dX1_mark_1 (by decide) ?_
  refine b_callM [5, 6] (va_runV (As := [.int 23]) (rest := []) ⟨hx, hb, hml, hown, hts⟩ (c_X9_leave l D cI cZ cT za σ 23 hz) (cwV 1 hts gX1_mark_X9_leave rfl rfl rfl (by decide +kernel) ⟨(Nat.le_of_ble_eq_true rfl), (Nat.le_of_ble_eq_true rfl)⟩) (b_pVM hK hP hD [5, 6] (by decide) rfl rfl 5 rfl rfl) rfl rfl hl.1 rfl (lv_room (Nat.le_of_ble_eq_true rfl)) dX1_mark_3 ⟨Nat.zero_le _, Nat.zero_le _⟩).run hP hD hS rfl (Nat.le_of_ble_eq_true rfl) (fun H locs hP hS => ?_)
  have hP : va_P D vwCl (wTown cI ta st dy ln rd kd dd nt lf ++ wTrace cI za (nI (m_beg σ 23).1) ((m_beg σ 23).2) ++ wTmp 1 xa) H := hP
  generalize eq3 : m_beg σ 23 = q3 at hP ⊢
  have hP : va_P D vwCl (wTown cI ta st dy ln rd kd dd nt lf ++ wTrace cI za (nI q3.1) q3.2 ++ wTmp 1 xa) H := hP
  have hD : va_D A (wTown cI ta st dy ln rd kd dd nt lf ++ wTrace cI za (nI q3.1) q3.2 ++ wTmp 1 xa) := hD.sameA [(ta 0), (ta 1), (ta 2), (ta 3), (ta 4), (za 0), (za 1), xa] rfl rfl
  have hq3 : q3.1 ≤ 16 := by rw [← eq3]; first | exact m_beg_le hz | exact m_beg_le (m_beg_le hz) | exact m_beg_le (m_beg_le (m_beg_le hz)) | exact m_beg_le (m_beg_le (m_beg_le (m_beg_le hz))) | exact m_beg_le (m_beg_le (m_beg_le (m_beg_le (m_beg_le hz))))
  refine lv_aload_n hx hb dX1_mark_6 rfl (lv_at hl 0 rfl) ?_
  refine lv_aload_n hx hb dX1_mark_7 rfl (lv_at hl 1 rfl) ?_
  refine lv_iload_n hx hb dX1_mark_8 rfl (lv_at hl 2 rfl) ?_
  refine lv_aload_n hx hb dX1_mark_9 rfl (lv_at hl 3 rfl) ?_
  refine b_callM [0, 1, 2, 3, 4, 5, 6] (va_runSU (As := [.ref (ta 0), .int (nI (r)), .ref (za 0)]) (rest := []) (hK.1.1 1 _ rfl).2 ⟨hx, hb, hml, hown, hts⟩ (c_X7_mark l D cI cZ cT ta st dy ln rd kd dd nt lf za xa q3 r hr_ (by omega)) (va_cwSU 3 hts gX1_mark_X7_mark_s23 rfl rfl rfl (by decide +kernel) ⟨(Nat.le_of_ble_eq_true rfl), (Nat.le_of_ble_eq_true rfl)⟩) (b_pVM hK hP hD [0, 1, 2, 3, 4, 5, 6] (by decide) rfl rfl 7 rfl rfl) rfl rfl hl.1 rfl (lv_room (Nat.le_of_ble_eq_true rfl)) dX1_mark_10 ⟨Nat.zero_le _, Nat.zero_le _⟩).run hP hD hS rfl (Nat.le_of_ble_eq_true rfl) (fun H locs hP hS => ?_)
  have hP : va_P D vwCl (wTown cI ta st dy ln rd kd dd nt lf ++ wTrace cI za (nI (m_beg q3 20).1) ((m_beg q3 20).2) ++ wTmp 1 xa) H := hP
  generalize eq10 : m_beg q3 20 = q10 at hP ⊢
  have hP : va_P D vwCl (wTown cI ta st dy ln rd kd dd nt lf ++ wTrace cI za (nI q10.1) q10.2 ++ wTmp 1 xa) H := hP
  have hD : va_D A (wTown cI ta st dy ln rd kd dd nt lf ++ wTrace cI za (nI q10.1) q10.2 ++ wTmp 1 xa) := hD.sameA [(ta 0), (ta 1), (ta 2), (ta 3), (ta 4), (za 0), (za 1), xa] rfl rfl
  have hq10 : q10.1 ≤ 16 := by rw [← eq10]; first | exact m_beg_le hq3 | exact m_beg_le (m_beg_le hq3) | exact m_beg_le (m_beg_le (m_beg_le hq3)) | exact m_beg_le (m_beg_le (m_beg_le (m_beg_le hq3))) | exact m_beg_le (m_beg_le (m_beg_le (m_beg_le (m_beg_le hq3))))
  refine lv_aload_n hx hb dX1_mark_13 rfl (lv_at hl 0 rfl) ?_
  refine lv_aload_n hx hb dX1_mark_14 rfl (lv_at hl 1 rfl) ?_
  refine lv_iload_n hx hb dX1_mark_15 rfl (lv_at hl 2 rfl) ?_
  refine lv_aload_n hx hb dX1_mark_16 rfl (lv_at hl 3 rfl) ?_
  refine b_callM [0, 1, 2, 3, 4, 5, 6, 7] (va_runV (As := [.ref (ta 0), .int (nI (r)), .ref (za 0)]) (rest := [.int (nI (r))]) ⟨hx, hb, hml, hown, hts⟩ (c_X1_size_X1 l D cI cZ cT ta st dy ln rd kd dd nt lf za xa q10 r hr_ (by omega)) (cwV 3 hts gX1_mark_X1_size rfl rfl rfl (by decide +kernel) ⟨(Nat.le_of_ble_eq_true rfl), (Nat.le_of_ble_eq_true rfl)⟩) (b_pVM hK hP hD [0, 1, 2, 3, 4, 5, 6, 7] (by decide) rfl rfl 7 rfl rfl) rfl rfl hl.1 rfl (lv_room (Nat.le_of_ble_eq_true rfl)) dX1_mark_17 ⟨Nat.zero_le _, Nat.zero_le _⟩).run hP hD hS rfl (Nat.le_of_ble_eq_true rfl) (fun H locs hP hS => ?_)
  have hP : va_P D vwCl (wTown cI ta st dy ln rd kd dd nt lf ++ wTrace cI za (nI (m_beg (m_beg q10 13) 10).1) ((m_beg (m_beg q10 13) 10).2) ++ wTmp 1 xa) H := hP
  generalize eq17 : m_beg (m_beg q10 13) 10 = q17 at hP ⊢
  have hP : va_P D vwCl (wTown cI ta st dy ln rd kd dd nt lf ++ wTrace cI za (nI q17.1) q17.2 ++ wTmp 1 xa) H := hP
  have hD : va_D A (wTown cI ta st dy ln rd kd dd nt lf ++ wTrace cI za (nI q17.1) q17.2 ++ wTmp 1 xa) := hD.sameA [(ta 0), (ta 1), (ta 2), (ta 3), (ta 4), (za 0), (za 1), xa] rfl rfl
  have hq17 : q17.1 ≤ 16 := by rw [← eq17]; first | exact m_beg_le hq10 | exact m_beg_le (m_beg_le hq10) | exact m_beg_le (m_beg_le (m_beg_le hq10)) | exact m_beg_le (m_beg_le (m_beg_le (m_beg_le hq10))) | exact m_beg_le (m_beg_le (m_beg_le (m_beg_le (m_beg_le hq10))))
  refine lv_isub hx hb dX1_mark_20 ?_
  have E : m_beg (m_beg (m_beg (m_beg σ 23) 20) 13) 10 = q17 := (by rw [eq3, eq10, eq17])
  try rw [E]
  exact b_retM hx hb hr hP hS rfl dX1_mark_21 hlocks
set_option maxHeartbeats 4000000 in
set_option maxRecDepth 100000 in
theorem c_X1_mark_X0 (l : Launch) (D : va_G) (cI cZ cT : ClassId) (ta : Nat → Nat) (st dy ln rd : Int32) (kd dd nt lf : Nat → Int32) (za : Nat → Nat) (xa : Nat) (σ : Nat × (Nat → Int32)) (r : Nat) (hr_ : r ≤ 5) (hz : σ.1 ≤ 16) : Met l yX1_mark wsX1_mark ({ frames := 4, cells := 0, slots := 0, locals := 90 }) (pM D cI cZ cT [.ref xa, .ref (ta 0), .int (nI (r)), .ref (za 0)] (wTown cI ta st dy ln rd kd dd nt lf ++ wTrace cI za (nI σ.1) σ.2 ++ wTmp 0 xa)) (qM D (some (.int (nI r - 2 * (bc32 (nt r) - 100)))) (wTown cI ta st dy ln rd kd dd nt lf ++ wTrace cI za (nI (m_beg (m_beg (m_beg (m_beg (m_beg σ 23) 20) 14) 13) 10).1) ((m_beg (m_beg (m_beg (m_beg (m_beg σ 23) 20) 14) 13) 10).2) ++ wTmp 0 xa) (adr (wTown cI ta st dy ln rd kd dd nt lf ++ wTrace cI za (nI σ.1) σ.2 ++ wTmp 0 xa))) 0 0 (adr (wTown cI ta st dy ln rd kd dd nt lf ++ wTrace cI za (nI σ.1) σ.2 ++ wTmp 0 xa)) := by
  refine Met.ofW (cc := cX1_mark) (maxL := 4) (ret := (some .int)) (by decide) rfl ?_
  intro p e s m args below meth c s₁ B hml hv
  obtain ⟨rfl, hP, hD0, hK⟩ := hv
  have hx := B.exec
  have hb := B.bytes
  have hr := B.returns
  have hts := atoms_spec (ws := wsX1_mark) B.pre
  have hown : s.vm.findClass RX1 = some m.cls := findClass_of_methodNamed B.named
  have hlocks := B.notSynchronized
  have hD := hD0.toAdr
  have hS : va_S (adr (wTown cI ta st dy ln rd kd dd nt lf ++ wTrace cI za (nI σ.1) σ.2 ++ wTmp 0 xa)) s.heap s.heap [] := va_S.rf
  generalize adr (wTown cI ta st dy ln rd kd dd nt lf ++ wTrace cI za (nI σ.1) σ.2 ++ wTmp 0 xa) = A at hD hS ⊢
  have hl := lv_entry ([.ref xa, .ref (ta 0), .int (nI (r)), .ref (za 0)]) (n := 4) (Nat.le_of_ble_eq_true rfl)
  rw [lg_entry_eq]
  generalize (lg_sl ([.ref xa, .ref (ta 0), .int (nI (r)), .ref (za 0)]) ++ List.replicate (4 - (lg_sl ([.ref xa, .ref (ta 0), .int (nI (r)), .ref (za 0)])).length) Slot.unset).toArray = ls at hl ⊢
  have hl : lv_has ls 4 [(0, .ref xa), (1, .ref (ta 0)), (2, .int (nI (r))), (3, .ref (za 0))] := hl
  refine lv_aload_n hx hb dX1_mark_0 rfl (lv_at hl 3 rfl) ?_
  refine lv_bipush (v := 23) hx hb dX1_mark_1 (by decide) ?_
  refine b_callM [5, 6] (va_runV (As := [.int 23]) (rest := []) ⟨hx, hb, hml, hown, hts⟩ (c_X9_leave l D cI cZ cT za σ 23 hz) (cwV 1 hts gX1_mark_X9_leave rfl rfl rfl (by decide +kernel) ⟨(Nat.le_of_ble_eq_true rfl), (Nat.le_of_ble_eq_true rfl)⟩) (b_pVM hK hP hD [5, 6] (by decide) rfl rfl 5 rfl rfl) rfl rfl hl.1 rfl (lv_room (Nat.le_of_ble_eq_true rfl)) dX1_mark_3 ⟨Nat.zero_le _, Nat.zero_le _⟩).run hP hD hS rfl (Nat.le_of_ble_eq_true rfl) (fun H locs hP hS => ?_)
  have hP : va_P D vwCl (wTown cI ta st dy ln rd kd dd nt lf ++ wTrace cI za (nI (m_beg σ 23).1) ((m_beg σ 23).2) ++ wTmp 0 xa) H := hP
  generalize eq3 : m_beg σ 23 = q3 at hP ⊢
  have hP : va_P D vwCl (wTown cI ta st dy ln rd kd dd nt lf ++ wTrace cI za (nI q3.1) q3.2 ++ wTmp 0 xa) H := hP
  have hD : va_D A (wTown cI ta st dy ln rd kd dd nt lf ++ wTrace cI za (nI q3.1) q3.2 ++ wTmp 0 xa) := hD.sameA [(ta 0), (ta 1), (ta 2), (ta 3), (ta 4), (za 0), (za 1), xa] rfl rfl
  have hq3 : q3.1 ≤ 16 := by rw [← eq3]; first | exact m_beg_le hz | exact m_beg_le (m_beg_le hz) | exact m_beg_le (m_beg_le (m_beg_le hz)) | exact m_beg_le (m_beg_le (m_beg_le (m_beg_le hz))) | exact m_beg_le (m_beg_le (m_beg_le (m_beg_le (m_beg_le hz))))
  refine lv_aload_n hx hb dX1_mark_6 rfl (lv_at hl 0 rfl) ?_
  refine lv_aload_n hx hb dX1_mark_7 rfl (lv_at hl 1 rfl) ?_
  refine lv_iload_n hx hb dX1_mark_8 rfl (lv_at hl 2 rfl) ?_
  refine lv_aload_n hx hb dX1_mark_9 rfl (lv_at hl 3 rfl) ?_
  refine b_callM [0, 1, 2, 3, 4, 5, 6] (va_runSU (As := [.ref (ta 0), .int (nI (r)), .ref (za 0)]) (rest := []) (hK.1.1 0 _ rfl).2 ⟨hx, hb, hml, hown, hts⟩ (c_X7_mark l D cI cZ cT ta st dy ln rd kd dd nt lf za xa q3 r hr_ (by omega)) (va_cwSU 3 hts gX1_mark_X7_mark_s23 rfl rfl rfl (by decide +kernel) ⟨(Nat.le_of_ble_eq_true rfl), (Nat.le_of_ble_eq_true rfl)⟩) (b_pVM hK hP hD [0, 1, 2, 3, 4, 5, 6] (by decide) rfl rfl 7 rfl rfl) rfl rfl hl.1 rfl (lv_room (Nat.le_of_ble_eq_true rfl)) dX1_mark_10 ⟨Nat.zero_le _, Nat.zero_le _⟩).run hP hD hS rfl (Nat.le_of_ble_eq_true rfl) (fun H locs hP hS => ?_)
  have hP : va_P D vwCl (wTown cI ta st dy ln rd kd dd nt lf ++ wTrace cI za (nI (m_beg q3 20).1) ((m_beg q3 20).2) ++ wTmp 0 xa) H := hP
  generalize eq10 : m_beg q3 20 = q10 at hP ⊢
  have hP : va_P D vwCl (wTown cI ta st dy ln rd kd dd nt lf ++ wTrace cI za (nI q10.1) q10.2 ++ wTmp 0 xa) H := hP
  have hD : va_D A (wTown cI ta st dy ln rd kd dd nt lf ++ wTrace cI za (nI q10.1) q10.2 ++ wTmp 0 xa) := hD.sameA [(ta 0), (ta 1), (ta 2), (ta 3), (ta 4), (za 0), (za 1), xa] rfl rfl
  have hq10 : q10.1 ≤ 16 := by rw [← eq10]; first | exact m_beg_le hq3 | exact m_beg_le (m_beg_le hq3) | exact m_beg_le (m_beg_le (m_beg_le hq3)) | exact m_beg_le (m_beg_le (m_beg_le (m_beg_le hq3))) | exact m_beg_le (m_beg_le (m_beg_le (m_beg_le (m_beg_le hq3))))
  refine lv_aload_n hx hb dX1_mark_13 rfl (lv_at hl 0 rfl) ?_
  refine lv_aload_n hx hb dX1_mark_14 rfl (lv_at hl 1 rfl) ?_
  refine lv_iload_n hx hb dX1_mark_15 rfl (lv_at hl 2 rfl) ?_
  refine lv_aload_n hx hb dX1_mark_16 rfl (lv_at hl 3 rfl) ?_
  refine b_callM [0, 1, 2, 3, 4, 5, 6, 7] (va_runU (As := [.ref (ta 0), .int (nI (r)), .ref (za 0)]) (rest := [.int (nI (r))]) ⟨hx, hb, hml, hown, hts⟩ (c_X0_size_X0 l D cI cZ cT ta st dy ln rd kd dd nt lf za xa q10 r hr_ (by omega)) (va_cwO 3 hts gX1_mark_X0_size_u26X0 rfl rfl rfl (b0 := cX1_size) (m0 := 4) (r0 := (some .int)) (List.mem_of_getElem? (i := 27) rfl) (by decide +kernel) ⟨(Nat.le_of_ble_eq_true rfl), (Nat.le_of_ble_eq_true rfl)⟩) (b_pVM hK hP hD [0, 1, 2, 3, 4, 5, 6, 7] (by decide) rfl rfl 7 rfl rfl) rfl rfl hl.1 rfl (lv_room (Nat.le_of_ble_eq_true rfl)) dX1_mark_17 ⟨Nat.zero_le _, Nat.zero_le _⟩).run hP hD hS rfl (Nat.le_of_ble_eq_true rfl) (fun H locs hP hS => ?_)
  have hP : va_P D vwCl (wTown cI ta st dy ln rd kd dd nt lf ++ wTrace cI za (nI (m_beg (m_beg (m_beg q10 14) 13) 10).1) ((m_beg (m_beg (m_beg q10 14) 13) 10).2) ++ wTmp 0 xa) H := hP
  generalize eq17 : m_beg (m_beg (m_beg q10 14) 13) 10 = q17 at hP ⊢
  have hP : va_P D vwCl (wTown cI ta st dy ln rd kd dd nt lf ++ wTrace cI za (nI q17.1) q17.2 ++ wTmp 0 xa) H := hP
  have hD : va_D A (wTown cI ta st dy ln rd kd dd nt lf ++ wTrace cI za (nI q17.1) q17.2 ++ wTmp 0 xa) := hD.sameA [(ta 0), (ta 1), (ta 2), (ta 3), (ta 4), (za 0), (za 1), xa] rfl rfl
  have hq17 : q17.1 ≤ 16 := by rw [← eq17]; first | exact m_beg_le hq10 | exact m_beg_le (m_beg_le hq10) | exact m_beg_le (m_beg_le (m_beg_le hq10)) | exact m_beg_le (m_beg_le (m_beg_le (m_beg_le hq10))) | exact m_beg_le (m_beg_le (m_beg_le (m_beg_le (m_beg_le hq10))))
  refine lv_isub hx hb dX1_mark_20 ?_
  have E : m_beg (m_beg (m_beg (m_beg (m_beg σ 23) 20) 14) 13) 10 = q17 := (by rw [eq3, eq10, eq17])
  try rw [E]
  exact b_retM hx hb hr hP hS rfl dX1_mark_21 hlocks
