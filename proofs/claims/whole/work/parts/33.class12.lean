/-! CLASS: its own small ones, the rows -/
theorem i_ltC {i y : Int32} (m : Nat) (hm : m ≤ 900) (h0 : ¬ i < 0) (h : ¬ y ≤ i) (hy : y = nI (m + 1)) : ∃ r : Nat, r ≤ m ∧ i = nI r := by
  subst hy; exact i_ltN hm (Nat.le_refl _) h0 h
theorem i_0le {x : Int32} (h : 0 ≤ x) : ¬ x < 0 := by
  rw [i_le] at h; rw [i_lt]; omega
def lkF (la sz : Nat → Int32) (r : Nat) (i x : Int32) : Int32 := if la r = -1 then 1 else if ¬ i < 0 ∧ ¬ x < 0 ∧ ¬ sz r < x ∧ ¬ sz r - x < i then 0 else 2
theorem lk_0 {la sz : Nat → Int32} {r : Nat} {i x : Int32} (h : lkF la sz r i x = 0) : ¬ la r = -1 ∧ ¬ i < 0 ∧ ¬ x < 0 ∧ ¬ sz r < x ∧ ¬ sz r - x < i := by
  unfold lkF at h
  by_cases h1 : la r = -1
  · rw [if_pos h1] at h; exact absurd h (by decide)
  · rw [if_neg h1] at h
    by_cases h2 : ¬ i < 0 ∧ ¬ x < 0 ∧ ¬ sz r < x ∧ ¬ sz r - x < i
    · exact ⟨h1, h2⟩
    · rw [if_neg h2] at h; exact absurd h (by decide)
theorem i_place {i n : Int32} {k : Nat} (hk : k ≤ 40) (h : ¬ i < 0 ∧ ¬ n < 0 ∧ ¬ nI k < n ∧ ¬ nI k - n < i) : ∃ a b : Nat, a + b ≤ k ∧ i = nI a ∧ n = nI b := by
  obtain ⟨h0, h1, h2, h3⟩ := h
  obtain ⟨a, ha, rfl⟩ := nI_of h0
  obtain ⟨b, hb, rfl⟩ := nI_of h1
  rw [i_lt, nI_toInt hb, i_nT (by omega)] at h2
  rw [i_lt, i_subT (by omega) b (by omega), nI_toInt ha] at h3
  exact ⟨a, b, by omega, rfl, rfl⟩
def x_row (fi : Int32) (la sz it : Nat → Int32) (row lane x : Int32) : Int32 × Int32 × (Nat → Int32) × (Nat → Int32) × (Nat → Int32) :=
  if ¬ (¬ row < 0 ∧ ¬ 8 ≤ row) then (-1000001, fi, la, sz, it)
  else if ¬ (¬ lane < 0 ∧ ¬ 2 < lane) then (-1000001, fi, la, sz, it)
  else if ¬ x ≤ 40 then (-1000001, fi, la, sz, it)
  else if ¬ 0 ≤ x then ((-1000010) - 4, 4, la, sz, it)
  else (x, 0, upd la (tn row) lane, upd sz (tn row) x, itr (fun j f => upd f (tn row * 40 + j) 0) (tn x) it)
def x_set (fi : Int32) (la sz it : Nat → Int32) (row i v : Int32) : Int32 × Int32 × (Nat → Int32) :=
  if ¬ (¬ row < 0 ∧ ¬ 8 ≤ row) then (-1000001, fi, it)
  else if ¬ lkF la sz (tn row) i 1 = 0 then ((-1000010) - lkF la sz (tn row) i 1, lkF la sz (tn row) i 1, it)
  else (keptf (la (tn row)) v, 0, upd it (tn row * 40 + tn i) (keptf (la (tn row)) v))
def x_copy (fi : Int32) (la sz it : Nat → Int32) (a i b j x : Int32) : Int32 × Int32 × (Nat → Int32) :=
  if ¬ (¬ a < 0 ∧ ¬ 8 ≤ a) then (-1000001, fi, it)
  else if ¬ (¬ b < 0 ∧ ¬ 8 ≤ b) then (-1000001, fi, it)
  else if la (tn a) = -1 then ((-1000010) - 1, 1, it)
  else if la (tn b) = -1 then ((-1000010) - 1, 1, it)
  else if ¬ la (tn a) = la (tn b) then ((-1000010) - 5, 5, it)
  else if ¬ (¬ i < 0 ∧ ¬ x < 0 ∧ ¬ sz (tn a) < x ∧ ¬ sz (tn a) - x < i) then ((-1000010) - 2, 2, it)
  else if ¬ (¬ j < 0 ∧ ¬ x < 0 ∧ ¬ sz (tn b) < x ∧ ¬ sz (tn b) - x < j) then ((-1000010) - 2, 2, it)
  else (x, 0, va_cpy it it (tn a * 40 + tn i) (tn b * 40 + tn j) (tn x))
def x_drop (fi : Int32) (la sz : Nat → Int32) (row : Int32) : Int32 × Int32 × (Nat → Int32) × (Nat → Int32) :=
  if ¬ (¬ row < 0 ∧ ¬ 8 ≤ row) then (-1000001, fi, la, sz)
  else if la (tn row) = -1 then ((-1000010) - 1, 1, la, sz)
  else (sz (tn row), 0, upd la (tn row) (-1), upd sz (tn row) 0)
def x_feed (t : Nat) (bt : Nat → Int32) (x : Int32) : Int32 × Nat × (Nat → Int32) :=
  if x < 0 then (-1000001, t, bt)
  else if ¬ x ≤ 255 then (-1000001, t, bt)
  else if 120 ≤ t then (-1000003, t, bt)
  else (nI (t + 1), t + 1, upd bt t x)
theorem x_into_st {bt : Nat → Int32} {t : Nat} {tf : Int32} {kd dd nt lf : Nat → Int32} : (x_into bt t tf kd dd nt lf).2.2.1 = 0 ∨ (x_into bt t tf kd dd nt lf).2.2.1 = 1 := by
  unfold x_into
  generalize rI bt t (rLaw bt t (0, 0)).2 kd dd nt lf 7 = z
  by_cases h : z.1.2 = 0
  · rw [if_pos h]; exact Or.inr rfl
  · rw [if_neg h]; exact Or.inl rfl
def x_town (un : Int32) (t : Nat) (bt : Nat → Int32) (tf : Int32) (y : TS) (dkd ddd dnt dlf : Nat → Int32) : Int32 × Int32 × TS × (Int32 × Int32 × Int32 × Int32 × ((Nat × Int32) × TwT)) :=
  if (x_into bt t tf dkd ddd dnt dlf).1 = -1 then (nI (x_into bt t tf dkd ddd dnt dlf).2.2.2.2.2.1, nI 0, ((x_into bt t tf dkd ddd dnt dlf).2.2.1, 0, (x_into bt t tf dkd ddd dnt dlf).2.2.2.1, nI (x_into bt t tf dkd ddd dnt dlf).2.2.2.2.2.1, cp6 (x_into bt t tf dkd ddd dnt dlf).2.2.2.2.2.2.1 y.2.2.2.2.1 6, cp6 (x_into bt t tf dkd ddd dnt dlf).2.2.2.2.2.2.2.1 y.2.2.2.2.2.1 6, cp6 (x_into bt t tf dkd ddd dnt dlf).2.2.2.2.2.2.2.2.1 y.2.2.2.2.2.2.1 6, cp6 (x_into bt t tf dkd ddd dnt dlf).2.2.2.2.2.2.2.2.2 y.2.2.2.2.2.2.2 6), x_into bt t tf dkd ddd dnt dlf)
  else ((-1000100) - (x_into bt t tf dkd ddd dnt dlf).1, un, y, x_into bt t tf dkd ddd dnt dlf)
theorem u_X11_found_X11 : ∀ w ∈ wsX110, w ∈ wsX11_found := fun _ h => List.mem_cons_of_mem _ (List.mem_append_right _ h)
set_option maxHeartbeats 4000000 in
set_option maxRecDepth 100000 in
theorem c_X11_found (l : Launch) (D : va_G) (cI cZ cT : ClassId) (nx : Nat) (ra pa ta da : Nat → Nat) (ia xa : Nat) (fa za : Nat → Nat) (un na fi v : Int32)  : Met l yX11_found wsX11_found ({ frames := 0, cells := 0, slots := 0, locals := 0 }) (pM D cI cZ cT [.ref nx, .int v] (wNW nx ra pa ta da ia xa fa za un na fi)) (qM D (some (.int ((-1000010) - v))) (wNW nx ra pa ta da ia xa fa za un na v) (adr (wNW nx ra pa ta da ia xa fa za un na fi))) 0 0 (adr (wNW nx ra pa ta da ia xa fa za un na fi)) := by
  refine Met.ofW (cc := cX11_found) (maxL := 2) (ret := (some .int)) (by decide) rfl ?_
  intro p e s m args below meth c s₁ B hml hv
  obtain ⟨rfl, hP, hD0, hK⟩ := hv
  have hx := B.exec
  have hb := B.bytes
  have hr := B.returns
  have hts := atoms_spec (ws := wsX11_found) B.pre
  have hown : s.vm.findClass RX11 = some m.cls := findClass_of_methodNamed B.named
  have hlocks := B.notSynchronized
  have hD := hD0.toAdr
  have hS : va_S (adr (wNW nx ra pa ta da ia xa fa za un na fi)) s.heap s.heap [] := va_S.rf
  generalize adr (wNW nx ra pa ta da ia xa fa za un na fi) = A at hD hS ⊢
  have hl := lv_entry ([.ref nx, .int v]) (n := 2) (Nat.le_of_ble_eq_true rfl)
  rw [lg_entry_eq]
  generalize (lg_sl ([.ref nx, .int v]) ++ List.replicate (2 - (lg_sl ([.ref nx, .int v])).length) Slot.unset).toArray = ls at hl ⊢
  have hl : lv_has ls 2 [(0, .ref nx), (1, .int v)] := hl
  refine lv_aload_n hx hb dX11_found_0 rfl (lv_at hl 0 rfl) ?_
  refine lv_iload_n hx hb dX11_found_1 rfl (lv_at hl 1 rfl) ?_
  refine b_put (C := RX11) (T := TX11) (N := 11) hx hb hts u_X11_found_X11 tyX11 tyX11_ok nmX11 hown hK hP hD hS 0 rfl rfl 10 (by decide) (hts (.fieldLink RX11 61 "NoticeWeek" "finding" "I") (List.mem_of_getElem? (i := 1) rfl)) rfl (by decide +kernel) (Nat.le_of_ble_eq_true rfl) dX11_found_2 (fun H locs hP hS => ?_)
  have hP : va_P D vwCl (wNW nx ra pa ta da ia xa fa za un na v) H := hP
  have hD : va_D A (wNW nx ra pa ta da ia xa fa za un na v) := hD.sameA [nx] rfl rfl
  refine lv_ldcw (v := (-1000010)) hx hb hown (hts (.constant RX11 292 (-1000010)) (List.mem_of_getElem? (i := 2) rfl)) dX11_found_5 ?_
  refine lv_iload_n hx hb dX11_found_8 rfl (lv_at hl 1 rfl) ?_
  refine lv_isub hx hb dX11_found_9 ?_
  exact b_retM hx hb hr hP hS (by first | with_reducible rfl | (simp only [bI, not_true_eq_false, not_false_eq_true, ite_true, ite_false, if_true, if_false, and_self, and_true, true_and, false_and, and_false, or_true, true_or, or_false, false_or]; done) | (simp [bI]; done) | omega) dX11_found_10 hlocks
theorem u_X11_well_X11 : ∀ w ∈ wsX110, w ∈ wsX11_well := fun _ h => List.mem_cons_of_mem _ (List.mem_append_right _ h)
set_option maxHeartbeats 4000000 in
set_option maxRecDepth 100000 in
theorem c_X11_well (l : Launch) (D : va_G) (cI cZ cT : ClassId) (nx : Nat) (ra pa ta da : Nat → Nat) (ia xa : Nat) (fa za : Nat → Nat) (un na fi v : Int32)  : Met l yX11_well wsX11_well ({ frames := 0, cells := 0, slots := 0, locals := 0 }) (pM D cI cZ cT [.ref nx, .int v] (wNW nx ra pa ta da ia xa fa za un na fi)) (qM D (some (.int v)) (wNW nx ra pa ta da ia xa fa za un na 0) (adr (wNW nx ra pa ta da ia xa fa za un na fi))) 0 0 (adr (wNW nx ra pa ta da ia xa fa za un na fi)) := by
  refine Met.ofW (cc := cX11_well) (maxL := 2) (ret := (some .int)) (by decide) rfl ?_
  intro p e s m args below meth c s₁ B hml hv
  obtain ⟨rfl, hP, hD0, hK⟩ := hv
  have hx := B.exec
  have hb := B.bytes
  have hr := B.returns
  have hts := atoms_spec (ws := wsX11_well) B.pre
  have hown : s.vm.findClass RX11 = some m.cls := findClass_of_methodNamed B.named
  have hlocks := B.notSynchronized
  have hD := hD0.toAdr
  have hS : va_S (adr (wNW nx ra pa ta da ia xa fa za un na fi)) s.heap s.heap [] := va_S.rf
  generalize adr (wNW nx ra pa ta da ia xa fa za un na fi) = A at hD hS ⊢
  have hl := lv_entry ([.ref nx, .int v]) (n := 2) (Nat.le_of_ble_eq_true rfl)
  rw [lg_entry_eq]
  generalize (lg_sl ([.ref nx, .int v]) ++ List.replicate (2 - (lg_sl ([.ref nx, .int v])).length) Slot.unset).toArray = ls at hl ⊢
  have hl : lv_has ls 2 [(0, .ref nx), (1, .int v)] := hl
  refine lv_aload_n hx hb dX11_well_0 rfl (lv_at hl 0 rfl) ?_
  refine lv_iconst (v := 0) hx hb dX11_well_1 (by decide) ?_
  refine b_put (C := RX11) (T := TX11) (N := 11) hx hb hts u_X11_well_X11 tyX11 tyX11_ok nmX11 hown hK hP hD hS 0 rfl rfl 10 (by decide) (hts (.fieldLink RX11 61 "NoticeWeek" "finding" "I") (List.mem_of_getElem? (i := 1) rfl)) rfl (by decide +kernel) (Nat.le_of_ble_eq_true rfl) dX11_well_2 (fun H locs hP hS => ?_)
  have hP : va_P D vwCl (wNW nx ra pa ta da ia xa fa za un na 0) H := hP
  have hD : va_D A (wNW nx ra pa ta da ia xa fa za un na 0) := hD.sameA [nx] rfl rfl
  refine lv_iload_n hx hb dX11_well_5 rfl (lv_at hl 1 rfl) ?_
  exact b_retM hx hb hr hP hS (by first | with_reducible rfl | (simp only [bI, not_true_eq_false, not_false_eq_true, ite_true, ite_false, if_true, if_false, and_self, and_true, true_and, false_and, and_false, or_true, true_or, or_false, false_or]; done) | (simp [bI]; done) | omega) dX11_well_6 hlocks
theorem u_X11_forgetActs_X11 : ∀ w ∈ wsX110, w ∈ wsX11_forgetActs := fun _ h => List.mem_cons_of_mem _ (List.mem_append_right _ h)
set_option maxHeartbeats 4000000 in
set_option maxRecDepth 100000 in
theorem c_X11_forgetActs (l : Launch) (D : va_G) (cI cZ cT : ClassId) (nx : Nat) (ra pa ta da : Nat → Nat) (ia xa : Nat) (fa za : Nat → Nat) (un na fi : Int32)  : Met l yX11_forgetActs wsX11_forgetActs ({ frames := 0, cells := 0, slots := 0, locals := 0 }) (pM D cI cZ cT [.ref nx] (wNW nx ra pa ta da ia xa fa za un na fi)) (qM D none (wNW nx ra pa ta da ia xa fa za (nI 0) na fi) (adr (wNW nx ra pa ta da ia xa fa za un na fi))) 0 0 (adr (wNW nx ra pa ta da ia xa fa za un na fi)) := by
  refine Met.ofW (cc := cX11_forgetActs) (maxL := 1) (ret := none) (by decide) rfl ?_
  intro p e s m args below meth c s₁ B hml hv
  obtain ⟨rfl, hP, hD0, hK⟩ := hv
  have hx := B.exec
  have hb := B.bytes
  have hr := B.returns
  have hts := atoms_spec (ws := wsX11_forgetActs) B.pre
  have hown : s.vm.findClass RX11 = some m.cls := findClass_of_methodNamed B.named
  have hlocks := B.notSynchronized
  have hD := hD0.toAdr
  have hS : va_S (adr (wNW nx ra pa ta da ia xa fa za un na fi)) s.heap s.heap [] := va_S.rf
  generalize adr (wNW nx ra pa ta da ia xa fa za un na fi) = A at hD hS ⊢
  have hl := lv_entry ([.ref nx]) (n := 1) (Nat.le_of_ble_eq_true rfl)
  rw [lg_entry_eq]
  generalize (lg_sl ([.ref nx]) ++ List.replicate (1 - (lg_sl ([.ref nx])).length) Slot.unset).toArray = ls at hl ⊢
  have hl : lv_has ls 1 [(0, .ref nx)] := hl
  refine lv_aload_n hx hb dX11_forgetActs_0 rfl (lv_at hl 0 rfl) ?_
  refine lv_iconst (v := (nI 0)) hx hb dX11_forgetActs_1 (by decide) ?_
  refine b_put (C := RX11) (T := TX11) (N := 11) hx hb hts u_X11_forgetActs_X11 tyX11 tyX11_ok nmX11 hown hK hP hD hS 0 rfl rfl 6 (by decide) (hts (.fieldLink RX11 40 "NoticeWeek" "undoable" "I") (List.mem_of_getElem? (i := 1) rfl)) rfl (by decide +kernel) (Nat.le_of_ble_eq_true rfl) dX11_forgetActs_2 (fun H locs hP hS => ?_)
  have hP : va_P D vwCl (wNW nx ra pa ta da ia xa fa za (nI 0) na fi) H := hP
  have hD : va_D A (wNW nx ra pa ta da ia xa fa za (nI 0) na fi) := hD.sameA [nx] rfl rfl
  exact b_vretM hx hb hr hP hS dX11_forgetActs_5 hlocks
theorem u_X11_status_X11 : ∀ w ∈ wsX110, w ∈ wsX11_status := fun _ h => List.mem_cons_of_mem _ (List.mem_append_right _ h)
set_option maxHeartbeats 4000000 in
set_option maxRecDepth 100000 in
theorem c_X11_status (l : Launch) (D : va_G) (cI cZ cT : ClassId) (nx : Nat) (ra pa ta da : Nat → Nat) (ia xa : Nat) (fa za : Nat → Nat) (un na fi : Int32)  : Met l yX11_status wsX11_status ({ frames := 0, cells := 0, slots := 0, locals := 0 }) (pR D cI cZ cT [.ref nx] (wNW nx ra pa ta da ia xa fa za un na fi)) (QcRead fi) 0 0 (fun _ => False) := by
  refine Met.ofW (cc := cX11_status) (maxL := 1) (ret := (some .int)) (by decide) rfl ?_
  intro p e s m args below meth c s₁ B hml hv
  obtain ⟨rfl, hP, hK⟩ := hv
  have hx := B.exec
  have hb := B.bytes
  have hr := B.returns
  have hts := atoms_spec (ws := wsX11_status) B.pre
  have hown : s.vm.findClass RX11 = some m.cls := findClass_of_methodNamed B.named
  have hlocks := B.notSynchronized
  have hl := lv_entry ([.ref nx]) (n := 1) (Nat.le_of_ble_eq_true rfl)
  rw [lg_entry_eq]
  generalize (lg_sl ([.ref nx]) ++ List.replicate (1 - (lg_sl ([.ref nx])).length) Slot.unset).toArray = ls at hl ⊢
  have hl : lv_has ls 1 [(0, .ref nx)] := hl
  refine lv_aload_n hx hb dX11_status_0 rfl (lv_at hl 0 rfl) ?_
  refine va_get (D := D) (ci := 10) (v := .int fi) (C := RX11) (T := TX11) (N := 11) hx hb hts u_X11_status_X11 hown hK.1 hP 0 rfl rfl 10 (by decide) (hts (.fieldLink RX11 61 "NoticeWeek" "finding" "I") (List.mem_of_getElem? (i := 1) rfl)) (fun _ h9 => h9) rfl dX11_status_1 ?_
  exact b_ret hx hb hr (by first | with_reducible rfl | (simp only [bI, not_true_eq_false, not_false_eq_true, ite_true, ite_false, if_true, if_false, and_self, and_true, true_and, false_and, and_false, or_true, true_or, or_false, false_or]; done) | (simp [bI]; done) | omega) dX11_status_4 hlocks
theorem u_X11_lackOf_X11 : ∀ w ∈ wsX110, w ∈ wsX11_lackOf := fun _ h => List.mem_cons_of_mem _ (List.mem_append_left _ (List.mem_append_right _ h))
set_option maxHeartbeats 4000000 in
set_option maxRecDepth 100000 in
theorem c_X11_lackOf (l : Launch) (D : va_G) (cI cZ cT : ClassId) (nx : Nat) (ra pa ta da : Nat → Nat) (ia xa : Nat) (fa za : Nat → Nat) (un na fi : Int32) (it la sz : Nat → Int32) (r : Nat) (i x : Int32) (hr_ : r ≤ 7) : Met l yX11_lackOf wsX11_lackOf ({ frames := 1, cells := 0, slots := 0, locals := 23 }) (pR D cI cZ cT [.ref nx, .int (nI (r)), .int i, .int x] (wNW nx ra pa ta da ia xa fa za un na fi ++ wRows cI ra it la sz)) (QcRead (lkF la sz r i x)) 0 0 (fun _ => False) := by
  refine Met.ofW (cc := cX11_lackOf) (maxL := 4) (ret := (some .int)) (by decide) rfl ?_
  intro p e s m args below meth c s₁ B hml hv
  obtain ⟨rfl, hP, hK⟩ := hv
  have hx := B.exec
  have hb := B.bytes
  have hr := B.returns
  have hts := atoms_spec (ws := wsX11_lackOf) B.pre
  have hown : s.vm.findClass RX11 = some m.cls := findClass_of_methodNamed B.named
  have hlocks := B.notSynchronized
  have hl := lv_entry ([.ref nx, .int (nI (r)), .int i, .int x]) (n := 4) (Nat.le_of_ble_eq_true rfl)
  rw [lg_entry_eq]
  generalize (lg_sl ([.ref nx, .int (nI (r)), .int i, .int x]) ++ List.replicate (4 - (lg_sl ([.ref nx, .int (nI (r)), .int i, .int x])).length) Slot.unset).toArray = ls at hl ⊢
  have hl : lv_has ls 4 [(0, .ref nx), (1, .int (nI (r))), (2, .int i), (3, .int x)] := hl
  refine lv_aload_n hx hb dX11_lackOf_0 rfl (lv_at hl 0 rfl) ?_
  refine va_get (D := D) (ci := 10) (v := .ref (ra 0)) (C := RX11) (T := TX11) (N := 11) hx hb hts u_X11_lackOf_X11 hown hK.1 hP 0 rfl rfl 0 (by decide) (hts (.fieldLink RX11 12 "NoticeWeek" "rows" "LNoticeWeek$Rows;") (List.mem_of_getElem? (i := 1) rfl)) (fun _ h9 => h9) rfl dX11_lackOf_1 ?_
  refine lv_iload_n hx hb dX11_lackOf_4 rfl (lv_at hl 1 rfl) ?_
  refine b_call (va_runV (As := [.int (nI (r))]) (rest := []) ⟨hx, hb, hml, hown, hts⟩ (c_X4_isMissing l D cI cZ cT ra it la sz r hr_) (cwV 1 hts gX11_lackOf_X4_isMissing rfl rfl rfl (by decide +kernel) ⟨(Nat.le_of_ble_eq_true rfl), (Nat.le_of_ble_eq_true rfl)⟩) (b_pV hK hP [1, 2, 3, 4] rfl 1 rfl rfl) rfl rfl hl.1 rfl (lv_room (Nat.le_of_ble_eq_true rfl)) dX11_lackOf_5 ⟨Nat.zero_le _, Nat.zero_le _⟩).run ?_
  refine b_ifeq (tgt := 13) hx hb dX11_lackOf_8 (by decide) (fun c1 => ?_) (fun c1 => ?_)
  · refine lv_aload_n hx hb dX11_lackOf_13 rfl (lv_at hl 0 rfl) ?_
    refine va_get (D := D) (ci := 10) (v := .ref (ra 0)) (C := RX11) (T := TX11) (N := 11) hx hb hts u_X11_lackOf_X11 hown hK.1 hP 0 rfl rfl 0 (by decide) (hts (.fieldLink RX11 12 "NoticeWeek" "rows" "LNoticeWeek$Rows;") (List.mem_of_getElem? (i := 1) rfl)) (fun _ h9 => h9) rfl dX11_lackOf_14 ?_
    refine lv_iload_n hx hb dX11_lackOf_17 rfl (lv_at hl 1 rfl) ?_
    refine lv_iload_n hx hb dX11_lackOf_18 rfl (lv_at hl 2 rfl) ?_
    refine lv_iload_n hx hb dX11_lackOf_19 rfl (lv_at hl 3 rfl) ?_
    refine b_call (va_runV (As := [.int (nI (r)), .int i, .int x]) (rest := []) ⟨hx, hb, hml, hown, hts⟩ (c_X4_hasPlaces l D cI cZ cT ra it la sz r i x hr_) (cwV 3 hts gX11_lackOf_X4_hasPlaces rfl rfl rfl (by decide +kernel) ⟨(Nat.le_of_ble_eq_true rfl), (Nat.le_of_ble_eq_true rfl)⟩) (b_pV hK hP [1, 2, 3, 4] rfl 1 rfl rfl) rfl rfl hl.1 rfl (lv_room (Nat.le_of_ble_eq_true rfl)) dX11_lackOf_20 ⟨Nat.zero_le _, Nat.zero_le _⟩).run ?_
    refine b_ifeq (tgt := 30) hx hb dX11_lackOf_23 (by decide) (fun c2 => ?_) (fun c2 => ?_)
    · refine lv_iconst (v := 2) hx hb dX11_lackOf_30 (by decide) ?_
      exact b_ret hx hb hr (by first | (simp only [lkF, eq_false c1, eq_false c2, bI, not_true_eq_false, not_false_eq_true, ite_true, ite_false, if_true, if_false, and_self, and_true, true_and, false_and, and_false, or_true, true_or, or_false, false_or, eq_self]; done) | (simp [lkF, eq_false c1, eq_false c2, bI]; done)) dX11_lackOf_31 hlocks
    · refine lv_iconst (v := 0) hx hb dX11_lackOf_26 (by decide) ?_
      refine lv_goto (tgt := 31) hx hb dX11_lackOf_27 (by decide) ?_
      exact b_ret hx hb hr (by first | (simp only [lkF, eq_false c1, eq_true c2, bI, not_true_eq_false, not_false_eq_true, ite_true, ite_false, if_true, if_false, and_self, and_true, true_and, false_and, and_false, or_true, true_or, or_false, false_or, eq_self]; done) | (simp [lkF, eq_false c1, eq_true c2, bI]; done)) dX11_lackOf_31 hlocks
  · refine lv_iconst (v := 1) hx hb dX11_lackOf_11 (by decide) ?_
    exact b_ret hx hb hr (by first | (simp only [lkF, eq_true c1, bI, not_true_eq_false, not_false_eq_true, ite_true, ite_false, if_true, if_false, and_self, and_true, true_and, false_and, and_false, or_true, true_or, or_false, false_or, eq_self]; done) | (simp [lkF, eq_true c1, bI]; done)) dX11_lackOf_12 hlocks
theorem u_X11_row_X11 : ∀ w ∈ wsX110, w ∈ wsX11_row := fun _ h => List.mem_cons_of_mem _ (List.mem_append_left _ (List.mem_append_right _ h))
set_option maxHeartbeats 4000000 in
set_option maxRecDepth 100000 in
theorem c_X11_row (l : Launch) (D : va_G) (cI cZ cT : ClassId) (nx : Nat) (ra pa ta da : Nat → Nat) (ia xa : Nat) (fa za : Nat → Nat) (un na fi : Int32) (it la sz : Nat → Int32) (row lane x : Int32)  : Met l yX11_row wsX11_row ({ frames := 1, cells := 0, slots := 0, locals := 24 }) (pM D cI cZ cT [.ref nx, .int row, .int lane, .int x] (wNW nx ra pa ta da ia xa fa za un na fi ++ wRows cI ra it la sz)) (qM D (some (.int ((x_row fi la sz it row lane x).1))) (wNW nx ra pa ta da ia xa fa za un na ((x_row fi la sz it row lane x).2.1) ++ wRows cI ra ((x_row fi la sz it row lane x).2.2.2.2) ((x_row fi la sz it row lane x).2.2.1) ((x_row fi la sz it row lane x).2.2.2.1)) (adr (wNW nx ra pa ta da ia xa fa za un na fi ++ wRows cI ra it la sz))) 0 0 (adr (wNW nx ra pa ta da ia xa fa za un na fi ++ wRows cI ra it la sz)) := by
  refine Met.ofW (cc := cX11_row) (maxL := 4) (ret := (some .int)) (by decide) rfl ?_
  intro p e s m args below meth c s₁ B hml hv
  obtain ⟨rfl, hP, hD0, hK⟩ := hv
  have hx := B.exec
  have hb := B.bytes
  have hr := B.returns
  have hts := atoms_spec (ws := wsX11_row) B.pre
  have hown : s.vm.findClass RX11 = some m.cls := findClass_of_methodNamed B.named
  have hlocks := B.notSynchronized
  have hD := hD0.toAdr
  have hS : va_S (adr (wNW nx ra pa ta da ia xa fa za un na fi ++ wRows cI ra it la sz)) s.heap s.heap [] := va_S.rf
  generalize adr (wNW nx ra pa ta da ia xa fa za un na fi ++ wRows cI ra it la sz) = A at hD hS ⊢
  have hl := lv_entry ([.ref nx, .int row, .int lane, .int x]) (n := 4) (Nat.le_of_ble_eq_true rfl)
  rw [lg_entry_eq]
  generalize (lg_sl ([.ref nx, .int row, .int lane, .int x]) ++ List.replicate (4 - (lg_sl ([.ref nx, .int row, .int lane, .int x])).length) Slot.unset).toArray = ls at hl ⊢
  have hl : lv_has ls 4 [(0, .ref nx), (1, .int row), (2, .int lane), (3, .int x)] := hl
  refine lv_iload_n hx hb dX11_row_0 rfl (lv_at hl 1 rfl) ?_
  refine b_call (va_runS (As := [.int row]) (rest := []) ⟨hx, hb, hml, hown, hts⟩ (c_X4_isRow l D cI cZ cT row) (va_cwS 1 hts gX11_row_X4_isRow rfl rfl rfl (by decide +kernel) ⟨(Nat.le_of_ble_eq_true rfl), (Nat.le_of_ble_eq_true rfl)⟩) (b_pS0 hK) rfl rfl hl.1 rfl (lv_room (Nat.le_of_ble_eq_true rfl)) dX11_row_1 ⟨Nat.zero_le _, Nat.zero_le _⟩).run ?_
  refine b_ifeq (tgt := 20) hx hb dX11_row_4 (by decide) (fun c1 => ?_) (fun c1 => ?_)
  · refine lv_ldc (v := (-1000001)) hx hb hown (hts (.constant RX11 71 (-1000001)) (List.mem_of_getElem? (i := 1) rfl)) dX11_row_20 ?_
    have E : x_row fi la sz it row lane x = ((-1000001), fi, la, sz, it) := (by first | (simp only [x_row, eq_false c1, bI, not_true_eq_false, not_false_eq_true, ite_true, ite_false, if_true, if_false, and_self, and_true, true_and, false_and, and_false, or_true, true_or, or_false, false_or, eq_self]; done) | (simp [x_row, eq_false c1, bI]; done))
    rw [E]
    exact b_retM hx hb hr hP hS rfl dX11_row_22 hlocks
  · refine lv_iload_n hx hb dX11_row_7 rfl (lv_at hl 2 rfl) ?_
    refine b_call (va_runS (As := [.int lane]) (rest := []) ⟨hx, hb, hml, hown, hts⟩ (c_X4_isLane l D cI cZ cT lane) (va_cwS 1 hts gX11_row_X4_isLane rfl rfl rfl (by decide +kernel) ⟨(Nat.le_of_ble_eq_true rfl), (Nat.le_of_ble_eq_true rfl)⟩) (b_pS0 hK) rfl rfl hl.1 rfl (lv_room (Nat.le_of_ble_eq_true rfl)) dX11_row_8 ⟨Nat.zero_le _, Nat.zero_le _⟩).run ?_
    refine b_ifeq (tgt := 20) hx hb dX11_row_11 (by decide) (fun c2 => ?_) (fun c2 => ?_)
    · refine lv_ldc (v := (-1000001)) hx hb hown (hts (.constant RX11 71 (-1000001)) (List.mem_of_getElem? (i := 1) rfl)) dX11_row_20 ?_
      have E : x_row fi la sz it row lane x = ((-1000001), fi, la, sz, it) := (by first | (simp only [x_row, eq_true c1, eq_false c2, bI, not_true_eq_false, not_false_eq_true, ite_true, ite_false, if_true, if_false, and_self, and_true, true_and, false_and, and_false, or_true, true_or, or_false, false_or, eq_self]; done) | (simp [x_row, eq_true c1, eq_false c2, bI]; done))
      rw [E]
      exact b_retM hx hb hr hP hS rfl dX11_row_22 hlocks
    · refine lv_iload_n hx hb dX11_row_14 rfl (lv_at hl 3 rfl) ?_
      refine lv_bipush (v := 40) hx hb dX11_row_15 (by decide) ?_
      refine lv_icmp_le (tgt := 23) hx hb dX11_row_17 (by decide) (fun c3 => ?_) (fun c3 => ?_)
      · refine lv_iload_n hx hb dX11_row_23 rfl (lv_at hl 3 rfl) ?_
        refine lv_if_ge (tgt := 33) hx hb dX11_row_24 (by decide) (fun c4 => ?_) (fun c4 => ?_)
        · obtain ⟨r, hh_r, rfl⟩ : ∃ r : Nat, r ≤ 7 ∧ row = nI r := i_ltC 7 (by omega) c1.1 c1.2 rfl
          have hl : lv_has ls 4 [(0, .ref nx), (1, .int (nI (r))), (2, .int lane), (3, .int x)] := hl
          have ht_r : tn (nI r) = r := tn_nI hh_r
          obtain ⟨xv, hh_xv, rfl⟩ : ∃ r : Nat, r ≤ 40 ∧ x = nI r := nI_of2 (n := 40) rfl (i_0le c4) c3
          have hl : lv_has ls 4 [(0, .ref nx), (1, .int (nI (r))), (2, .int lane), (3, .int (nI (xv)))] := hl
          have htx : tn (nI xv) = xv := tn_nI hh_xv
          refine lv_aload_n hx hb dX11_row_33 rfl (lv_at hl 0 rfl) ?_
          refine va_get (D := D) (ci := 10) (v := .ref (ra 0)) (C := RX11) (T := TX11) (N := 11) hx hb hts u_X11_row_X11 hown hK.1 hP 0 rfl rfl 0 (by decide) (hts (.fieldLink RX11 12 "NoticeWeek" "rows" "LNoticeWeek$Rows;") (List.mem_of_getElem? (i := 2) rfl)) (fun _ h9 => h9) rfl dX11_row_34 ?_
          refine lv_iload_n hx hb dX11_row_37 rfl (lv_at hl 1 rfl) ?_
          refine lv_iload_n hx hb dX11_row_38 rfl (lv_at hl 2 rfl) ?_
          refine lv_iload_n hx hb dX11_row_39 rfl (lv_at hl 3 rfl) ?_
          refine b_callM [1, 2, 3, 4] (va_runV (As := [.int (nI (r)), .int lane, .int (nI (xv))]) (rest := []) ⟨hx, hb, hml, hown, hts⟩ (c_X4_make l D cI cZ cT ra it la sz r lane xv (by omega) (by omega)) (cwV 3 hts gX11_row_X4_make rfl rfl rfl (by decide +kernel) ⟨(Nat.le_of_ble_eq_true rfl), (Nat.le_of_ble_eq_true rfl)⟩) (b_pVM hK hP hD [1, 2, 3, 4] (by decide) rfl rfl 1 rfl rfl) rfl rfl hl.1 rfl (lv_room (Nat.le_of_ble_eq_true rfl)) dX11_row_40 ⟨Nat.zero_le _, Nat.zero_le _⟩).run hP hD hS rfl (Nat.le_of_ble_eq_true rfl) (fun H locs hP hS => ?_)
          have hP : va_P D vwCl (wNW nx ra pa ta da ia xa fa za un na fi ++ wRows cI ra (itr (fun j f => upd f (r * 40 + j) 0) xv it) (upd la r lane) (upd sz r (nI xv))) H := hP
          have hD : va_D A (wNW nx ra pa ta da ia xa fa za un na fi ++ wRows cI ra (itr (fun j f => upd f (r * 40 + j) 0) xv it) (upd la r lane) (upd sz r (nI xv))) := hD.sameA [nx, (ra 0), (ra 1), (ra 2), (ra 3)] rfl rfl
          refine lv_aload_n hx hb dX11_row_43 rfl (lv_at hl 0 rfl) ?_
          refine lv_iload_n hx hb dX11_row_44 rfl (lv_at hl 3 rfl) ?_
          refine b_callM [0] (va_runV (As := [.int (nI (xv))]) (rest := []) ⟨hx, hb, hml, hown, hts⟩ (c_X11_well l D cI cZ cT nx ra pa ta da ia xa fa za un na fi (nI (xv))) (cwV 1 hts gX11_row_X11_well rfl rfl rfl (by decide +kernel) ⟨(Nat.le_of_ble_eq_true rfl), (Nat.le_of_ble_eq_true rfl)⟩) (b_pVM hK hP hD [0] (by decide) rfl rfl 0 rfl rfl) rfl rfl hl.1 rfl (lv_room (Nat.le_of_ble_eq_true rfl)) dX11_row_45 ⟨Nat.zero_le _, Nat.zero_le _⟩).run hP hD hS rfl (Nat.le_of_ble_eq_true rfl) (fun H locs hP hS => ?_)
          have hP : va_P D vwCl (wNW nx ra pa ta da ia xa fa za un na 0 ++ wRows cI ra (itr (fun j f => upd f (r * 40 + j) 0) xv it) (upd la r lane) (upd sz r (nI xv))) H := hP
          have hD : va_D A (wNW nx ra pa ta da ia xa fa za un na 0 ++ wRows cI ra (itr (fun j f => upd f (r * 40 + j) 0) xv it) (upd la r lane) (upd sz r (nI xv))) := hD.sameA [nx, (ra 0), (ra 1), (ra 2), (ra 3)] rfl rfl
          have E : x_row fi la sz it (nI r) lane (nI xv) = ((nI (xv)), 0, (upd la r lane), (upd sz r (nI xv)), (itr (fun j f => upd f (r * 40 + j) 0) xv it)) := (by first | (simp only [x_row, eq_true c1, eq_true c2, eq_true c3, eq_true c4, ht_r, htx, bI, not_true_eq_false, not_false_eq_true, ite_true, ite_false, if_true, if_false, and_self, and_true, true_and, false_and, and_false, or_true, true_or, or_false, false_or, eq_self]; done) | (simp [x_row, eq_true c1, eq_true c2, eq_true c3, eq_true c4, ht_r, htx, bI]; done))
          rw [E]
          exact b_retM hx hb hr hP hS rfl dX11_row_48 hlocks
        · refine lv_aload_n hx hb dX11_row_27 rfl (lv_at hl 0 rfl) ?_
          refine lv_iconst (v := 4) hx hb dX11_row_28 (by decide) ?_
          refine b_callM [0] (va_runV (As := [.int 4]) (rest := []) ⟨hx, hb, hml, hown, hts⟩ (c_X11_found l D cI cZ cT nx ra pa ta da ia xa fa za un na fi 4) (cwV 1 hts gX11_row_X11_found rfl rfl rfl (by decide +kernel) ⟨(Nat.le_of_ble_eq_true rfl), (Nat.le_of_ble_eq_true rfl)⟩) (b_pVM hK hP hD [0] (by decide) rfl rfl 0 rfl rfl) rfl rfl hl.1 rfl (lv_room (Nat.le_of_ble_eq_true rfl)) dX11_row_29 ⟨Nat.zero_le _, Nat.zero_le _⟩).run hP hD hS rfl (Nat.le_of_ble_eq_true rfl) (fun H locs hP hS => ?_)
          have hP : va_P D vwCl (wNW nx ra pa ta da ia xa fa za un na 4 ++ wRows cI ra it la sz) H := hP
          have hD : va_D A (wNW nx ra pa ta da ia xa fa za un na 4 ++ wRows cI ra it la sz) := hD.sameA [nx, (ra 0), (ra 1), (ra 2), (ra 3)] rfl rfl
          have E : x_row fi la sz it row lane x = ((-1000010) - 4, 4, la, sz, it) := (by first | (simp only [x_row, eq_true c1, eq_true c2, eq_true c3, eq_false c4, bI, not_true_eq_false, not_false_eq_true, ite_true, ite_false, if_true, if_false, and_self, and_true, true_and, false_and, and_false, or_true, true_or, or_false, false_or, eq_self]; done) | (simp [x_row, eq_true c1, eq_true c2, eq_true c3, eq_false c4, bI]; done))
          rw [E]
          exact b_retM hx hb hr hP hS rfl dX11_row_32 hlocks
      · refine lv_ldc (v := (-1000001)) hx hb hown (hts (.constant RX11 71 (-1000001)) (List.mem_of_getElem? (i := 1) rfl)) dX11_row_20 ?_
        have E : x_row fi la sz it row lane x = ((-1000001), fi, la, sz, it) := (by first | (simp only [x_row, eq_true c1, eq_true c2, eq_false c3, bI, not_true_eq_false, not_false_eq_true, ite_true, ite_false, if_true, if_false, and_self, and_true, true_and, false_and, and_false, or_true, true_or, or_false, false_or, eq_self]; done) | (simp [x_row, eq_true c1, eq_true c2, eq_false c3, bI]; done))
        rw [E]
        exact b_retM hx hb hr hP hS rfl dX11_row_22 hlocks
theorem u_X11_set_X11 : ∀ w ∈ wsX110, w ∈ wsX11_set := fun _ h => List.mem_cons_of_mem _ (List.mem_append_left _ (List.mem_append_right _ h))
set_option maxHeartbeats 4000000 in
set_option maxRecDepth 100000 in
theorem c_X11_set (l : Launch) (D : va_G) (cI cZ cT : ClassId) (nx : Nat) (ra pa ta da : Nat → Nat) (ia xa : Nat) (fa za : Nat → Nat) (un na fi : Int32) (it la sz : Nat → Int32) (row i v : Int32) (hM : ∀ r, r ≤ 7 → ∃ n, n ≤ 40 ∧ sz r = nI n) : Met l yX11_set wsX11_set ({ frames := 2, cells := 0, slots := 0, locals := 46 }) (pM D cI cZ cT [.ref nx, .int row, .int i, .int v] (wNW nx ra pa ta da ia xa fa za un na fi ++ wRows cI ra it la sz)) (qM D (some (.int ((x_set fi la sz it row i v).1))) (wNW nx ra pa ta da ia xa fa za un na ((x_set fi la sz it row i v).2.1) ++ wRows cI ra ((x_set fi la sz it row i v).2.2) la sz) (adr (wNW nx ra pa ta da ia xa fa za un na fi ++ wRows cI ra it la sz))) 0 0 (adr (wNW nx ra pa ta da ia xa fa za un na fi ++ wRows cI ra it la sz)) := by
  refine Met.ofW (cc := cX11_set) (maxL := 5) (ret := (some .int)) (by decide) rfl ?_
  intro p e s m args below meth c s₁ B hml hv
  obtain ⟨rfl, hP, hD0, hK⟩ := hv
  have hx := B.exec
  have hb := B.bytes
  have hr := B.returns
  have hts := atoms_spec (ws := wsX11_set) B.pre
  have hown : s.vm.findClass RX11 = some m.cls := findClass_of_methodNamed B.named
  have hlocks := B.notSynchronized
  have hD := hD0.toAdr
  have hS : va_S (adr (wNW nx ra pa ta da ia xa fa za un na fi ++ wRows cI ra it la sz)) s.heap s.heap [] := va_S.rf
  generalize adr (wNW nx ra pa ta da ia xa fa za un na fi ++ wRows cI ra it la sz) = A at hD hS ⊢
  have hl := lv_entry ([.ref nx, .int row, .int i, .int v]) (n := 5) (Nat.le_of_ble_eq_true rfl)
  rw [lg_entry_eq]
  generalize (lg_sl ([.ref nx, .int row, .int i, .int v]) ++ List.replicate (5 - (lg_sl ([.ref nx, .int row, .int i, .int v])).length) Slot.unset).toArray = ls at hl ⊢
  have hl : lv_has ls 5 [(0, .ref nx), (1, .int row), (2, .int i), (3, .int v)] := hl
  refine lv_iload_n hx hb dX11_set_0 rfl (lv_at hl 1 rfl) ?_
  refine b_call (va_runS (As := [.int row]) (rest := []) ⟨hx, hb, hml, hown, hts⟩ (c_X4_isRow l D cI cZ cT row) (va_cwS 1 hts gX11_set_X4_isRow rfl rfl rfl (by decide +kernel) ⟨(Nat.le_of_ble_eq_true rfl), (Nat.le_of_ble_eq_true rfl)⟩) (b_pS0 hK) rfl rfl hl.1 rfl (lv_room (Nat.le_of_ble_eq_true rfl)) dX11_set_1 ⟨Nat.zero_le _, Nat.zero_le _⟩).run ?_
  refine b_ifne (tgt := 10) hx hb dX11_set_4 (by decide) (fun c1 => ?_) (fun c1 => ?_)
  · obtain ⟨r, hh_r, rfl⟩ : ∃ r : Nat, r ≤ 7 ∧ row = nI r := i_ltC 7 (by omega) c1.1 c1.2 rfl
    have hl : lv_has ls 5 [(0, .ref nx), (1, .int (nI (r))), (2, .int i), (3, .int v)] := hl
    have ht_r : tn (nI r) = r := tn_nI hh_r
    refine lv_aload_n hx hb dX11_set_10 rfl (lv_at hl 0 rfl) ?_
    refine lv_iload_n hx hb dX11_set_11 rfl (lv_at hl 1 rfl) ?_
    refine lv_iload_n hx hb dX11_set_12 rfl (lv_at hl 2 rfl) ?_
    refine lv_iconst (v := 1) hx hb dX11_set_13 (by decide) ?_
    refine b_call (va_runV (As := [.int (nI (r)), .int i, .int 1]) (rest := []) ⟨hx, hb, hml, hown, hts⟩ (c_X11_lackOf l D cI cZ cT nx ra pa ta da ia xa fa za un na fi it la sz r i 1 (by omega)) (cwV 3 hts gX11_set_X11_lackOf rfl rfl rfl (by decide +kernel) ⟨(Nat.le_of_ble_eq_true rfl), (Nat.le_of_ble_eq_true rfl)⟩) (b_pV hK hP [0, 1, 2, 3, 4] rfl 0 rfl rfl) rfl rfl hl.1 rfl (lv_room (Nat.le_of_ble_eq_true rfl)) dX11_set_14 ⟨Nat.zero_le _, Nat.zero_le _⟩).run ?_
    refine lv_topi (fun x2 ex2 => ?_)
    refine lv_istore (lv' := [(4, .int x2), (0, .ref nx), (1, .int (nI (r))), (2, .int i), (3, .int v)]) hx hb dX11_set_17 hl (by decide) rfl (fun ls hl => ?_)
    subst ex2
    have hl : lv_has ls 5 [(4, .int (lkF la sz r i 1)), (0, .ref nx), (1, .int (nI (r))), (2, .int i), (3, .int v)] := hl
    refine lv_iload hx hb dX11_set_19 (lv_at hl 0 rfl) ?_
    refine lv_if_eq (tgt := 31) hx hb dX11_set_21 (by decide) (fun c3 => ?_) (fun c3 => ?_)
    · obtain ⟨nr, hnr, hmr⟩ := hM r hh_r
      have hc9 := lk_0 c3
      rw [hmr] at hc9
      obtain ⟨iv, hh_iv, rfl⟩ : ∃ r : Nat, r ≤ 39 ∧ i = nI r := i_below hnr hc9.2.1 hc9.2.2.2.2
      have hl : lv_has ls 5 [(4, .int (lkF la sz r (nI iv) 1)), (0, .ref nx), (1, .int (nI (r))), (2, .int (nI (iv))), (3, .int v)] := hl
      have hti : tn (nI iv) = iv := tn_nI hh_iv
      refine lv_aload_n hx hb dX11_set_31 rfl (lv_at hl 1 rfl) ?_
      refine lv_aload_n hx hb dX11_set_32 rfl (lv_at hl 1 rfl) ?_
      refine va_get (D := D) (ci := 10) (v := .ref (ra 0)) (C := RX11) (T := TX11) (N := 11) hx hb hts u_X11_set_X11 hown hK.1 hP 0 rfl rfl 0 (by decide) (hts (.fieldLink RX11 12 "NoticeWeek" "rows" "LNoticeWeek$Rows;") (List.mem_of_getElem? (i := 2) rfl)) (fun _ h9 => h9) rfl dX11_set_33 ?_
      refine lv_iload_n hx hb dX11_set_36 rfl (lv_at hl 2 rfl) ?_
      refine lv_iload_n hx hb dX11_set_37 rfl (lv_at hl 3 rfl) ?_
      refine lv_iload_n hx hb dX11_set_38 rfl (lv_at hl 4 rfl) ?_
      refine b_callM [1, 2, 3, 4] (va_runV (As := [.int (nI (r)), .int (nI (iv)), .int v]) (rest := [.ref nx]) ⟨hx, hb, hml, hown, hts⟩ (c_X4_put l D cI cZ cT ra it la sz r iv v (by omega) (by omega)) (cwV 3 hts gX11_set_X4_put rfl rfl rfl (by decide +kernel) ⟨(Nat.le_of_ble_eq_true rfl), (Nat.le_of_ble_eq_true rfl)⟩) (b_pVM hK hP hD [1, 2, 3, 4] (by decide) rfl rfl 1 rfl rfl) rfl rfl hl.1 rfl (lv_room (Nat.le_of_ble_eq_true rfl)) dX11_set_39 ⟨Nat.zero_le _, Nat.zero_le _⟩).run hP hD hS rfl (Nat.le_of_ble_eq_true rfl) (fun H locs hP hS => ?_)
      have hP : va_P D vwCl (wNW nx ra pa ta da ia xa fa za un na fi ++ wRows cI ra (upd it (r * 40 + iv) (keptf (la r) v)) la sz) H := hP
      have hD : va_D A (wNW nx ra pa ta da ia xa fa za un na fi ++ wRows cI ra (upd it (r * 40 + iv) (keptf (la r) v)) la sz) := hD.sameA [nx, (ra 0), (ra 1), (ra 2), (ra 3)] rfl rfl
      refine b_callM [0] (va_runV (As := [.int (keptf (la r) v)]) (rest := []) ⟨hx, hb, hml, hown, hts⟩ (c_X11_well l D cI cZ cT nx ra pa ta da ia xa fa za un na fi (keptf (la r) v)) (cwV 1 hts gX11_set_X11_well rfl rfl rfl (by decide +kernel) ⟨(Nat.le_of_ble_eq_true rfl), (Nat.le_of_ble_eq_true rfl)⟩) (b_pVM hK hP hD [0] (by decide) rfl rfl 0 rfl rfl) rfl rfl hl.1 rfl (lv_room (Nat.le_of_ble_eq_true rfl)) dX11_set_42 ⟨Nat.zero_le _, Nat.zero_le _⟩).run hP hD hS rfl (Nat.le_of_ble_eq_true rfl) (fun H locs hP hS => ?_)
      have hP : va_P D vwCl (wNW nx ra pa ta da ia xa fa za un na 0 ++ wRows cI ra (upd it (r * 40 + iv) (keptf (la r) v)) la sz) H := hP
      have hD : va_D A (wNW nx ra pa ta da ia xa fa za un na 0 ++ wRows cI ra (upd it (r * 40 + iv) (keptf (la r) v)) la sz) := hD.sameA [nx, (ra 0), (ra 1), (ra 2), (ra 3)] rfl rfl
      have E : x_set fi la sz it (nI r) (nI iv) v = ((keptf (la r) v), 0, (upd it (r * 40 + iv) (keptf (la r) v))) := (by first | (simp only [x_set, eq_true c1, eq_true c3, ht_r, hti, bI, not_true_eq_false, not_false_eq_true, ite_true, ite_false, if_true, if_false, and_self, and_true, true_and, false_and, and_false, or_true, true_or, or_false, false_or, eq_self]; done) | (simp [x_set, eq_true c1, eq_true c3, ht_r, hti, bI]; done))
      rw [E]
      exact b_retM hx hb hr hP hS rfl dX11_set_45 hlocks
    · refine lv_aload_n hx hb dX11_set_24 rfl (lv_at hl 1 rfl) ?_
      refine lv_iload hx hb dX11_set_25 (lv_at hl 0 rfl) ?_
      refine b_callM [0] (va_runV (As := [.int (lkF la sz r i 1)]) (rest := []) ⟨hx, hb, hml, hown, hts⟩ (c_X11_found l D cI cZ cT nx ra pa ta da ia xa fa za un na fi (lkF la sz r i 1)) (cwV 1 hts gX11_set_X11_found rfl rfl rfl (by decide +kernel) ⟨(Nat.le_of_ble_eq_true rfl), (Nat.le_of_ble_eq_true rfl)⟩) (b_pVM hK hP hD [0] (by decide) rfl rfl 0 rfl rfl) rfl rfl hl.1 rfl (lv_room (Nat.le_of_ble_eq_true rfl)) dX11_set_27 ⟨Nat.zero_le _, Nat.zero_le _⟩).run hP hD hS rfl (Nat.le_of_ble_eq_true rfl) (fun H locs hP hS => ?_)
      have hP : va_P D vwCl (wNW nx ra pa ta da ia xa fa za un na (lkF la sz r i 1) ++ wRows cI ra it la sz) H := hP
      have hD : va_D A (wNW nx ra pa ta da ia xa fa za un na (lkF la sz r i 1) ++ wRows cI ra it la sz) := hD.sameA [nx, (ra 0), (ra 1), (ra 2), (ra 3)] rfl rfl
      have E : x_set fi la sz it (nI r) i v = ((-1000010) - (lkF la sz r i 1), (lkF la sz r i 1), it) := (by first | (simp only [x_set, eq_true c1, eq_false c3, ht_r, bI, not_true_eq_false, not_false_eq_true, ite_true, ite_false, if_true, if_false, and_self, and_true, true_and, false_and, and_false, or_true, true_or, or_false, false_or, eq_self]; done) | (simp [x_set, eq_true c1, eq_false c3, ht_r, bI]; done))
      rw [E]
      exact b_retM hx hb hr hP hS rfl dX11_set_30 hlocks
  · refine lv_ldc (v := (-1000001)) hx hb hown (hts (.constant RX11 71 (-1000001)) (List.mem_of_getElem? (i := 1) rfl)) dX11_set_7 ?_
    have E : x_set fi la sz it row i v = ((-1000001), fi, it) := (by first | (simp only [x_set, eq_false c1, bI, not_true_eq_false, not_false_eq_true, ite_true, ite_false, if_true, if_false, and_self, and_true, true_and, false_and, and_false, or_true, true_or, or_false, false_or, eq_self]; done) | (simp [x_set, eq_false c1, bI]; done))
    rw [E]
    exact b_retM hx hb hr hP hS rfl dX11_set_9 hlocks
theorem u_X11_copy_X11 : ∀ w ∈ wsX110, w ∈ wsX11_copy := fun _ h => List.mem_cons_of_mem _ (List.mem_append_left _ (List.mem_append_right _ h))
set_option maxHeartbeats 4000000 in
set_option maxRecDepth 100000 in
theorem c_X11_copy (l : Launch) (D : va_G) (cI cZ cT : ClassId) (nx : Nat) (ra pa ta da : Nat → Nat) (ia xa : Nat) (fa za : Nat → Nat) (un na fi : Int32) (it la sz : Nat → Int32) (a i b j x : Int32) (hM : ∀ r, r ≤ 7 → ∃ n, n ≤ 40 ∧ sz r = nI n) : Met l yX11_copy wsX11_copy ({ frames := 2, cells := 0, slots := 0, locals := 65 }) (pM D cI cZ cT [.ref nx, .int a, .int i, .int b, .int j, .int x] (wNW nx ra pa ta da ia xa fa za un na fi ++ wRows cI ra it la sz)) (qM D (some (.int ((x_copy fi la sz it a i b j x).1))) (wNW nx ra pa ta da ia xa fa za un na ((x_copy fi la sz it a i b j x).2.1) ++ wRows cI ra ((x_copy fi la sz it a i b j x).2.2) la sz) (adr (wNW nx ra pa ta da ia xa fa za un na fi ++ wRows cI ra it la sz))) 0 0 (adr (wNW nx ra pa ta da ia xa fa za un na fi ++ wRows cI ra it la sz)) := by
  refine Met.ofW (cc := cX11_copy) (maxL := 6) (ret := (some .int)) (by decide) rfl ?_
  intro p e s m args below meth c s₁ B hml hv
  obtain ⟨rfl, hP, hD0, hK⟩ := hv
  have hx := B.exec
  have hb := B.bytes
  have hr := B.returns
  have hts := atoms_spec (ws := wsX11_copy) B.pre
  have hown : s.vm.findClass RX11 = some m.cls := findClass_of_methodNamed B.named
  have hlocks := B.notSynchronized
  have hD := hD0.toAdr
  have hS : va_S (adr (wNW nx ra pa ta da ia xa fa za un na fi ++ wRows cI ra it la sz)) s.heap s.heap [] := va_S.rf
  generalize adr (wNW nx ra pa ta da ia xa fa za un na fi ++ wRows cI ra it la sz) = A at hD hS ⊢
  have hl := lv_entry ([.ref nx, .int a, .int i, .int b, .int j, .int x]) (n := 6) (Nat.le_of_ble_eq_true rfl)
  rw [lg_entry_eq]
  generalize (lg_sl ([.ref nx, .int a, .int i, .int b, .int j, .int x]) ++ List.replicate (6 - (lg_sl ([.ref nx, .int a, .int i, .int b, .int j, .int x])).length) Slot.unset).toArray = ls at hl ⊢
  have hl : lv_has ls 6 [(0, .ref nx), (1, .int a), (2, .int i), (3, .int b), (4, .int j), (5, .int x)] := hl
  refine lv_iload_n hx hb dX11_copy_0 rfl (lv_at hl 1 rfl) ?_
  refine b_call (va_runS (As := [.int a]) (rest := []) ⟨hx, hb, hml, hown, hts⟩ (c_X4_isRow l D cI cZ cT a) (va_cwS 1 hts gX11_copy_X4_isRow rfl rfl rfl (by decide +kernel) ⟨(Nat.le_of_ble_eq_true rfl), (Nat.le_of_ble_eq_true rfl)⟩) (b_pS0 hK) rfl rfl hl.1 rfl (lv_room (Nat.le_of_ble_eq_true rfl)) dX11_copy_1 ⟨Nat.zero_le _, Nat.zero_le _⟩).run ?_
  refine b_ifeq (tgt := 14) hx hb dX11_copy_4 (by decide) (fun c1 => ?_) (fun c1 => ?_)
  · refine lv_ldc (v := (-1000001)) hx hb hown (hts (.constant RX11 71 (-1000001)) (List.mem_of_getElem? (i := 1) rfl)) dX11_copy_14 ?_
    have E : x_copy fi la sz it a i b j x = ((-1000001), fi, it) := (by first | (simp only [x_copy, eq_false c1, bI, not_true_eq_false, not_false_eq_true, ite_true, ite_false, if_true, if_false, and_self, and_true, true_and, false_and, and_false, or_true, true_or, or_false, false_or, eq_self]; done) | (simp [x_copy, eq_false c1, bI]; done))
    rw [E]
    exact b_retM hx hb hr hP hS rfl dX11_copy_16 hlocks
  · refine lv_iload_n hx hb dX11_copy_7 rfl (lv_at hl 3 rfl) ?_
    refine b_call (va_runS (As := [.int b]) (rest := []) ⟨hx, hb, hml, hown, hts⟩ (c_X4_isRow l D cI cZ cT b) (va_cwS 1 hts gX11_copy_X4_isRow rfl rfl rfl (by decide +kernel) ⟨(Nat.le_of_ble_eq_true rfl), (Nat.le_of_ble_eq_true rfl)⟩) (b_pS0 hK) rfl rfl hl.1 rfl (lv_room (Nat.le_of_ble_eq_true rfl)) dX11_copy_8 ⟨Nat.zero_le _, Nat.zero_le _⟩).run ?_
    refine b_ifne (tgt := 17) hx hb dX11_copy_11 (by decide) (fun c2 => ?_) (fun c2 => ?_)
    · obtain ⟨av, hh_av, rfl⟩ : ∃ r : Nat, r ≤ 7 ∧ a = nI r := i_ltC 7 (by omega) c1.1 c1.2 rfl
      have hl : lv_has ls 6 [(0, .ref nx), (1, .int (nI (av))), (2, .int i), (3, .int b), (4, .int j), (5, .int x)] := hl
      have ht_av : tn (nI av) = av := tn_nI hh_av
      obtain ⟨bv, hh_bv, rfl⟩ : ∃ r : Nat, r ≤ 7 ∧ b = nI r := i_ltC 7 (by omega) c2.1 c2.2 rfl
      have hl : lv_has ls 6 [(0, .ref nx), (1, .int (nI (av))), (2, .int i), (3, .int (nI (bv))), (4, .int j), (5, .int x)] := hl
      have ht_bv : tn (nI bv) = bv := tn_nI hh_bv
      refine lv_aload_n hx hb dX11_copy_17 rfl (lv_at hl 0 rfl) ?_
      refine va_get (D := D) (ci := 10) (v := .ref (ra 0)) (C := RX11) (T := TX11) (N := 11) hx hb hts u_X11_copy_X11 hown hK.1 hP 0 rfl rfl 0 (by decide) (hts (.fieldLink RX11 12 "NoticeWeek" "rows" "LNoticeWeek$Rows;") (List.mem_of_getElem? (i := 2) rfl)) (fun _ h9 => h9) rfl dX11_copy_18 ?_
      refine lv_iload_n hx hb dX11_copy_21 rfl (lv_at hl 1 rfl) ?_
      refine b_call (va_runV (As := [.int (nI (av))]) (rest := []) ⟨hx, hb, hml, hown, hts⟩ (c_X4_isMissing l D cI cZ cT ra it la sz av (by omega)) (cwV 1 hts gX11_copy_X4_isMissing rfl rfl rfl (by decide +kernel) ⟨(Nat.le_of_ble_eq_true rfl), (Nat.le_of_ble_eq_true rfl)⟩) (b_pV hK hP [1, 2, 3, 4] rfl 1 rfl rfl) rfl rfl hl.1 rfl (lv_room (Nat.le_of_ble_eq_true rfl)) dX11_copy_22 ⟨Nat.zero_le _, Nat.zero_le _⟩).run ?_
      refine b_ifne (tgt := 39) hx hb dX11_copy_25 (by decide) (fun c3 => ?_) (fun c3 => ?_)
      · refine lv_aload_n hx hb dX11_copy_39 rfl (lv_at hl 0 rfl) ?_
        refine lv_iconst (v := 1) hx hb dX11_copy_40 (by decide) ?_
        refine b_callM [0] (va_runV (As := [.int 1]) (rest := []) ⟨hx, hb, hml, hown, hts⟩ (c_X11_found l D cI cZ cT nx ra pa ta da ia xa fa za un na fi 1) (cwV 1 hts gX11_copy_X11_found rfl rfl rfl (by decide +kernel) ⟨(Nat.le_of_ble_eq_true rfl), (Nat.le_of_ble_eq_true rfl)⟩) (b_pVM hK hP hD [0] (by decide) rfl rfl 0 rfl rfl) rfl rfl hl.1 rfl (lv_room (Nat.le_of_ble_eq_true rfl)) dX11_copy_41 ⟨Nat.zero_le _, Nat.zero_le _⟩).run hP hD hS rfl (Nat.le_of_ble_eq_true rfl) (fun H locs hP hS => ?_)
        have hP : va_P D vwCl (wNW nx ra pa ta da ia xa fa za un na 1 ++ wRows cI ra it la sz) H := hP
        have hD : va_D A (wNW nx ra pa ta da ia xa fa za un na 1 ++ wRows cI ra it la sz) := hD.sameA [nx, (ra 0), (ra 1), (ra 2), (ra 3)] rfl rfl
        have E : x_copy fi la sz it (nI av) i (nI bv) j x = ((-1000010) - 1, 1, it) := (by first | (simp only [x_copy, eq_true c1, eq_true c2, eq_true c3, ht_av, ht_bv, bI, not_true_eq_false, not_false_eq_true, ite_true, ite_false, if_true, if_false, and_self, and_true, true_and, false_and, and_false, or_true, true_or, or_false, false_or, eq_self]; done) | (simp [x_copy, eq_true c1, eq_true c2, eq_true c3, ht_av, ht_bv, bI]; done))
        rw [E]
        exact b_retM hx hb hr hP hS rfl dX11_copy_44 hlocks
      · refine lv_aload_n hx hb dX11_copy_28 rfl (lv_at hl 0 rfl) ?_
        refine va_get (D := D) (ci := 10) (v := .ref (ra 0)) (C := RX11) (T := TX11) (N := 11) hx hb hts u_X11_copy_X11 hown hK.1 hP 0 rfl rfl 0 (by decide) (hts (.fieldLink RX11 12 "NoticeWeek" "rows" "LNoticeWeek$Rows;") (List.mem_of_getElem? (i := 2) rfl)) (fun _ h9 => h9) rfl dX11_copy_29 ?_
        refine lv_iload_n hx hb dX11_copy_32 rfl (lv_at hl 3 rfl) ?_
        refine b_call (va_runV (As := [.int (nI (bv))]) (rest := []) ⟨hx, hb, hml, hown, hts⟩ (c_X4_isMissing l D cI cZ cT ra it la sz bv (by omega)) (cwV 1 hts gX11_copy_X4_isMissing rfl rfl rfl (by decide +kernel) ⟨(Nat.le_of_ble_eq_true rfl), (Nat.le_of_ble_eq_true rfl)⟩) (b_pV hK hP [1, 2, 3, 4] rfl 1 rfl rfl) rfl rfl hl.1 rfl (lv_room (Nat.le_of_ble_eq_true rfl)) dX11_copy_33 ⟨Nat.zero_le _, Nat.zero_le _⟩).run ?_
        refine b_ifeq (tgt := 45) hx hb dX11_copy_36 (by decide) (fun c4 => ?_) (fun c4 => ?_)
        · refine lv_aload_n hx hb dX11_copy_45 rfl (lv_at hl 0 rfl) ?_
          refine va_get (D := D) (ci := 10) (v := .ref (ra 0)) (C := RX11) (T := TX11) (N := 11) hx hb hts u_X11_copy_X11 hown hK.1 hP 0 rfl rfl 0 (by decide) (hts (.fieldLink RX11 12 "NoticeWeek" "rows" "LNoticeWeek$Rows;") (List.mem_of_getElem? (i := 2) rfl)) (fun _ h9 => h9) rfl dX11_copy_46 ?_
          refine lv_iload_n hx hb dX11_copy_49 rfl (lv_at hl 1 rfl) ?_
          refine b_call (va_runV (As := [.int (nI (av))]) (rest := []) ⟨hx, hb, hml, hown, hts⟩ (c_X4_laneOf l D cI cZ cT ra it la sz av (by omega)) (cwV 1 hts gX11_copy_X4_laneOf rfl rfl rfl (by decide +kernel) ⟨(Nat.le_of_ble_eq_true rfl), (Nat.le_of_ble_eq_true rfl)⟩) (b_pV hK hP [1, 2, 3, 4] rfl 1 rfl rfl) rfl rfl hl.1 rfl (lv_room (Nat.le_of_ble_eq_true rfl)) dX11_copy_50 ⟨Nat.zero_le _, Nat.zero_le _⟩).run ?_
          refine lv_aload_n hx hb dX11_copy_53 rfl (lv_at hl 0 rfl) ?_
          refine va_get (D := D) (ci := 10) (v := .ref (ra 0)) (C := RX11) (T := TX11) (N := 11) hx hb hts u_X11_copy_X11 hown hK.1 hP 0 rfl rfl 0 (by decide) (hts (.fieldLink RX11 12 "NoticeWeek" "rows" "LNoticeWeek$Rows;") (List.mem_of_getElem? (i := 2) rfl)) (fun _ h9 => h9) rfl dX11_copy_54 ?_
          refine lv_iload_n hx hb dX11_copy_57 rfl (lv_at hl 3 rfl) ?_
          refine b_call (va_runV (As := [.int (nI (bv))]) (rest := [.int (la av)]) ⟨hx, hb, hml, hown, hts⟩ (c_X4_laneOf l D cI cZ cT ra it la sz bv (by omega)) (cwV 1 hts gX11_copy_X4_laneOf rfl rfl rfl (by decide +kernel) ⟨(Nat.le_of_ble_eq_true rfl), (Nat.le_of_ble_eq_true rfl)⟩) (b_pV hK hP [1, 2, 3, 4] rfl 1 rfl rfl) rfl rfl hl.1 rfl (lv_room (Nat.le_of_ble_eq_true rfl)) dX11_copy_58 ⟨Nat.zero_le _, Nat.zero_le _⟩).run ?_
          refine lv_icmp_eq (tgt := 70) hx hb dX11_copy_61 (by decide) (fun c5 => ?_) (fun c5 => ?_)
          · refine lv_aload_n hx hb dX11_copy_70 rfl (lv_at hl 0 rfl) ?_
            refine va_get (D := D) (ci := 10) (v := .ref (ra 0)) (C := RX11) (T := TX11) (N := 11) hx hb hts u_X11_copy_X11 hown hK.1 hP 0 rfl rfl 0 (by decide) (hts (.fieldLink RX11 12 "NoticeWeek" "rows" "LNoticeWeek$Rows;") (List.mem_of_getElem? (i := 2) rfl)) (fun _ h9 => h9) rfl dX11_copy_71 ?_
            refine lv_iload_n hx hb dX11_copy_74 rfl (lv_at hl 1 rfl) ?_
            refine lv_iload_n hx hb dX11_copy_75 rfl (lv_at hl 2 rfl) ?_
            refine lv_iload hx hb dX11_copy_76 (lv_at hl 5 rfl) ?_
            refine b_call (va_runV (As := [.int (nI (av)), .int i, .int x]) (rest := []) ⟨hx, hb, hml, hown, hts⟩ (c_X4_hasPlaces l D cI cZ cT ra it la sz av i x (by omega)) (cwV 3 hts gX11_copy_X4_hasPlaces rfl rfl rfl (by decide +kernel) ⟨(Nat.le_of_ble_eq_true rfl), (Nat.le_of_ble_eq_true rfl)⟩) (b_pV hK hP [1, 2, 3, 4] rfl 1 rfl rfl) rfl rfl hl.1 rfl (lv_room (Nat.le_of_ble_eq_true rfl)) dX11_copy_78 ⟨Nat.zero_le _, Nat.zero_le _⟩).run ?_
            refine b_ifeq (tgt := 99) hx hb dX11_copy_81 (by decide) (fun c6 => ?_) (fun c6 => ?_)
            · refine lv_aload_n hx hb dX11_copy_99 rfl (lv_at hl 0 rfl) ?_
              refine lv_iconst (v := 2) hx hb dX11_copy_100 (by decide) ?_
              refine b_callM [0] (va_runV (As := [.int 2]) (rest := []) ⟨hx, hb, hml, hown, hts⟩ (c_X11_found l D cI cZ cT nx ra pa ta da ia xa fa za un na fi 2) (cwV 1 hts gX11_copy_X11_found rfl rfl rfl (by decide +kernel) ⟨(Nat.le_of_ble_eq_true rfl), (Nat.le_of_ble_eq_true rfl)⟩) (b_pVM hK hP hD [0] (by decide) rfl rfl 0 rfl rfl) rfl rfl hl.1 rfl (lv_room (Nat.le_of_ble_eq_true rfl)) dX11_copy_101 ⟨Nat.zero_le _, Nat.zero_le _⟩).run hP hD hS rfl (Nat.le_of_ble_eq_true rfl) (fun H locs hP hS => ?_)
              have hP : va_P D vwCl (wNW nx ra pa ta da ia xa fa za un na 2 ++ wRows cI ra it la sz) H := hP
              have hD : va_D A (wNW nx ra pa ta da ia xa fa za un na 2 ++ wRows cI ra it la sz) := hD.sameA [nx, (ra 0), (ra 1), (ra 2), (ra 3)] rfl rfl
              have E : x_copy fi la sz it (nI av) i (nI bv) j x = ((-1000010) - 2, 2, it) := (by first | (simp only [x_copy, eq_true c1, eq_true c2, eq_false c3, eq_false c4, eq_true c5, eq_false c6, ht_av, ht_bv, bI, not_true_eq_false, not_false_eq_true, ite_true, ite_false, if_true, if_false, and_self, and_true, true_and, false_and, and_false, or_true, true_or, or_false, false_or, eq_self]; done) | (simp [x_copy, eq_true c1, eq_true c2, eq_false c3, eq_false c4, eq_true c5, eq_false c6, ht_av, ht_bv, bI]; done))
              rw [E]
              exact b_retM hx hb hr hP hS rfl dX11_copy_104 hlocks
            · refine lv_aload_n hx hb dX11_copy_84 rfl (lv_at hl 0 rfl) ?_
              refine va_get (D := D) (ci := 10) (v := .ref (ra 0)) (C := RX11) (T := TX11) (N := 11) hx hb hts u_X11_copy_X11 hown hK.1 hP 0 rfl rfl 0 (by decide) (hts (.fieldLink RX11 12 "NoticeWeek" "rows" "LNoticeWeek$Rows;") (List.mem_of_getElem? (i := 2) rfl)) (fun _ h9 => h9) rfl dX11_copy_85 ?_
              refine lv_iload_n hx hb dX11_copy_88 rfl (lv_at hl 3 rfl) ?_
              refine lv_iload hx hb dX11_copy_89 (lv_at hl 4 rfl) ?_
              refine lv_iload hx hb dX11_copy_91 (lv_at hl 5 rfl) ?_
              refine b_call (va_runV (As := [.int (nI (bv)), .int j, .int x]) (rest := []) ⟨hx, hb, hml, hown, hts⟩ (c_X4_hasPlaces l D cI cZ cT ra it la sz bv j x (by omega)) (cwV 3 hts gX11_copy_X4_hasPlaces rfl rfl rfl (by decide +kernel) ⟨(Nat.le_of_ble_eq_true rfl), (Nat.le_of_ble_eq_true rfl)⟩) (b_pV hK hP [1, 2, 3, 4] rfl 1 rfl rfl) rfl rfl hl.1 rfl (lv_room (Nat.le_of_ble_eq_true rfl)) dX11_copy_93 ⟨Nat.zero_le _, Nat.zero_le _⟩).run ?_
              refine b_ifne (tgt := 105) hx hb dX11_copy_96 (by decide) (fun c7 => ?_) (fun c7 => ?_)
              · obtain ⟨na_, hna, hma⟩ := hM av hh_av
                obtain ⟨nb_, hnb, hmb⟩ := hM bv hh_bv
                have hq1 := c6
                have hq2 := c7
                rw [hma] at hq1
                rw [hmb] at hq2
                obtain ⟨iv, nv, hin, rfl, rfl⟩ := i_place hna hq1
                obtain ⟨jv, nv2, hjn, rfl, hn2⟩ := i_place hnb hq2
                have hn2 : nv = nv2 := (nI_eq (by omega) (by omega)).mp hn2
                subst hn2
                have hl : lv_has ls 6 [(0, .ref nx), (1, .int (nI (av))), (2, .int (nI (iv))), (3, .int (nI (bv))), (4, .int (nI (jv))), (5, .int (nI (nv)))] := hl
                have htiv : tn (nI iv) = iv := tn_nI (show iv ≤ 40 by omega)
                have htnv : tn (nI nv) = nv := tn_nI (show nv ≤ 40 by omega)
                have htjv : tn (nI jv) = jv := tn_nI (show jv ≤ 40 by omega)
                refine lv_aload_n hx hb dX11_copy_105 rfl (lv_at hl 0 rfl) ?_
                refine va_get (D := D) (ci := 10) (v := .ref (ra 0)) (C := RX11) (T := TX11) (N := 11) hx hb hts u_X11_copy_X11 hown hK.1 hP 0 rfl rfl 0 (by decide) (hts (.fieldLink RX11 12 "NoticeWeek" "rows" "LNoticeWeek$Rows;") (List.mem_of_getElem? (i := 2) rfl)) (fun _ h9 => h9) rfl dX11_copy_106 ?_
                refine lv_iload_n hx hb dX11_copy_109 rfl (lv_at hl 1 rfl) ?_
                refine lv_iload_n hx hb dX11_copy_110 rfl (lv_at hl 2 rfl) ?_
                refine lv_iload_n hx hb dX11_copy_111 rfl (lv_at hl 3 rfl) ?_
                refine lv_iload hx hb dX11_copy_112 (lv_at hl 4 rfl) ?_
                refine lv_iload hx hb dX11_copy_114 (lv_at hl 5 rfl) ?_
                refine b_callM [1, 2, 3, 4] (va_runV (As := [.int (nI (av)), .int (nI (iv)), .int (nI (bv)), .int (nI (jv)), .int (nI (nv))]) (rest := []) ⟨hx, hb, hml, hown, hts⟩ (c_X4_move l D cI cZ cT ra it la sz av iv bv jv nv (by omega) (by omega) (by omega) (by omega)) (cwV 5 hts gX11_copy_X4_move rfl rfl rfl (by decide +kernel) ⟨(Nat.le_of_ble_eq_true rfl), (Nat.le_of_ble_eq_true rfl)⟩) (b_pVM hK hP hD [1, 2, 3, 4] (by decide) rfl rfl 1 rfl rfl) rfl rfl hl.1 rfl (lv_room (Nat.le_of_ble_eq_true rfl)) dX11_copy_116 ⟨Nat.zero_le _, Nat.zero_le _⟩).run hP hD hS rfl (Nat.le_of_ble_eq_true rfl) (fun H locs hP hS => ?_)
                have hP : va_P D vwCl (wNW nx ra pa ta da ia xa fa za un na fi ++ wRows cI ra (va_cpy it it (av * 40 + iv) (bv * 40 + jv) nv) la sz) H := hP
                have hD : va_D A (wNW nx ra pa ta da ia xa fa za un na fi ++ wRows cI ra (va_cpy it it (av * 40 + iv) (bv * 40 + jv) nv) la sz) := hD.sameA [nx, (ra 0), (ra 1), (ra 2), (ra 3)] rfl rfl
                refine lv_aload_n hx hb dX11_copy_119 rfl (lv_at hl 0 rfl) ?_
                refine lv_iload hx hb dX11_copy_120 (lv_at hl 5 rfl) ?_
                refine b_callM [0] (va_runV (As := [.int (nI (nv))]) (rest := []) ⟨hx, hb, hml, hown, hts⟩ (c_X11_well l D cI cZ cT nx ra pa ta da ia xa fa za un na fi (nI (nv))) (cwV 1 hts gX11_copy_X11_well rfl rfl rfl (by decide +kernel) ⟨(Nat.le_of_ble_eq_true rfl), (Nat.le_of_ble_eq_true rfl)⟩) (b_pVM hK hP hD [0] (by decide) rfl rfl 0 rfl rfl) rfl rfl hl.1 rfl (lv_room (Nat.le_of_ble_eq_true rfl)) dX11_copy_122 ⟨Nat.zero_le _, Nat.zero_le _⟩).run hP hD hS rfl (Nat.le_of_ble_eq_true rfl) (fun H locs hP hS => ?_)
                have hP : va_P D vwCl (wNW nx ra pa ta da ia xa fa za un na 0 ++ wRows cI ra (va_cpy it it (av * 40 + iv) (bv * 40 + jv) nv) la sz) H := hP
                have hD : va_D A (wNW nx ra pa ta da ia xa fa za un na 0 ++ wRows cI ra (va_cpy it it (av * 40 + iv) (bv * 40 + jv) nv) la sz) := hD.sameA [nx, (ra 0), (ra 1), (ra 2), (ra 3)] rfl rfl
                have E : x_copy fi la sz it (nI av) (nI iv) (nI bv) (nI jv) (nI nv) = ((nI (nv)), 0, (va_cpy it it (av * 40 + iv) (bv * 40 + jv) nv)) := (by first | (simp only [x_copy, eq_true c1, eq_true c2, eq_false c3, eq_false c4, eq_true c5, eq_true c6, eq_true c7, ht_av, ht_bv, htiv, htjv, htnv, bI, not_true_eq_false, not_false_eq_true, ite_true, ite_false, if_true, if_false, and_self, and_true, true_and, false_and, and_false, or_true, true_or, or_false, false_or, eq_self]; done) | (simp [x_copy, eq_true c1, eq_true c2, eq_false c3, eq_false c4, eq_true c5, eq_true c6, eq_true c7, ht_av, ht_bv, htiv, htjv, htnv, bI]; done))
                rw [E]
                exact b_retM hx hb hr hP hS rfl dX11_copy_125 hlocks
              · refine lv_aload_n hx hb dX11_copy_99 rfl (lv_at hl 0 rfl) ?_
                refine lv_iconst (v := 2) hx hb dX11_copy_100 (by decide) ?_
                refine b_callM [0] (va_runV (As := [.int 2]) (rest := []) ⟨hx, hb, hml, hown, hts⟩ (c_X11_found l D cI cZ cT nx ra pa ta da ia xa fa za un na fi 2) (cwV 1 hts gX11_copy_X11_found rfl rfl rfl (by decide +kernel) ⟨(Nat.le_of_ble_eq_true rfl), (Nat.le_of_ble_eq_true rfl)⟩) (b_pVM hK hP hD [0] (by decide) rfl rfl 0 rfl rfl) rfl rfl hl.1 rfl (lv_room (Nat.le_of_ble_eq_true rfl)) dX11_copy_101 ⟨Nat.zero_le _, Nat.zero_le _⟩).run hP hD hS rfl (Nat.le_of_ble_eq_true rfl) (fun H locs hP hS => ?_)
                have hP : va_P D vwCl (wNW nx ra pa ta da ia xa fa za un na 2 ++ wRows cI ra it la sz) H := hP
                have hD : va_D A (wNW nx ra pa ta da ia xa fa za un na 2 ++ wRows cI ra it la sz) := hD.sameA [nx, (ra 0), (ra 1), (ra 2), (ra 3)] rfl rfl
                have E : x_copy fi la sz it (nI av) i (nI bv) j x = ((-1000010) - 2, 2, it) := (by first | (simp only [x_copy, eq_true c1, eq_true c2, eq_false c3, eq_false c4, eq_true c5, eq_true c6, eq_false c7, ht_av, ht_bv, bI, not_true_eq_false, not_false_eq_true, ite_true, ite_false, if_true, if_false, and_self, and_true, true_and, false_and, and_false, or_true, true_or, or_false, false_or, eq_self]; done) | (simp [x_copy, eq_true c1, eq_true c2, eq_false c3, eq_false c4, eq_true c5, eq_true c6, eq_false c7, ht_av, ht_bv, bI]; done))
                rw [E]
                exact b_retM hx hb hr hP hS rfl dX11_copy_104 hlocks
          · refine lv_aload_n hx hb dX11_copy_64 rfl (lv_at hl 0 rfl) ?_
            refine lv_iconst (v := 5) hx hb dX11_copy_65 (by decide) ?_
            refine b_callM [0] (va_runV (As := [.int 5]) (rest := []) ⟨hx, hb, hml, hown, hts⟩ (c_X11_found l D cI cZ cT nx ra pa ta da ia xa fa za un na fi 5) (cwV 1 hts gX11_copy_X11_found rfl rfl rfl (by decide +kernel) ⟨(Nat.le_of_ble_eq_true rfl), (Nat.le_of_ble_eq_true rfl)⟩) (b_pVM hK hP hD [0] (by decide) rfl rfl 0 rfl rfl) rfl rfl hl.1 rfl (lv_room (Nat.le_of_ble_eq_true rfl)) dX11_copy_66 ⟨Nat.zero_le _, Nat.zero_le _⟩).run hP hD hS rfl (Nat.le_of_ble_eq_true rfl) (fun H locs hP hS => ?_)
            have hP : va_P D vwCl (wNW nx ra pa ta da ia xa fa za un na 5 ++ wRows cI ra it la sz) H := hP
            have hD : va_D A (wNW nx ra pa ta da ia xa fa za un na 5 ++ wRows cI ra it la sz) := hD.sameA [nx, (ra 0), (ra 1), (ra 2), (ra 3)] rfl rfl
            have E : x_copy fi la sz it (nI av) i (nI bv) j x = ((-1000010) - 5, 5, it) := (by first | (simp only [x_copy, eq_true c1, eq_true c2, eq_false c3, eq_false c4, eq_false c5, ht_av, ht_bv, bI, not_true_eq_false, not_false_eq_true, ite_true, ite_false, if_true, if_false, and_self, and_true, true_and, false_and, and_false, or_true, true_or, or_false, false_or, eq_self]; done) | (simp [x_copy, eq_true c1, eq_true c2, eq_false c3, eq_false c4, eq_false c5, ht_av, ht_bv, bI]; done))
            rw [E]
            exact b_retM hx hb hr hP hS rfl dX11_copy_69 hlocks
        · refine lv_aload_n hx hb dX11_copy_39 rfl (lv_at hl 0 rfl) ?_
          refine lv_iconst (v := 1) hx hb dX11_copy_40 (by decide) ?_
          refine b_callM [0] (va_runV (As := [.int 1]) (rest := []) ⟨hx, hb, hml, hown, hts⟩ (c_X11_found l D cI cZ cT nx ra pa ta da ia xa fa za un na fi 1) (cwV 1 hts gX11_copy_X11_found rfl rfl rfl (by decide +kernel) ⟨(Nat.le_of_ble_eq_true rfl), (Nat.le_of_ble_eq_true rfl)⟩) (b_pVM hK hP hD [0] (by decide) rfl rfl 0 rfl rfl) rfl rfl hl.1 rfl (lv_room (Nat.le_of_ble_eq_true rfl)) dX11_copy_41 ⟨Nat.zero_le _, Nat.zero_le _⟩).run hP hD hS rfl (Nat.le_of_ble_eq_true rfl) (fun H locs hP hS => ?_)
          have hP : va_P D vwCl (wNW nx ra pa ta da ia xa fa za un na 1 ++ wRows cI ra it la sz) H := hP
          have hD : va_D A (wNW nx ra pa ta da ia xa fa za un na 1 ++ wRows cI ra it la sz) := hD.sameA [nx, (ra 0), (ra 1), (ra 2), (ra 3)] rfl rfl
          have E : x_copy fi la sz it (nI av) i (nI bv) j x = ((-1000010) - 1, 1, it) := (by first | (simp only [x_copy, eq_true c1, eq_true c2, eq_false c3, eq_true c4, ht_av, ht_bv, bI, not_true_eq_false, not_false_eq_true, ite_true, ite_false, if_true, if_false, and_self, and_true, true_and, false_and, and_false, or_true, true_or, or_false, false_or, eq_self]; done) | (simp [x_copy, eq_true c1, eq_true c2, eq_false c3, eq_true c4, ht_av, ht_bv, bI]; done))
          rw [E]
          exact b_retM hx hb hr hP hS rfl dX11_copy_44 hlocks
    · refine lv_ldc (v := (-1000001)) hx hb hown (hts (.constant RX11 71 (-1000001)) (List.mem_of_getElem? (i := 1) rfl)) dX11_copy_14 ?_
      have E : x_copy fi la sz it a i b j x = ((-1000001), fi, it) := (by first | (simp only [x_copy, eq_true c1, eq_false c2, bI, not_true_eq_false, not_false_eq_true, ite_true, ite_false, if_true, if_false, and_self, and_true, true_and, false_and, and_false, or_true, true_or, or_false, false_or, eq_self]; done) | (simp [x_copy, eq_true c1, eq_false c2, bI]; done))
      rw [E]
      exact b_retM hx hb hr hP hS rfl dX11_copy_16 hlocks
theorem u_X11_drop_X11 : ∀ w ∈ wsX110, w ∈ wsX11_drop := fun _ h => List.mem_cons_of_mem _ (List.mem_append_left _ (List.mem_append_right _ h))
set_option maxHeartbeats 4000000 in
set_option maxRecDepth 100000 in
theorem c_X11_drop (l : Launch) (D : va_G) (cI cZ cT : ClassId) (nx : Nat) (ra pa ta da : Nat → Nat) (ia xa : Nat) (fa za : Nat → Nat) (un na fi : Int32) (it la sz : Nat → Int32) (row : Int32)  : Met l yX11_drop wsX11_drop ({ frames := 1, cells := 0, slots := 0, locals := 21 }) (pM D cI cZ cT [.ref nx, .int row] (wNW nx ra pa ta da ia xa fa za un na fi ++ wRows cI ra it la sz)) (qM D (some (.int ((x_drop fi la sz row).1))) (wNW nx ra pa ta da ia xa fa za un na ((x_drop fi la sz row).2.1) ++ wRows cI ra it ((x_drop fi la sz row).2.2.1) ((x_drop fi la sz row).2.2.2)) (adr (wNW nx ra pa ta da ia xa fa za un na fi ++ wRows cI ra it la sz))) 0 0 (adr (wNW nx ra pa ta da ia xa fa za un na fi ++ wRows cI ra it la sz)) := by
  refine Met.ofW (cc := cX11_drop) (maxL := 3) (ret := (some .int)) (by decide) rfl ?_
  intro p e s m args below meth c s₁ B hml hv
  obtain ⟨rfl, hP, hD0, hK⟩ := hv
  have hx := B.exec
  have hb := B.bytes
  have hr := B.returns
  have hts := atoms_spec (ws := wsX11_drop) B.pre
  have hown : s.vm.findClass RX11 = some m.cls := findClass_of_methodNamed B.named
  have hlocks := B.notSynchronized
  have hD := hD0.toAdr
  have hS : va_S (adr (wNW nx ra pa ta da ia xa fa za un na fi ++ wRows cI ra it la sz)) s.heap s.heap [] := va_S.rf
  generalize adr (wNW nx ra pa ta da ia xa fa za un na fi ++ wRows cI ra it la sz) = A at hD hS ⊢
  have hl := lv_entry ([.ref nx, .int row]) (n := 3) (Nat.le_of_ble_eq_true rfl)
  rw [lg_entry_eq]
  generalize (lg_sl ([.ref nx, .int row]) ++ List.replicate (3 - (lg_sl ([.ref nx, .int row])).length) Slot.unset).toArray = ls at hl ⊢
  have hl : lv_has ls 3 [(0, .ref nx), (1, .int row)] := hl
  refine lv_iload_n hx hb dX11_drop_0 rfl (lv_at hl 1 rfl) ?_
  refine b_call (va_runS (As := [.int row]) (rest := []) ⟨hx, hb, hml, hown, hts⟩ (c_X4_isRow l D cI cZ cT row) (va_cwS 1 hts gX11_drop_X4_isRow rfl rfl rfl (by decide +kernel) ⟨(Nat.le_of_ble_eq_true rfl), (Nat.le_of_ble_eq_true rfl)⟩) (b_pS0 hK) rfl rfl hl.1 rfl (lv_room (Nat.le_of_ble_eq_true rfl)) dX11_drop_1 ⟨Nat.zero_le _, Nat.zero_le _⟩).run ?_
  refine b_ifne (tgt := 10) hx hb dX11_drop_4 (by decide) (fun c1 => ?_) (fun c1 => ?_)
  · obtain ⟨r, hh_r, rfl⟩ : ∃ r : Nat, r ≤ 7 ∧ row = nI r := i_ltC 7 (by omega) c1.1 c1.2 rfl
    have hl : lv_has ls 3 [(0, .ref nx), (1, .int (nI (r)))] := hl
    have ht_r : tn (nI r) = r := tn_nI hh_r
    refine lv_aload_n hx hb dX11_drop_10 rfl (lv_at hl 0 rfl) ?_
    refine va_get (D := D) (ci := 10) (v := .ref (ra 0)) (C := RX11) (T := TX11) (N := 11) hx hb hts u_X11_drop_X11 hown hK.1 hP 0 rfl rfl 0 (by decide) (hts (.fieldLink RX11 12 "NoticeWeek" "rows" "LNoticeWeek$Rows;") (List.mem_of_getElem? (i := 2) rfl)) (fun _ h9 => h9) rfl dX11_drop_11 ?_
    refine lv_iload_n hx hb dX11_drop_14 rfl (lv_at hl 1 rfl) ?_
    refine b_call (va_runV (As := [.int (nI (r))]) (rest := []) ⟨hx, hb, hml, hown, hts⟩ (c_X4_isMissing l D cI cZ cT ra it la sz r (by omega)) (cwV 1 hts gX11_drop_X4_isMissing rfl rfl rfl (by decide +kernel) ⟨(Nat.le_of_ble_eq_true rfl), (Nat.le_of_ble_eq_true rfl)⟩) (b_pV hK hP [1, 2, 3, 4] rfl 1 rfl rfl) rfl rfl hl.1 rfl (lv_room (Nat.le_of_ble_eq_true rfl)) dX11_drop_15 ⟨Nat.zero_le _, Nat.zero_le _⟩).run ?_
    refine b_ifeq (tgt := 27) hx hb dX11_drop_18 (by decide) (fun c2 => ?_) (fun c2 => ?_)
    · refine lv_aload_n hx hb dX11_drop_27 rfl (lv_at hl 0 rfl) ?_
      refine va_get (D := D) (ci := 10) (v := .ref (ra 0)) (C := RX11) (T := TX11) (N := 11) hx hb hts u_X11_drop_X11 hown hK.1 hP 0 rfl rfl 0 (by decide) (hts (.fieldLink RX11 12 "NoticeWeek" "rows" "LNoticeWeek$Rows;") (List.mem_of_getElem? (i := 2) rfl)) (fun _ h9 => h9) rfl dX11_drop_28 ?_
      refine lv_iload_n hx hb dX11_drop_31 rfl (lv_at hl 1 rfl) ?_
      refine b_call (va_runV (As := [.int (nI (r))]) (rest := []) ⟨hx, hb, hml, hown, hts⟩ (c_X4_sizeOf l D cI cZ cT ra it la sz r (by omega)) (cwV 1 hts gX11_drop_X4_sizeOf rfl rfl rfl (by decide +kernel) ⟨(Nat.le_of_ble_eq_true rfl), (Nat.le_of_ble_eq_true rfl)⟩) (b_pV hK hP [1, 2, 3, 4] rfl 1 rfl rfl) rfl rfl hl.1 rfl (lv_room (Nat.le_of_ble_eq_true rfl)) dX11_drop_32 ⟨Nat.zero_le _, Nat.zero_le _⟩).run ?_
      refine lv_topi (fun x3 ex3 => ?_)
      refine lv_istore_n (lv' := [(2, .int x3), (0, .ref nx), (1, .int (nI (r)))]) hx hb dX11_drop_35 rfl hl (by decide) rfl (fun ls hl => ?_)
      subst ex3
      have hl : lv_has ls 3 [(2, .int (sz r)), (0, .ref nx), (1, .int (nI (r)))] := hl
      refine lv_aload_n hx hb dX11_drop_36 rfl (lv_at hl 1 rfl) ?_
      refine va_get (D := D) (ci := 10) (v := .ref (ra 0)) (C := RX11) (T := TX11) (N := 11) hx hb hts u_X11_drop_X11 hown hK.1 hP 0 rfl rfl 0 (by decide) (hts (.fieldLink RX11 12 "NoticeWeek" "rows" "LNoticeWeek$Rows;") (List.mem_of_getElem? (i := 2) rfl)) (fun _ h9 => h9) rfl dX11_drop_37 ?_
      refine lv_iload_n hx hb dX11_drop_40 rfl (lv_at hl 2 rfl) ?_
      refine b_callM [1, 2, 3, 4] (va_runV (As := [.int (nI (r))]) (rest := []) ⟨hx, hb, hml, hown, hts⟩ (c_X4_lose l D cI cZ cT ra it la sz r (by omega)) (cwV 1 hts gX11_drop_X4_lose rfl rfl rfl (by decide +kernel) ⟨(Nat.le_of_ble_eq_true rfl), (Nat.le_of_ble_eq_true rfl)⟩) (b_pVM hK hP hD [1, 2, 3, 4] (by decide) rfl rfl 1 rfl rfl) rfl rfl hl.1 rfl (lv_room (Nat.le_of_ble_eq_true rfl)) dX11_drop_41 ⟨Nat.zero_le _, Nat.zero_le _⟩).run hP hD hS rfl (Nat.le_of_ble_eq_true rfl) (fun H locs hP hS => ?_)
      have hP : va_P D vwCl (wNW nx ra pa ta da ia xa fa za un na fi ++ wRows cI ra it (upd la r (-1)) (upd sz r 0)) H := hP
      have hD : va_D A (wNW nx ra pa ta da ia xa fa za un na fi ++ wRows cI ra it (upd la r (-1)) (upd sz r 0)) := hD.sameA [nx, (ra 0), (ra 1), (ra 2), (ra 3)] rfl rfl
      refine lv_aload_n hx hb dX11_drop_44 rfl (lv_at hl 1 rfl) ?_
      refine lv_iload_n hx hb dX11_drop_45 rfl (lv_at hl 0 rfl) ?_
      refine b_callM [0] (va_runV (As := [.int (sz r)]) (rest := []) ⟨hx, hb, hml, hown, hts⟩ (c_X11_well l D cI cZ cT nx ra pa ta da ia xa fa za un na fi (sz r)) (cwV 1 hts gX11_drop_X11_well rfl rfl rfl (by decide +kernel) ⟨(Nat.le_of_ble_eq_true rfl), (Nat.le_of_ble_eq_true rfl)⟩) (b_pVM hK hP hD [0] (by decide) rfl rfl 0 rfl rfl) rfl rfl hl.1 rfl (lv_room (Nat.le_of_ble_eq_true rfl)) dX11_drop_46 ⟨Nat.zero_le _, Nat.zero_le _⟩).run hP hD hS rfl (Nat.le_of_ble_eq_true rfl) (fun H locs hP hS => ?_)
      have hP : va_P D vwCl (wNW nx ra pa ta da ia xa fa za un na 0 ++ wRows cI ra it (upd la r (-1)) (upd sz r 0)) H := hP
      have hD : va_D A (wNW nx ra pa ta da ia xa fa za un na 0 ++ wRows cI ra it (upd la r (-1)) (upd sz r 0)) := hD.sameA [nx, (ra 0), (ra 1), (ra 2), (ra 3)] rfl rfl
      have E : x_drop fi la sz (nI r) = ((sz r), 0, (upd la r (-1)), (upd sz r 0)) := (by first | (simp only [x_drop, eq_true c1, eq_false c2, ht_r, bI, not_true_eq_false, not_false_eq_true, ite_true, ite_false, if_true, if_false, and_self, and_true, true_and, false_and, and_false, or_true, true_or, or_false, false_or, eq_self]; done) | (simp [x_drop, eq_true c1, eq_false c2, ht_r, bI]; done))
      rw [E]
      exact b_retM hx hb hr hP hS rfl dX11_drop_49 hlocks
    · refine lv_aload_n hx hb dX11_drop_21 rfl (lv_at hl 0 rfl) ?_
      refine lv_iconst (v := 1) hx hb dX11_drop_22 (by decide) ?_
      refine b_callM [0] (va_runV (As := [.int 1]) (rest := []) ⟨hx, hb, hml, hown, hts⟩ (c_X11_found l D cI cZ cT nx ra pa ta da ia xa fa za un na fi 1) (cwV 1 hts gX11_drop_X11_found rfl rfl rfl (by decide +kernel) ⟨(Nat.le_of_ble_eq_true rfl), (Nat.le_of_ble_eq_true rfl)⟩) (b_pVM hK hP hD [0] (by decide) rfl rfl 0 rfl rfl) rfl rfl hl.1 rfl (lv_room (Nat.le_of_ble_eq_true rfl)) dX11_drop_23 ⟨Nat.zero_le _, Nat.zero_le _⟩).run hP hD hS rfl (Nat.le_of_ble_eq_true rfl) (fun H locs hP hS => ?_)
      have hP : va_P D vwCl (wNW nx ra pa ta da ia xa fa za un na 1 ++ wRows cI ra it la sz) H := hP
      have hD : va_D A (wNW nx ra pa ta da ia xa fa za un na 1 ++ wRows cI ra it la sz) := hD.sameA [nx, (ra 0), (ra 1), (ra 2), (ra 3)] rfl rfl
      have E : x_drop fi la sz (nI r) = ((-1000010) - 1, 1, la, sz) := (by first | (simp only [x_drop, eq_true c1, eq_true c2, ht_r, bI, not_true_eq_false, not_false_eq_true, ite_true, ite_false, if_true, if_false, and_self, and_true, true_and, false_and, and_false, or_true, true_or, or_false, false_or, eq_self]; done) | (simp [x_drop, eq_true c1, eq_true c2, ht_r, bI]; done))
      rw [E]
      exact b_retM hx hb hr hP hS rfl dX11_drop_26 hlocks
  · refine lv_ldc (v := (-1000001)) hx hb hown (hts (.constant RX11 71 (-1000001)) (List.mem_of_getElem? (i := 1) rfl)) dX11_drop_7 ?_
    have E : x_drop fi la sz row = ((-1000001), fi, la, sz) := (by first | (simp only [x_drop, eq_false c1, bI, not_true_eq_false, not_false_eq_true, ite_true, ite_false, if_true, if_false, and_self, and_true, true_and, false_and, and_false, or_true, true_or, or_false, false_or, eq_self]; done) | (simp [x_drop, eq_false c1, bI]; done))
    rw [E]
    exact b_retM hx hb hr hP hS rfl dX11_drop_9 hlocks
theorem u_X11_feed_X11 : ∀ w ∈ wsX110, w ∈ wsX11_feed := fun _ h => List.mem_cons_of_mem _ (List.mem_append_left _ (List.mem_append_right _ h))
set_option maxHeartbeats 4000000 in
set_option maxRecDepth 100000 in
theorem c_X11_feed (l : Launch) (D : va_G) (cI cZ cT : ClassId) (nx : Nat) (ra pa ta da : Nat → Nat) (ia xa : Nat) (fa za : Nat → Nat) (un na fi : Int32) (t : Nat) (tf tat tw : Int32) (bt : Nat → Int32) (x : Int32) (ht : t ≤ 120) : Met l yX11_feed wsX11_feed ({ frames := 1, cells := 0, slots := 0, locals := 21 }) (pM D cI cZ cT [.ref nx, .int x] (wNW nx ra pa ta da ia xa fa za un na fi ++ wTape cI pa (nI t) tf tat tw bt)) (qM D (some (.int ((x_feed t bt x).1))) (wNW nx ra pa ta da ia xa fa za un na fi ++ wTape cI pa (nI (x_feed t bt x).2.1) tf tat tw ((x_feed t bt x).2.2)) (adr (wNW nx ra pa ta da ia xa fa za un na fi ++ wTape cI pa (nI t) tf tat tw bt))) 0 0 (adr (wNW nx ra pa ta da ia xa fa za un na fi ++ wTape cI pa (nI t) tf tat tw bt)) := by
  refine Met.ofW (cc := cX11_feed) (maxL := 2) (ret := (some .int)) (by decide) rfl ?_
  intro p e s m args below meth c s₁ B hml hv
  obtain ⟨rfl, hP, hD0, hK⟩ := hv
  have hx := B.exec
  have hb := B.bytes
  have hr := B.returns
  have hts := atoms_spec (ws := wsX11_feed) B.pre
  have hown : s.vm.findClass RX11 = some m.cls := findClass_of_methodNamed B.named
  have hlocks := B.notSynchronized
  have hD := hD0.toAdr
  have hS : va_S (adr (wNW nx ra pa ta da ia xa fa za un na fi ++ wTape cI pa (nI t) tf tat tw bt)) s.heap s.heap [] := va_S.rf
  generalize adr (wNW nx ra pa ta da ia xa fa za un na fi ++ wTape cI pa (nI t) tf tat tw bt) = A at hD hS ⊢
  have hl := lv_entry ([.ref nx, .int x]) (n := 2) (Nat.le_of_ble_eq_true rfl)
  rw [lg_entry_eq]
  generalize (lg_sl ([.ref nx, .int x]) ++ List.replicate (2 - (lg_sl ([.ref nx, .int x])).length) Slot.unset).toArray = ls at hl ⊢
  have hl : lv_has ls 2 [(0, .ref nx), (1, .int x)] := hl
  refine lv_iload_n hx hb dX11_feed_0 rfl (lv_at hl 1 rfl) ?_
  refine lv_if_lt (tgt := 11) hx hb dX11_feed_1 (by decide) (fun c1 => ?_) (fun c1 => ?_)
  · refine lv_ldc (v := (-1000001)) hx hb hown (hts (.constant RX11 71 (-1000001)) (List.mem_of_getElem? (i := 1) rfl)) dX11_feed_11 ?_
    have E : x_feed t bt x = ((-1000001), t, bt) := (by first | (simp only [x_feed, eq_true c1, bI, not_true_eq_false, not_false_eq_true, ite_true, ite_false, if_true, if_false, and_self, and_true, true_and, false_and, and_false, or_true, true_or, or_false, false_or, eq_self]; done) | (simp [x_feed, eq_true c1, bI]; done))
    rw [E]
    exact b_retM hx hb hr hP hS rfl dX11_feed_13 hlocks
  · refine lv_iload_n hx hb dX11_feed_4 rfl (lv_at hl 1 rfl) ?_
    refine lv_sipush (v := 255) hx hb dX11_feed_5 (by decide) ?_
    refine lv_icmp_le (tgt := 14) hx hb dX11_feed_8 (by decide) (fun c2 => ?_) (fun c2 => ?_)
    · refine lv_aload_n hx hb dX11_feed_14 rfl (lv_at hl 0 rfl) ?_
      refine va_get (D := D) (ci := 10) (v := .ref (pa 0)) (C := RX11) (T := TX11) (N := 11) hx hb hts u_X11_feed_X11 hown hK.1 hP 0 rfl rfl 1 (by decide) (hts (.fieldLink RX11 19 "NoticeWeek" "tape" "LNoticeWeek$Tape;") (List.mem_of_getElem? (i := 2) rfl)) (fun _ h9 => h9) rfl dX11_feed_15 ?_
      refine b_call (va_runV (As := []) (rest := []) ⟨hx, hb, hml, hown, hts⟩ (c_X6_isFull l D cI cZ cT pa t tf tat tw bt ht) (cwV 0 hts gX11_feed_X6_isFull rfl rfl rfl (by decide +kernel) ⟨(Nat.le_of_ble_eq_true rfl), (Nat.le_of_ble_eq_true rfl)⟩) (b_pV hK hP [1, 2] rfl 1 rfl rfl) rfl rfl hl.1 rfl (lv_room (Nat.le_of_ble_eq_true rfl)) dX11_feed_18 ⟨Nat.zero_le _, Nat.zero_le _⟩).run ?_
      refine b_ifeq (tgt := 27) hx hb dX11_feed_21 (by decide) (fun c3 => ?_) (fun c3 => ?_)
      · refine lv_aload_n hx hb dX11_feed_27 rfl (lv_at hl 0 rfl) ?_
        refine va_get (D := D) (ci := 10) (v := .ref (pa 0)) (C := RX11) (T := TX11) (N := 11) hx hb hts u_X11_feed_X11 hown hK.1 hP 0 rfl rfl 1 (by decide) (hts (.fieldLink RX11 19 "NoticeWeek" "tape" "LNoticeWeek$Tape;") (List.mem_of_getElem? (i := 2) rfl)) (fun _ h9 => h9) rfl dX11_feed_28 ?_
        refine lv_iload_n hx hb dX11_feed_31 rfl (lv_at hl 1 rfl) ?_
        refine b_callM [1, 2] (va_runV (As := [.int x]) (rest := []) ⟨hx, hb, hml, hown, hts⟩ (c_X6_append l D cI cZ cT pa t tf tat tw bt x (by omega)) (cwV 1 hts gX11_feed_X6_append rfl rfl rfl (by decide +kernel) ⟨(Nat.le_of_ble_eq_true rfl), (Nat.le_of_ble_eq_true rfl)⟩) (b_pVM hK hP hD [1, 2] (by decide) rfl rfl 1 rfl rfl) rfl rfl hl.1 rfl (lv_room (Nat.le_of_ble_eq_true rfl)) dX11_feed_32 ⟨Nat.zero_le _, Nat.zero_le _⟩).run hP hD hS rfl (Nat.le_of_ble_eq_true rfl) (fun H locs hP hS => ?_)
        have hP : va_P D vwCl (wNW nx ra pa ta da ia xa fa za un na fi ++ wTape cI pa (nI (t + 1)) tf tat tw (upd bt t x)) H := hP
        have hD : va_D A (wNW nx ra pa ta da ia xa fa za un na fi ++ wTape cI pa (nI (t + 1)) tf tat tw (upd bt t x)) := hD.sameA [nx, (pa 0), (pa 1)] rfl rfl
        have E : x_feed t bt x = ((nI (t + 1)), t + 1, (upd bt t x)) := (by first | (simp only [x_feed, eq_false c1, eq_true c2, eq_false c3, bI, not_true_eq_false, not_false_eq_true, ite_true, ite_false, if_true, if_false, and_self, and_true, true_and, false_and, and_false, or_true, true_or, or_false, false_or, eq_self]; done) | (simp [x_feed, eq_false c1, eq_true c2, eq_false c3, bI]; done))
        rw [E]
        exact b_retM hx hb hr hP hS rfl dX11_feed_35 hlocks
      · refine lv_ldc (v := (-1000003)) hx hb hown (hts (.constant RX11 115 (-1000003)) (List.mem_of_getElem? (i := 3) rfl)) dX11_feed_24 ?_
        have E : x_feed t bt x = ((-1000003), t, bt) := (by first | (simp only [x_feed, eq_false c1, eq_true c2, eq_true c3, bI, not_true_eq_false, not_false_eq_true, ite_true, ite_false, if_true, if_false, and_self, and_true, true_and, false_and, and_false, or_true, true_or, or_false, false_or, eq_self]; done) | (simp [x_feed, eq_false c1, eq_true c2, eq_true c3, bI]; done))
        rw [E]
        exact b_retM hx hb hr hP hS rfl dX11_feed_26 hlocks
    · refine lv_ldc (v := (-1000001)) hx hb hown (hts (.constant RX11 71 (-1000001)) (List.mem_of_getElem? (i := 1) rfl)) dX11_feed_11 ?_
      have E : x_feed t bt x = ((-1000001), t, bt) := (by first | (simp only [x_feed, eq_false c1, eq_false c2, bI, not_true_eq_false, not_false_eq_true, ite_true, ite_false, if_true, if_false, and_self, and_true, true_and, false_and, and_false, or_true, true_or, or_false, false_or, eq_self]; done) | (simp [x_feed, eq_false c1, eq_false c2, bI]; done))
      rw [E]
      exact b_retM hx hb hr hP hS rfl dX11_feed_13 hlocks
theorem u_X11_fault_X11 : ∀ w ∈ wsX110, w ∈ wsX11_fault := fun _ h => List.mem_cons_of_mem _ (List.mem_append_left _ (List.mem_append_right _ h))
theorem u_X11_fault_X6 : ∀ w ∈ wsX60, w ∈ wsX11_fault := fun _ h => List.mem_cons_of_mem _ (List.mem_append_right _ h)
set_option maxHeartbeats 4000000 in
set_option maxRecDepth 100000 in
theorem c_X11_fault (l : Launch) (D : va_G) (cI cZ cT : ClassId) (nx : Nat) (ra pa ta da : Nat → Nat) (ia xa : Nat) (fa za : Nat → Nat) (un na fi : Int32) (t : Nat) (tf tat tw : Int32) (bt : Nat → Int32)  : Met l yX11_fault wsX11_fault ({ frames := 0, cells := 0, slots := 0, locals := 0 }) (pR D cI cZ cT [.ref nx] (wNW nx ra pa ta da ia xa fa za un na fi ++ wTape cI pa (nI t) tf tat tw bt)) (QcRead tf) 0 0 (fun _ => False) := by
  refine Met.ofW (cc := cX11_fault) (maxL := 1) (ret := (some .int)) (by decide) rfl ?_
  intro p e s m args below meth c s₁ B hml hv
  obtain ⟨rfl, hP, hK⟩ := hv
  have hx := B.exec
  have hb := B.bytes
  have hr := B.returns
  have hts := atoms_spec (ws := wsX11_fault) B.pre
  have hown : s.vm.findClass RX11 = some m.cls := findClass_of_methodNamed B.named
  have hlocks := B.notSynchronized
  have hl := lv_entry ([.ref nx]) (n := 1) (Nat.le_of_ble_eq_true rfl)
  rw [lg_entry_eq]
  generalize (lg_sl ([.ref nx]) ++ List.replicate (1 - (lg_sl ([.ref nx])).length) Slot.unset).toArray = ls at hl ⊢
  have hl : lv_has ls 1 [(0, .ref nx)] := hl
  refine lv_aload_n hx hb dX11_fault_0 rfl (lv_at hl 0 rfl) ?_
  refine va_get (D := D) (ci := 10) (v := .ref (pa 0)) (C := RX11) (T := TX11) (N := 11) hx hb hts u_X11_fault_X11 hown hK.1 hP 0 rfl rfl 1 (by decide) (hts (.fieldLink RX11 19 "NoticeWeek" "tape" "LNoticeWeek$Tape;") (List.mem_of_getElem? (i := 1) rfl)) (fun _ h9 => h9) rfl dX11_fault_1 ?_
  refine va_get (D := D) (ci := 6) (v := .int tf) (C := RX6) (T := TX6) (N := 5) hx hb hts u_X11_fault_X6 hown hK.1 hP 1 rfl rfl 2 (by decide) (hts (.fieldLink RX11 134 "NoticeWeek$Tape" "latestFault" "I") (List.mem_of_getElem? (i := 2) rfl)) (fun _ h9 => h9) rfl dX11_fault_4 ?_
  exact b_ret hx hb hr (by first | with_reducible rfl | (simp only [bI, not_true_eq_false, not_false_eq_true, ite_true, ite_false, if_true, if_false, and_self, and_true, true_and, false_and, and_false, or_true, true_or, or_false, false_or]; done) | (simp [bI]; done) | omega) dX11_fault_7 hlocks
theorem u_X11_town_X11 : ∀ w ∈ wsX110, w ∈ wsX11_town := fun _ h => List.mem_cons_of_mem _ (List.mem_append_left _ (List.mem_append_left _ (List.mem_append_right _ h)))
theorem u_X11_town_X8 : ∀ w ∈ wsX80, w ∈ wsX11_town := fun _ h => List.mem_cons_of_mem _ (List.mem_append_left _ (List.mem_append_right _ h))
set_option maxHeartbeats 4000000 in
set_option maxRecDepth 100000 in
theorem c_X11_town (l : Launch) (D : va_G) (cI cZ cT : ClassId) (nx : Nat) (ra pa ta da : Nat → Nat) (ia xa : Nat) (fa za : Nat → Nat) (un na fi : Int32) (t : Nat) (tf tat tw : Int32) (bt : Nat → Int32) (st dy ln rd : Int32) (kd dd nt lf : Nat → Int32) (dst ddy dln drd : Int32) (dkd ddd dnt dlf : Nat → Int32) (ht : t ≤ 120) : Met l yX11_town wsX11_town ({ frames := 4, cells := 0, slots := 0, locals := 90 }) (pM D cI cZ cT [.ref nx] (wNW nx ra pa ta da ia xa fa za un na fi ++ wTape cI pa (nI t) tf tat tw bt ++ wTown cI ta st dy ln rd kd dd nt lf ++ wTown cI da dst ddy dln drd dkd ddd dnt dlf)) (qM D (some (.int ((x_town un t bt tf (st, dy, ln, rd, kd, dd, nt, lf) dkd ddd dnt dlf).1))) (wNW nx ra pa ta da ia xa fa za ((x_town un t bt tf (st, dy, ln, rd, kd, dd, nt, lf) dkd ddd dnt dlf).2.1) na fi ++ wTape cI pa (nI 0) ((x_town un t bt tf (st, dy, ln, rd, kd, dd, nt, lf) dkd ddd dnt dlf).2.2.2.2.1) (nI (x_town un t bt tf (st, dy, ln, rd, kd, dd, nt, lf) dkd ddd dnt dlf).2.2.2.2.2.2.2.1.1) ((x_town un t bt tf (st, dy, ln, rd, kd, dd, nt, lf) dkd ddd dnt dlf).2.2.2.2.2.2.2.1.2) bt ++ wTown cI ta ((x_town un t bt tf (st, dy, ln, rd, kd, dd, nt, lf) dkd ddd dnt dlf).2.2.1.1) ((x_town un t bt tf (st, dy, ln, rd, kd, dd, nt, lf) dkd ddd dnt dlf).2.2.1.2.1) ((x_town un t bt tf (st, dy, ln, rd, kd, dd, nt, lf) dkd ddd dnt dlf).2.2.1.2.2.1) ((x_town un t bt tf (st, dy, ln, rd, kd, dd, nt, lf) dkd ddd dnt dlf).2.2.1.2.2.2.1) ((x_town un t bt tf (st, dy, ln, rd, kd, dd, nt, lf) dkd ddd dnt dlf).2.2.1.2.2.2.2.1) ((x_town un t bt tf (st, dy, ln, rd, kd, dd, nt, lf) dkd ddd dnt dlf).2.2.1.2.2.2.2.2.1) ((x_town un t bt tf (st, dy, ln, rd, kd, dd, nt, lf) dkd ddd dnt dlf).2.2.1.2.2.2.2.2.2.1) ((x_town un t bt tf (st, dy, ln, rd, kd, dd, nt, lf) dkd ddd dnt dlf).2.2.1.2.2.2.2.2.2.2) ++ wTown cI da ((x_town un t bt tf (st, dy, ln, rd, kd, dd, nt, lf) dkd ddd dnt dlf).2.2.2.2.2.1) 0 ((x_town un t bt tf (st, dy, ln, rd, kd, dd, nt, lf) dkd ddd dnt dlf).2.2.2.2.2.2.1) (nI (x_town un t bt tf (st, dy, ln, rd, kd, dd, nt, lf) dkd ddd dnt dlf).2.2.2.2.2.2.2.2.1) ((x_town un t bt tf (st, dy, ln, rd, kd, dd, nt, lf) dkd ddd dnt dlf).2.2.2.2.2.2.2.2.2.1) ((x_town un t bt tf (st, dy, ln, rd, kd, dd, nt, lf) dkd ddd dnt dlf).2.2.2.2.2.2.2.2.2.2.1) ((x_town un t bt tf (st, dy, ln, rd, kd, dd, nt, lf) dkd ddd dnt dlf).2.2.2.2.2.2.2.2.2.2.2.1) ((x_town un t bt tf (st, dy, ln, rd, kd, dd, nt, lf) dkd ddd dnt dlf).2.2.2.2.2.2.2.2.2.2.2.2)) (adr (wNW nx ra pa ta da ia xa fa za un na fi ++ wTape cI pa (nI t) tf tat tw bt ++ wTown cI ta st dy ln rd kd dd nt lf ++ wTown cI da dst ddy dln drd dkd ddd dnt dlf))) 0 0 (adr (wNW nx ra pa ta da ia xa fa za un na fi ++ wTape cI pa (nI t) tf tat tw bt ++ wTown cI ta st dy ln rd kd dd nt lf ++ wTown cI da dst ddy dln drd dkd ddd dnt dlf)) := by
  refine Met.ofW (cc := cX11_town) (maxL := 2) (ret := (some .int)) (by decide) rfl ?_
  intro p e s m args below meth c s₁ B hml hv
  obtain ⟨rfl, hP, hD0, hK⟩ := hv
  have hx := B.exec
  have hb := B.bytes
  have hr := B.returns
  have hts := atoms_spec (ws := wsX11_town) B.pre
  have hown : s.vm.findClass RX11 = some m.cls := findClass_of_methodNamed B.named
  have hlocks := B.notSynchronized
  have hD := hD0.toAdr
  have hS : va_S (adr (wNW nx ra pa ta da ia xa fa za un na fi ++ wTape cI pa (nI t) tf tat tw bt ++ wTown cI ta st dy ln rd kd dd nt lf ++ wTown cI da dst ddy dln drd dkd ddd dnt dlf)) s.heap s.heap [] := va_S.rf
  generalize adr (wNW nx ra pa ta da ia xa fa za un na fi ++ wTape cI pa (nI t) tf tat tw bt ++ wTown cI ta st dy ln rd kd dd nt lf ++ wTown cI da dst ddy dln drd dkd ddd dnt dlf) = A at hD hS ⊢
  have hl := lv_entry ([.ref nx]) (n := 2) (Nat.le_of_ble_eq_true rfl)
  rw [lg_entry_eq]
  generalize (lg_sl ([.ref nx]) ++ List.replicate (2 - (lg_sl ([.ref nx])).length) Slot.unset).toArray = ls at hl ⊢
  have hl : lv_has ls 2 [(0, .ref nx)] := hl
  refine lv_aload_n hx hb dX11_town_0 rfl (lv_at hl 0 rfl) ?_
  refine va_get (D := D) (ci := 10) (v := .ref (pa 0)) (C := RX11) (T := TX11) (N := 11) hx hb hts u_X11_town_X11 hown hK.1 hP 0 rfl rfl 1 (by decide) (hts (.fieldLink RX11 19 "NoticeWeek" "tape" "LNoticeWeek$Tape;") (List.mem_of_getElem? (i := 1) rfl)) (fun _ h9 => h9) rfl dX11_town_1 ?_
  refine lv_aload_n hx hb dX11_town_4 rfl (lv_at hl 0 rfl) ?_
  refine va_get (D := D) (ci := 10) (v := .ref (da 0)) (C := RX11) (T := TX11) (N := 11) hx hb hts u_X11_town_X11 hown hK.1 hP 0 rfl rfl 3 (by decide) (hts (.fieldLink RX11 30 "NoticeWeek" "draft" "LNoticeWeek$Town;") (List.mem_of_getElem? (i := 2) rfl)) (fun _ h9 => h9) rfl dX11_town_5 ?_
  refine b_callM [1, 2, 8, 9, 10, 11, 12] (va_runV (As := [.ref (da 0)]) (rest := []) ⟨hx, hb, hml, hown, hts⟩ (c_X6_readInto l D cI cZ cT pa t tf tat tw bt da dst ddy dln drd dkd ddd dnt dlf ht) (cwV 1 hts gX11_town_X6_readInto rfl rfl rfl (by decide +kernel) ⟨(Nat.le_of_ble_eq_true rfl), (Nat.le_of_ble_eq_true rfl)⟩) (b_pVM hK hP hD [1, 2, 8, 9, 10, 11, 12] (by decide) rfl rfl 1 rfl rfl) rfl rfl hl.1 rfl (lv_room (Nat.le_of_ble_eq_true rfl)) dX11_town_8 ⟨Nat.zero_le _, Nat.zero_le _⟩).run hP hD hS rfl (Nat.le_of_ble_eq_true rfl) (fun H locs hP hS => ?_)
  have hP : va_P D vwCl (wNW nx ra pa ta da ia xa fa za un na fi ++ wTape cI pa (nI 0) ((x_into bt t tf dkd ddd dnt dlf).2.1) (nI (x_into bt t tf dkd ddd dnt dlf).2.2.2.2.1.1) ((x_into bt t tf dkd ddd dnt dlf).2.2.2.2.1.2) bt ++ wTown cI ta st dy ln rd kd dd nt lf ++ wTown cI da ((x_into bt t tf dkd ddd dnt dlf).2.2.1) 0 ((x_into bt t tf dkd ddd dnt dlf).2.2.2.1) (nI (x_into bt t tf dkd ddd dnt dlf).2.2.2.2.2.1) ((x_into bt t tf dkd ddd dnt dlf).2.2.2.2.2.2.1) ((x_into bt t tf dkd ddd dnt dlf).2.2.2.2.2.2.2.1) ((x_into bt t tf dkd ddd dnt dlf).2.2.2.2.2.2.2.2.1) ((x_into bt t tf dkd ddd dnt dlf).2.2.2.2.2.2.2.2.2)) H := hP
  generalize eq8 : x_into bt t tf dkd ddd dnt dlf = q8 at hP ⊢
  have hP : va_P D vwCl (wNW nx ra pa ta da ia xa fa za un na fi ++ wTape cI pa (nI 0) q8.2.1 (nI q8.2.2.2.2.1.1) q8.2.2.2.2.1.2 bt ++ wTown cI ta st dy ln rd kd dd nt lf ++ wTown cI da q8.2.2.1 0 q8.2.2.2.1 (nI q8.2.2.2.2.2.1) q8.2.2.2.2.2.2.1 q8.2.2.2.2.2.2.2.1 q8.2.2.2.2.2.2.2.2.1 q8.2.2.2.2.2.2.2.2.2) H := hP
  have hD : va_D A (wNW nx ra pa ta da ia xa fa za un na fi ++ wTape cI pa (nI 0) q8.2.1 (nI q8.2.2.2.2.1.1) q8.2.2.2.2.1.2 bt ++ wTown cI ta st dy ln rd kd dd nt lf ++ wTown cI da q8.2.2.1 0 q8.2.2.2.1 (nI q8.2.2.2.2.2.1) q8.2.2.2.2.2.2.1 q8.2.2.2.2.2.2.2.1 q8.2.2.2.2.2.2.2.2.1 q8.2.2.2.2.2.2.2.2.2) := hD.sameA [nx, (pa 0), (pa 1), (ta 0), (ta 1), (ta 2), (ta 3), (ta 4), (da 0), (da 1), (da 2), (da 3), (da 4)] rfl rfl
  have hq8 := x_into_st (bt := bt) (t := t) (tf := tf) (kd := dkd) (dd := ddd) (nt := dnt) (lf := dlf)
  rw [eq8] at hq8
  refine lv_istore_n (lv' := [(1, .int q8.1), (0, .ref nx)]) hx hb dX11_town_11 rfl hl (by decide) rfl (fun ls hl => ?_)
  refine lv_iload_n hx hb dX11_town_12 rfl (lv_at hl 0 rfl) ?_
  refine lv_iconst (v := (-1)) hx hb dX11_town_13 (by decide) ?_
  refine lv_icmp_eq (tgt := 22) hx hb dX11_town_14 (by decide) (fun c1 => ?_) (fun c1 => ?_)
  · refine lv_aload_n hx hb dX11_town_22 rfl (lv_at hl 1 rfl) ?_
    refine va_get (D := D) (ci := 10) (v := .ref (ta 0)) (C := RX11) (T := TX11) (N := 11) hx hb hts u_X11_town_X11 hown hK.1 hP 0 rfl rfl 2 (by decide) (hts (.fieldLink RX11 26 "NoticeWeek" "town" "LNoticeWeek$Town;") (List.mem_of_getElem? (i := 4) rfl)) (fun _ h9 => h9) rfl dX11_town_23 ?_
    refine lv_aload_n hx hb dX11_town_26 rfl (lv_at hl 1 rfl) ?_
    refine va_get (D := D) (ci := 10) (v := .ref (da 0)) (C := RX11) (T := TX11) (N := 11) hx hb hts u_X11_town_X11 hown hK.1 hP 0 rfl rfl 3 (by decide) (hts (.fieldLink RX11 30 "NoticeWeek" "draft" "LNoticeWeek$Town;") (List.mem_of_getElem? (i := 2) rfl)) (fun _ h9 => h9) rfl dX11_town_27 ?_
    refine b_callM [3, 4, 5, 6, 7, 8, 9, 10, 11, 12] (va_runV (As := [.ref (da 0)]) (rest := []) ⟨hx, hb, hml, hown, hts⟩ (c_X8_become l D cI cZ cT ta st dy ln rd kd dd nt lf da q8.2.2.1 0 q8.2.2.2.1 (nI q8.2.2.2.2.2.1) q8.2.2.2.2.2.2.1 q8.2.2.2.2.2.2.2.1 q8.2.2.2.2.2.2.2.2.1 q8.2.2.2.2.2.2.2.2.2 hq8) (cwV 1 hts gX11_town_X8_become rfl rfl rfl (by decide +kernel) ⟨(Nat.le_of_ble_eq_true rfl), (Nat.le_of_ble_eq_true rfl)⟩) (b_pVM hK hP hD [3, 4, 5, 6, 7, 8, 9, 10, 11, 12] (by decide) rfl rfl 3 rfl rfl) rfl rfl hl.1 rfl (lv_room (Nat.le_of_ble_eq_true rfl)) dX11_town_30 ⟨Nat.zero_le _, Nat.zero_le _⟩).run hP hD hS rfl (Nat.le_of_ble_eq_true rfl) (fun H locs hP hS => ?_)
    have hP : va_P D vwCl (wNW nx ra pa ta da ia xa fa za un na fi ++ wTape cI pa (nI 0) q8.2.1 (nI q8.2.2.2.2.1.1) q8.2.2.2.2.1.2 bt ++ wTown cI ta q8.2.2.1 0 q8.2.2.2.1 (nI q8.2.2.2.2.2.1) (cp6 q8.2.2.2.2.2.2.1 kd 6) (cp6 q8.2.2.2.2.2.2.2.1 dd 6) (cp6 q8.2.2.2.2.2.2.2.2.1 nt 6) (cp6 q8.2.2.2.2.2.2.2.2.2 lf 6) ++ wTown cI da q8.2.2.1 0 q8.2.2.2.1 (nI q8.2.2.2.2.2.1) q8.2.2.2.2.2.2.1 q8.2.2.2.2.2.2.2.1 q8.2.2.2.2.2.2.2.2.1 q8.2.2.2.2.2.2.2.2.2) H := hP
    have hD : va_D A (wNW nx ra pa ta da ia xa fa za un na fi ++ wTape cI pa (nI 0) q8.2.1 (nI q8.2.2.2.2.1.1) q8.2.2.2.2.1.2 bt ++ wTown cI ta q8.2.2.1 0 q8.2.2.2.1 (nI q8.2.2.2.2.2.1) (cp6 q8.2.2.2.2.2.2.1 kd 6) (cp6 q8.2.2.2.2.2.2.2.1 dd 6) (cp6 q8.2.2.2.2.2.2.2.2.1 nt 6) (cp6 q8.2.2.2.2.2.2.2.2.2 lf 6) ++ wTown cI da q8.2.2.1 0 q8.2.2.2.1 (nI q8.2.2.2.2.2.1) q8.2.2.2.2.2.2.1 q8.2.2.2.2.2.2.2.1 q8.2.2.2.2.2.2.2.2.1 q8.2.2.2.2.2.2.2.2.2) := hD.sameA [nx, (pa 0), (pa 1), (ta 0), (ta 1), (ta 2), (ta 3), (ta 4), (da 0), (da 1), (da 2), (da 3), (da 4)] rfl rfl
    refine lv_aload_n hx hb dX11_town_33 rfl (lv_at hl 1 rfl) ?_
    refine b_callM [0] (va_runV (As := []) (rest := []) ⟨hx, hb, hml, hown, hts⟩ (c_X11_forgetActs l D cI cZ cT nx ra pa ta da ia xa fa za un na fi) (cwV 0 hts gX11_town_X11_forgetActs rfl rfl rfl (by decide +kernel) ⟨(Nat.le_of_ble_eq_true rfl), (Nat.le_of_ble_eq_true rfl)⟩) (b_pVM hK hP hD [0] (by decide) rfl rfl 0 rfl rfl) rfl rfl hl.1 rfl (lv_room (Nat.le_of_ble_eq_true rfl)) dX11_town_34 ⟨Nat.zero_le _, Nat.zero_le _⟩).run hP hD hS rfl (Nat.le_of_ble_eq_true rfl) (fun H locs hP hS => ?_)
    have hP : va_P D vwCl (wNW nx ra pa ta da ia xa fa za (nI 0) na fi ++ wTape cI pa (nI 0) q8.2.1 (nI q8.2.2.2.2.1.1) q8.2.2.2.2.1.2 bt ++ wTown cI ta q8.2.2.1 0 q8.2.2.2.1 (nI q8.2.2.2.2.2.1) (cp6 q8.2.2.2.2.2.2.1 kd 6) (cp6 q8.2.2.2.2.2.2.2.1 dd 6) (cp6 q8.2.2.2.2.2.2.2.2.1 nt 6) (cp6 q8.2.2.2.2.2.2.2.2.2 lf 6) ++ wTown cI da q8.2.2.1 0 q8.2.2.2.1 (nI q8.2.2.2.2.2.1) q8.2.2.2.2.2.2.1 q8.2.2.2.2.2.2.2.1 q8.2.2.2.2.2.2.2.2.1 q8.2.2.2.2.2.2.2.2.2) H := hP
    have hD : va_D A (wNW nx ra pa ta da ia xa fa za (nI 0) na fi ++ wTape cI pa (nI 0) q8.2.1 (nI q8.2.2.2.2.1.1) q8.2.2.2.2.1.2 bt ++ wTown cI ta q8.2.2.1 0 q8.2.2.2.1 (nI q8.2.2.2.2.2.1) (cp6 q8.2.2.2.2.2.2.1 kd 6) (cp6 q8.2.2.2.2.2.2.2.1 dd 6) (cp6 q8.2.2.2.2.2.2.2.2.1 nt 6) (cp6 q8.2.2.2.2.2.2.2.2.2 lf 6) ++ wTown cI da q8.2.2.1 0 q8.2.2.2.1 (nI q8.2.2.2.2.2.1) q8.2.2.2.2.2.2.1 q8.2.2.2.2.2.2.2.1 q8.2.2.2.2.2.2.2.2.1 q8.2.2.2.2.2.2.2.2.2) := hD.sameA [nx, (pa 0), (pa 1), (ta 0), (ta 1), (ta 2), (ta 3), (ta 4), (da 0), (da 1), (da 2), (da 3), (da 4)] rfl rfl
    refine lv_aload_n hx hb dX11_town_37 rfl (lv_at hl 1 rfl) ?_
    refine va_get (D := D) (ci := 10) (v := .ref (ta 0)) (C := RX11) (T := TX11) (N := 11) hx hb hts u_X11_town_X11 hown hK.1 hP 0 rfl rfl 2 (by decide) (hts (.fieldLink RX11 26 "NoticeWeek" "town" "LNoticeWeek$Town;") (List.mem_of_getElem? (i := 4) rfl)) (fun _ h9 => h9) rfl dX11_town_38 ?_
    refine va_get (D := D) (ci := 7) (v := .int (nI (q8.2.2.2.2.2.1))) (C := RX8) (T := TX8) (N := 8) hx hb hts u_X11_town_X8 hown hK.1 hP 3 rfl rfl 3 (by decide) (hts (.fieldLink RX11 131 "NoticeWeek$Town" "readers" "I") (List.mem_of_getElem? (i := 5) rfl)) (fun _ h9 => h9) rfl dX11_town_41 ?_
    have E : x_town un t bt tf (st, dy, ln, rd, kd, dd, nt, lf) dkd ddd dnt dlf = ((nI (q8.2.2.2.2.2.1)), (nI 0), (q8.2.2.1, 0, q8.2.2.2.1, (nI q8.2.2.2.2.2.1), (cp6 q8.2.2.2.2.2.2.1 kd 6), (cp6 q8.2.2.2.2.2.2.2.1 dd 6), (cp6 q8.2.2.2.2.2.2.2.2.1 nt 6), (cp6 q8.2.2.2.2.2.2.2.2.2 lf 6)), q8) := (by unfold x_town; rw [eq8, if_pos c1])
    rw [E]
    exact b_retM hx hb hr hP hS rfl dX11_town_44 hlocks
  · refine lv_ldc (v := (-1000100)) hx hb hown (hts (.constant RX11 123 (-1000100)) (List.mem_of_getElem? (i := 3) rfl)) dX11_town_17 ?_
    refine lv_iload_n hx hb dX11_town_19 rfl (lv_at hl 0 rfl) ?_
    refine lv_isub hx hb dX11_town_20 ?_
    have E : x_town un t bt tf (st, dy, ln, rd, kd, dd, nt, lf) dkd ddd dnt dlf = (((-1000100) - q8.1), un, (st, dy, ln, rd, kd, dd, nt, lf), q8) := (by unfold x_town; rw [eq8, if_neg c1])
    rw [E]
    exact b_retM hx hb hr hP hS rfl dX11_town_21 hlocks
