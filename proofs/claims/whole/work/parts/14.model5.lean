/-! MODEL: days, acts, what is foretold -/
def TK (nw : Nat → Int32) (n : Nat) : Prop := n ≤ 6 ∧ nw 3 = nI n ∧ ∀ r, r ≤ 5 → ∃ d, d ≤ 60 ∧ nw (4 + 4 * r + 3) = nI d
theorem i_rd {nw : Nat → Int32} {n : Nat} {x : Int32} (hW : TK nw n) (h : ¬ x < 0 ∧ ¬ nw 3 - 1 < x) : ∃ r : Nat, r ≤ 5 ∧ x = nI r := by
  obtain ⟨hn, h3, -⟩ := hW
  obtain ⟨j, hj, rfl⟩ := nI_of h.1
  have h1 := h.2
  have h2 : (nI n - 1).toInt = (n : Int) - 1 := i_subT (by omega) 1 (by omega)
  rw [h3, i_lt, h2, nI_toInt hj] at h1
  exact ⟨j, by omega, rfl⟩
abbrev isR (nw : Nat → Int32) (x : Int32) : Prop := ¬ x < 0 ∧ ¬ nw 3 - 1 < x
def goF (dy kd nt : Int32) (k : Nat) (did : Int32) : Int32 := itr (fun j x => x ||| doesf kd x nt (dy + nI j)) k did
def ddI (nw : Nat → Int32) (r d : Nat) : Int32 := goF (nw 2) (nw (4 + 4 * r)) (nw (4 + 4 * r + 2)) (min d (tn (nw (4 + 4 * r + 3)))) (nw (4 + 4 * r + 1))
def fsI (nw : Nat → Int32) (r d : Nat) : Int32 := ones8 (ddI nw r d ^^^ nw (4 + 4 * r + 2))
abbrev lvs (nw : Nat → Int32) (r : Nat) : Prop := ¬ nw (4 + 4 * r + 3) ≤ 0
def lvI (nw : Nat → Int32) (k : Nat) : Int32 := itr (fun r x => x ||| (if lvs nw r then 1 <<< (nI r &&& 31) else 0)) k 0
def m_notes (nc : Nat) (nw pa : Nat → Int32) : Nat × (Nat → Int32) :=
  if nc = 24 then (nc - 1 + 1, cpy nw 0 (itr (fun k f => upd f k (f (k + 28))) 644 pa) (28 * (nc - 1)) 28) else (nc + 1, cpy nw 0 pa (28 * nc) 28)
theorem m_notes_le {nc : Nat} {nw pa : Nat → Int32} (h : nc ≤ 24) : (m_notes nc nw pa).1 ≤ 24 := by
  unfold m_notes; split
  · show nc - 1 + 1 ≤ 24; omega
  · show nc + 1 ≤ 24; omega
def rdS (f : Nat → Int32) (r : Nat) : Nat → Int32 := upd (upd f (4 + 4 * r + 1) (ddI f r 1)) (4 + 4 * r + 3) ((upd f (4 + 4 * r + 1) (ddI f r 1)) (4 + 4 * r + 3) - (if lvs (upd f (4 + 4 * r + 1) (ddI f r 1)) r then 1 else 0))
def rdF (f : Nat → Int32) (j : Nat) : Nat → Int32 := itr (fun r f => rdS f r) j f
def dayF (f : Nat → Int32) (n : Nat) : Nat → Int32 := upd (rdF f n) 2 (rdF f n 2 + 1)
def dayM (n : Nat) (S : Nat × (Nat → Int32) × (Nat → Int32)) : Nat × (Nat → Int32) × (Nat → Int32) := ((m_notes S.1 S.2.2 S.2.1).1, (m_notes S.1 S.2.2 S.2.1).2, dayF S.2.2 n)
def dyL (n : Nat) (S : Nat × (Nat → Int32) × (Nat → Int32)) (k : Nat) : Nat × (Nat → Int32) × (Nat → Int32) := itr (fun _ S => dayM n S) k S
theorem rdS_ne {f : Nat → Int32} {r j : Nat} (h1 : j ≠ 4 + 4 * r + 1) (h3 : j ≠ 4 + 4 * r + 3) : rdS f r j = f j := by unfold rdS; rw [pk_un h3, pk_un h1]
theorem TK_rd {f : Nat → Int32} {n r : Nat} (h : TK f n) (hr : r ≤ 5) : TK (rdS f r) n := by
  obtain ⟨hn, h3, hL⟩ := h
  refine ⟨hn, by rw [rdS_ne (by omega) (by omega)]; exact h3, fun q hq => ?_⟩
  by_cases hqr : q = r
  · subst hqr
    obtain ⟨d, hd, he⟩ := hL q hq
    have hv : upd f (4 + 4 * q + 1) (ddI f q 1) (4 + 4 * q + 3) = nI d := by rw [pk_un (by omega)]; exact he
    unfold rdS
    rw [pk_us]
    by_cases hl : lvs (upd f (4 + 4 * q + 1) (ddI f q 1)) q
    · rw [if_pos hl, hv]
      unfold lvs at hl
      rw [hv] at hl
      have hd0 : 1 ≤ d := by
        rcases Nat.eq_zero_or_pos d with z | z
        · subst z; exact absurd (by decide) hl
        · exact z
      exact ⟨d - 1, by omega, pk_sub (a := d) (b := 1) hd0⟩
    · rw [if_neg hl, hv]
      exact ⟨d, hd, by show nI d - nI 0 = nI d; rw [pk_sub (Nat.zero_le d)]; rfl⟩
  · obtain ⟨d, hd, he⟩ := hL q hq
    exact ⟨d, hd, by rw [rdS_ne (by omega) (by omega)]; exact he⟩
theorem TK_rdF {f : Nat → Int32} {n : Nat} (h : TK f n) : ∀ j, j ≤ 6 → TK (rdF f j) n := by
  intro j
  induction j with
  | zero => intro _; exact h
  | succ j ih => intro hj; exact TK_rd (ih (by omega)) (by omega)
theorem TK_2 {f : Nat → Int32} {n : Nat} {x : Int32} (h : TK f n) : TK (upd f 2 x) n := by
  obtain ⟨hn, h3, hL⟩ := h
  refine ⟨hn, by rw [pk_un (by decide)]; exact h3, fun q hq => ?_⟩
  obtain ⟨d, hd, he⟩ := hL q hq
  exact ⟨d, hd, by rw [pk_un (by omega)]; exact he⟩
theorem TK_day {f : Nat → Int32} {n : Nat} (h : TK f n) : TK (dayF f n) n := TK_2 (TK_rdF h n h.1)
def m_days (nw pa : Nat → Int32) (nc n : Nat) (x : Int32) : Int32 × Nat × (Nat → Int32) × (Nat → Int32) :=
  if ¬ nw 0 = 1 then (-1000002, nc, pa, nw)
  else if ¬ (¬ x < 1 ∧ ¬ 20 < x) then (-1000001, nc, pa, nw)
  else if ¬ nw 2 + x ≤ 999 then (-1000003, nc, pa, nw)
  else (lvI (dyL n (nc, pa, nw) (tn x)).2.2 n, dyL n (nc, pa, nw) (tn x))
def m_write (nw pa : Nat → Int32) (nc : Nat) (reader notice : Int32) : Int32 × Nat × (Nat → Int32) × (Nat → Int32) :=
  if ¬ isR nw reader then (-1000001, nc, pa, nw)
  else if ¬ (¬ notice < 0 ∧ ¬ 63 < notice) then (-1000001, nc, pa, nw)
  else if ¬ lvs nw (tn reader) then (-1000002, nc, pa, nw)
  else (nw (4 + 4 * tn reader + 2), (m_notes nc nw pa).1, (m_notes nc nw pa).2, upd nw (4 + 4 * tn reader + 2) notice)
def m_deny (nw pa : Nat → Int32) (nc : Nat) (reader deed : Int32) : Int32 × Nat × (Nat → Int32) × (Nat → Int32) :=
  if ¬ isR nw reader then (-1000001, nc, pa, nw)
  else if ¬ (¬ deed < 0 ∧ ¬ 5 < deed) then (-1000001, nc, pa, nw)
  else if ¬ hasb (nw (4 + 4 * tn reader + 1)) (tn deed) then (-1000002, nc, pa, nw)
  else (nw (4 + 4 * tn reader + 1) &&& ((1 <<< (nI (tn deed) &&& 31)) ^^^ (-1)), (m_notes nc nw pa).1, (m_notes nc nw pa).2, upd nw (4 + 4 * tn reader + 1) (nw (4 + 4 * tn reader + 1) &&& ((1 <<< (nI (tn deed) &&& 31)) ^^^ (-1))))
def spv (v x : Int32) : Int32 := if 60 ≤ v + x then 60 else v + x
def m_spare (nw pa : Nat → Int32) (nc : Nat) (reader x : Int32) : Int32 × Nat × (Nat → Int32) × (Nat → Int32) :=
  if ¬ isR nw reader then (-1000001, nc, pa, nw)
  else if ¬ (¬ x < 1 ∧ ¬ 60 < x) then (-1000001, nc, pa, nw)
  else if ¬ lvs nw (tn reader) then (-1000002, nc, pa, nw)
  else (spv (nw (4 + 4 * tn reader + 3)) x, (m_notes nc nw pa).1, (m_notes nc nw pa).2, upd nw (4 + 4 * tn reader + 3) (spv (nw (4 + 4 * tn reader + 3)) x))
def m_undo (nw pa : Nat → Int32) (nc : Nat) : Int32 × Nat × (Nat → Int32) :=
  if nI nc = 0 then (-1000002, nc, nw) else (nI (nc - 1), nc - 1, cpy pa (28 * (nc - 1)) nw 0 28)
def m_reader (nw : Nat → Int32) (reader what : Int32) : Int32 :=
  if ¬ isR nw reader then -1000001
  else if what = 0 then nw (4 + 4 * tn reader + 1)
  else if what = 1 then nw (4 + 4 * tn reader + 2)
  else if what = 2 then nw (4 + 4 * tn reader + 3)
  else if what = 3 then fsI nw (tn reader) 0
  else if what = 4 then ddI nw (tn reader) 1 &&& (nw (4 + 4 * tn reader + 1) ^^^ (-1))
  else -1000001
abbrev far (d : Int32) : Prop := ¬ d < 0 ∧ ¬ 60 < d
def m_deeds (nw : Nat → Int32) (reader d : Int32) : Int32 := if ¬ isR nw reader then -1000001 else if ¬ far d then -1000001 else ddI nw (tn reader) (tn d)
def m_lines (nw : Nat → Int32) (reader d : Int32) : Int32 := if ¬ isR nw reader then -1000001 else if ¬ far d then -1000001 else fsI nw (tn reader) (tn d)
def m_ends (nw : Nat → Int32) (reader : Int32) : Int32 := if ¬ isR nw reader then -1000001 else fsI nw (tn reader) 60
def deF (nw : Nat → Int32) (d : Int32) (k : Nat) : Int32 := itr (fun r x => x ||| (if d < nw (4 + 4 * r + 3) then (0 : Int32) else 1 <<< (nI r &&& 31))) k 0
def m_dead (nw : Nat → Int32) (n : Nat) (d : Int32) : Int32 := if ¬ nw 0 = 1 then -1000002 else if ¬ far d then -1000001 else deF nw d n
theorem i_ge1 {x : Int32} (h : ¬ x < 1) : ¬ x < 0 := by
  rw [i_lt] at h ⊢
  have : (1 : Int32).toInt = 1 := rfl
  have : (0 : Int32).toInt = 0 := rfl
  omega
theorem u_X12_isTown_X12 : ∀ w ∈ wsX120, w ∈ wsX12_isTown := fun _ h => List.mem_cons_of_mem _ (List.mem_append_right _ h)
set_option maxHeartbeats 4000000 in
set_option maxRecDepth 100000 in
theorem c_X12_isTown (l : Launch) (D : va_G) (cI cZ cT : ClassId) (A0 : Nat → Nat) (ss tp fk fp ap sp tk vl ac tr : Int32) (la ma it sr bt nw dr pa im kp tc : Nat → Int32)  : Met l yX12_isTown wsX12_isTown ({ frames := 0, cells := 0, slots := 0, locals := 0 }) (pR D cI cZ cT [.ref (A0 0)] (wM cI cZ A0 ss tp fk fp ap sp tk vl ac tr la ma it sr bt nw dr pa im kp tc)) (QcRead (bI (nw 0 = 1))) 0 0 (fun _ => False) := by
  refine Met.ofW (cc := cX12_isTown) (maxL := 1) (ret := (some .boolean)) (by decide) rfl ?_
  intro p e s m args below meth c s₁ B hml hv
  obtain ⟨rfl, hP, hK⟩ := hv
  have hx := B.exec
  have hb := B.bytes
  have hr := B.returns
  have hts := atoms_spec (ws := wsX12_isTown) B.pre
  have hown : s.vm.findClass RX12 = some m.cls := findClass_of_methodNamed B.named
  have hlocks := B.notSynchronized
  have hl := lv_entry ([.ref (A0 0)]) (n := 1) (Nat.le_of_ble_eq_true rfl)
  rw [lg_entry_eq]
  generalize (lg_sl ([.ref (A0 0)]) ++ List.replicate (1 - (lg_sl ([.ref (A0 0)])).length) Slot.unset).toArray = ls at hl ⊢
  have hl : lv_has ls 1 [(0, .ref (A0 0))] := hl
  refine lv_aload_n hx hb dX12_isTown_0 rfl (lv_at hl 0 rfl) ?_
  refine va_get (D := D) (ci := 11) (v := .ref (A0 6)) (C := RX12) (T := TX12) (N := 21) hx hb hts u_X12_isTown_X12 hown hK.1 hP 0 rfl rfl 13 (by decide) (hts (.fieldLink RX12 25 "NoticeWeekModel" "now" "[I") (List.mem_of_getElem? (i := 1) rfl)) (fun _ h9 => h9) rfl dX12_isTown_1 ?_
  refine lv_iconst (v := (nI 0)) hx hb dX12_isTown_4 (by decide) ?_
  refine b_ald hx hb hK hP 6 rfl (by omega) (by decide) dX12_isTown_5 ?_
  refine lv_iconst (v := 1) hx hb dX12_isTown_6 (by decide) ?_
  refine lv_icmp_ne (tgt := 14) hx hb dX12_isTown_7 (by decide) (fun c1 => ?_) (fun c1 => ?_)
  · refine lv_iconst (v := 0) hx hb dX12_isTown_14 (by decide) ?_
    exact b_zret hx hb hr (by first | with_reducible rfl | (simp only [bI, eq_false c1, not_true_eq_false, not_false_eq_true, ite_true, ite_false, if_true, if_false, and_self, and_true, true_and, false_and, and_false, or_true, true_or, or_false, false_or]; done) | (simp [bI, eq_false c1]; done) | omega) dX12_isTown_15 hlocks
  · refine lv_iconst (v := 1) hx hb dX12_isTown_10 (by decide) ?_
    refine lv_goto (tgt := 15) hx hb dX12_isTown_11 (by decide) ?_
    exact b_zret hx hb hr (by first | with_reducible rfl | (simp only [bI, eq_true c1, not_true_eq_false, not_false_eq_true, ite_true, ite_false, if_true, if_false, and_self, and_true, true_and, false_and, and_false, or_true, true_or, or_false, false_or]; done) | (simp [bI, eq_true c1]; done) | omega) dX12_isTown_15 hlocks
theorem u_X12_isReader_X12 : ∀ w ∈ wsX120, w ∈ wsX12_isReader := fun _ h => List.mem_cons_of_mem _ (List.mem_append_right _ h)
set_option maxHeartbeats 4000000 in
set_option maxRecDepth 100000 in
theorem c_X12_isReader (l : Launch) (D : va_G) (cI cZ cT : ClassId) (A0 : Nat → Nat) (ss tp fk fp ap sp tk vl ac tr : Int32) (la ma it sr bt nw dr pa im kp tc : Nat → Int32) (x : Int32)  : Met l yX12_isReader wsX12_isReader ({ frames := 1, cells := 0, slots := 0, locals := 22 }) (pR D cI cZ cT [.ref (A0 0), .int x] (wM cI cZ A0 ss tp fk fp ap sp tk vl ac tr la ma it sr bt nw dr pa im kp tc)) (QcRead (bI (isR nw x))) 0 0 (fun _ => False) := by
  refine Met.ofW (cc := cX12_isReader) (maxL := 2) (ret := (some .boolean)) (by decide) rfl ?_
  intro p e s m args below meth c s₁ B hml hv
  obtain ⟨rfl, hP, hK⟩ := hv
  have hx := B.exec
  have hb := B.bytes
  have hr := B.returns
  have hts := atoms_spec (ws := wsX12_isReader) B.pre
  have hown : s.vm.findClass RX12 = some m.cls := findClass_of_methodNamed B.named
  have hlocks := B.notSynchronized
  have hl := lv_entry ([.ref (A0 0), .int x]) (n := 2) (Nat.le_of_ble_eq_true rfl)
  rw [lg_entry_eq]
  generalize (lg_sl ([.ref (A0 0), .int x]) ++ List.replicate (2 - (lg_sl ([.ref (A0 0), .int x])).length) Slot.unset).toArray = ls at hl ⊢
  have hl : lv_has ls 2 [(0, .ref (A0 0)), (1, .int x)] := hl
  refine lv_iload_n hx hb dX12_isReader_0 rfl (lv_at hl 1 rfl) ?_
  refine lv_iconst (v := 0) hx hb dX12_isReader_1 (by decide) ?_
  refine lv_aload_n hx hb dX12_isReader_2 rfl (lv_at hl 0 rfl) ?_
  refine va_get (D := D) (ci := 11) (v := .ref (A0 6)) (C := RX12) (T := TX12) (N := 21) hx hb hts u_X12_isReader_X12 hown hK.1 hP 0 rfl rfl 13 (by decide) (hts (.fieldLink RX12 25 "NoticeWeekModel" "now" "[I") (List.mem_of_getElem? (i := 1) rfl)) (fun _ h9 => h9) rfl dX12_isReader_3 ?_
  refine lv_iconst (v := (nI 3)) hx hb dX12_isReader_6 (by decide) ?_
  refine b_ald hx hb hK hP 6 rfl (by omega) (by decide) dX12_isReader_7 ?_
  refine lv_iconst (v := 1) hx hb dX12_isReader_8 (by decide) ?_
  refine lv_isub hx hb dX12_isReader_9 ?_
  refine b_call (va_runS (As := [.int x, .int 0, .int ((nw 3) - 1)]) (rest := []) ⟨hx, hb, hml, hown, hts⟩ (c_X12_in l D cI cZ cT x 0 ((nw 3) - 1)) (va_cwS 3 hts gX12_isReader_X12_in rfl rfl rfl (by decide +kernel) ⟨(Nat.le_of_ble_eq_true rfl), (Nat.le_of_ble_eq_true rfl)⟩) (b_pS0 hK) rfl rfl hl.1 rfl (lv_room (Nat.le_of_ble_eq_true rfl)) dX12_isReader_10 ⟨Nat.zero_le _, Nat.zero_le _⟩).run ?_
  exact b_zret hx hb hr (by first | with_reducible rfl | (simp only [bI, not_true_eq_false, not_false_eq_true, ite_true, ite_false, if_true, if_false, and_self, and_true, true_and, false_and, and_false, or_true, true_or, or_false, false_or]; done) | (simp [bI]; done) | omega) dX12_isReader_13 hlocks
set_option maxHeartbeats 4000000 in
set_option maxRecDepth 100000 in
theorem c_X12_isFar (l : Launch) (D : va_G) (cI cZ cT : ClassId) (x : Int32)  : Met l yX12_isFar wsX12_isFar ({ frames := 1, cells := 0, slots := 0, locals := 22 }) (pR D cI cZ cT [.int x] ([])) (QcRead (bI (far x))) 0 0 (fun _ => False) := by
  refine Met.ofW (cc := cX12_isFar) (maxL := 1) (ret := (some .boolean)) (by decide) rfl ?_
  intro p e s m args below meth c s₁ B hml hv
  obtain ⟨rfl, hP, hK⟩ := hv
  have hx := B.exec
  have hb := B.bytes
  have hr := B.returns
  have hts := atoms_spec (ws := wsX12_isFar) B.pre
  have hown : s.vm.findClass RX12 = some m.cls := findClass_of_methodNamed B.named
  have hlocks := B.notSynchronized
  have hl := lv_entry ([.int x]) (n := 1) (Nat.le_of_ble_eq_true rfl)
  rw [lg_entry_eq]
  generalize (lg_sl ([.int x]) ++ List.replicate (1 - (lg_sl ([.int x])).length) Slot.unset).toArray = ls at hl ⊢
  have hl : lv_has ls 1 [(0, .int x)] := hl
  refine lv_iload_n hx hb dX12_isFar_0 rfl (lv_at hl 0 rfl) ?_
  refine lv_iconst (v := 0) hx hb dX12_isFar_1 (by decide) ?_
  refine lv_bipush (v := 60) hx hb dX12_isFar_2 (by decide) ?_
  refine b_call (va_runS (As := [.int x, .int 0, .int 60]) (rest := []) ⟨hx, hb, hml, hown, hts⟩ (c_X12_in l D cI cZ cT x 0 60) (va_cwS 3 hts gX12_isFar_X12_in rfl rfl rfl (by decide +kernel) ⟨(Nat.le_of_ble_eq_true rfl), (Nat.le_of_ble_eq_true rfl)⟩) (b_pS0 hK) rfl rfl hl.1 rfl (lv_room (Nat.le_of_ble_eq_true rfl)) dX12_isFar_4 ⟨Nat.zero_le _, Nat.zero_le _⟩).run ?_
  exact b_zret hx hb hr (by first | with_reducible rfl | (simp only [bI, not_true_eq_false, not_false_eq_true, ite_true, ite_false, if_true, if_false, and_self, and_true, true_and, false_and, and_false, or_true, true_or, or_false, false_or]; done) | (simp [bI]; done) | omega) dX12_isFar_7 hlocks
theorem u_X12_doneIn_X12 : ∀ w ∈ wsX120, w ∈ wsX12_doneIn := fun _ h => List.mem_cons_of_mem _ (List.mem_append_right _ h)
set_option maxHeartbeats 4000000 in
set_option maxRecDepth 100000 in
theorem c_X12_doneIn (l : Launch) (D : va_G) (cI cZ cT : ClassId) (A0 : Nat → Nat) (ss tp fk fp ap sp tk vl ac tr : Int32) (la ma it sr bt nw dr pa im kp tc : Nat → Int32) (r : Nat) (kd did nt : Int32) (d n : Nat) (hr_ : r ≤ 5) (hd : d ≤ 60) (hW : TK nw n) : Met l yX12_doneIn wsX12_doneIn ({ frames := 3, cells := 0, slots := 0, locals := 67 }) (pR D cI cZ cT [.ref (A0 0), .int (nI (r)), .int kd, .int did, .int nt, .int (nI (d))] (wM cI cZ A0 ss tp fk fp ap sp tk vl ac tr la ma it sr bt nw dr pa im kp tc)) (QcRead (goF (nw 2) kd nt (min d (tn (nw (4 + 4 * r + 3)))) did)) 0 0 (fun _ => False) := by
  refine Met.ofW (cc := cX12_doneIn) (maxL := 9) (ret := (some .int)) (by decide) rfl ?_
  intro p e s m args below meth c s₁ B hml hv
  obtain ⟨rfl, hP, hK⟩ := hv
  have hx := B.exec
  have hb := B.bytes
  have hr := B.returns
  have hts := atoms_spec (ws := wsX12_doneIn) B.pre
  have hown : s.vm.findClass RX12 = some m.cls := findClass_of_methodNamed B.named
  have hlocks := B.notSynchronized
  have hl := lv_entry ([.ref (A0 0), .int (nI (r)), .int kd, .int did, .int nt, .int (nI (d))]) (n := 9) (Nat.le_of_ble_eq_true rfl)
  rw [lg_entry_eq]
  generalize (lg_sl ([.ref (A0 0), .int (nI (r)), .int kd, .int did, .int nt, .int (nI (d))]) ++ List.replicate (9 - (lg_sl ([.ref (A0 0), .int (nI (r)), .int kd, .int did, .int nt, .int (nI (d))])).length) Slot.unset).toArray = ls at hl ⊢
  have hl : lv_has ls 9 [(0, .ref (A0 0)), (1, .int (nI (r))), (2, .int kd), (3, .int did), (4, .int nt), (5, .int (nI (d)))] := hl
  obtain ⟨dn, hdn60, hdn⟩ := hW.2.2 r hr_
  refine lv_aload_n hx hb dX12_doneIn_0 rfl (lv_at hl 0 rfl) ?_
  refine va_get (D := D) (ci := 11) (v := .ref (A0 6)) (C := RX12) (T := TX12) (N := 21) hx hb hts u_X12_doneIn_X12 hown hK.1 hP 0 rfl rfl 13 (by decide) (hts (.fieldLink RX12 25 "NoticeWeekModel" "now" "[I") (List.mem_of_getElem? (i := 1) rfl)) (fun _ h9 => h9) rfl dX12_doneIn_1 ?_
  refine lv_iconst (v := (nI 4)) hx hb dX12_doneIn_4 (by decide) ?_
  refine lv_iconst (v := (nI 4)) hx hb dX12_doneIn_5 (by decide) ?_
  refine lv_iload_n hx hb dX12_doneIn_6 rfl (lv_at hl 1 rfl) ?_
  refine b_mul hx hb dX12_doneIn_7 ?_
  refine b_add hx hb dX12_doneIn_8 ?_
  refine lv_iconst (v := (nI 3)) hx hb dX12_doneIn_9 (by decide) ?_
  refine b_add hx hb dX12_doneIn_10 ?_
  refine b_ald hx hb hK hP 6 rfl (by omega) (by decide) dX12_doneIn_11 ?_
  rw [hdn]
  refine lv_istore (lv' := [(6, .int (nI (dn))), (0, .ref (A0 0)), (1, .int (nI (r))), (2, .int kd), (3, .int did), (4, .int nt), (5, .int (nI (d)))]) hx hb dX12_doneIn_12 hl (by decide) rfl (fun ls hl => ?_)
  refine lv_iload_n hx hb dX12_doneIn_14 rfl (lv_at hl 4 rfl) ?_
  refine lv_istore (lv' := [(7, .int did), (6, .int (nI (dn))), (0, .ref (A0 0)), (1, .int (nI (r))), (2, .int kd), (3, .int did), (4, .int nt), (5, .int (nI (d)))]) hx hb dX12_doneIn_15 hl (by decide) rfl (fun ls hl => ?_)
  refine lv_iconst (v := (nI 0)) hx hb dX12_doneIn_17 (by decide) ?_
  refine lv_istore (lv' := [(8, .int (nI 0)), (7, .int did), (6, .int (nI (dn))), (0, .ref (A0 0)), (1, .int (nI (r))), (2, .int kd), (3, .int did), (4, .int nt), (5, .int (nI (d)))]) hx hb dX12_doneIn_18 hl (by decide) rfl (fun ls hl => ?_)
  refine b_loopR (N := min d dn) (I := fun k ls => lv_has ls 9 [(8, .int (nI (k))), (7, .int (goF (nw 2) kd nt k did)), (6, .int (nI (dn))), (0, .ref (A0 0)), (1, .int (nI (r))), (2, .int kd), (4, .int nt), (5, .int (nI (d)))]) (fun k hk ih1 ls hI => ?_) 0 (by omega) (lv_sub hl [0, 1, 2, 3, 4, 5, 7, 8] rfl)
  have hl := hI
  have hl : lv_has ls 9 [(8, .int (nI (k))), (7, .int (goF (nw 2) kd nt k did)), (6, .int (nI (dn))), (0, .ref (A0 0)), (1, .int (nI (r))), (2, .int kd), (4, .int nt), (5, .int (nI (d)))] := hl
  refine lv_iload hx hb dX12_doneIn_20 (lv_at hl 0 rfl) ?_
  refine lv_iload hx hb dX12_doneIn_22 (lv_at hl 7 rfl) ?_
  refine b_ge (tgt := 62) hx hb (by omega) (by omega) dX12_doneIn_24 (by decide) (fun c2 => ?_) (fun c2 => ?_)
  · refine lv_iload hx hb dX12_doneIn_62 (lv_at hl 1 rfl) ?_
    exact b_ret hx hb hr (by rw [tn_nI hdn60, show min d dn = k by omega]) dX12_doneIn_64 hlocks
  · refine lv_iload hx hb dX12_doneIn_27 (lv_at hl 0 rfl) ?_
    refine lv_iload hx hb dX12_doneIn_29 (lv_at hl 2 rfl) ?_
    refine b_ge (tgt := 62) hx hb (by omega) (by omega) dX12_doneIn_31 (by decide) (fun c3 => ?_) (fun c3 => ?_)
    · refine lv_iload hx hb dX12_doneIn_62 (lv_at hl 1 rfl) ?_
      exact b_ret hx hb hr (by rw [tn_nI hdn60, show min d dn = k by omega]) dX12_doneIn_64 hlocks
    · refine lv_iload hx hb dX12_doneIn_34 (lv_at hl 1 rfl) ?_
      refine lv_iload_n hx hb dX12_doneIn_36 rfl (lv_at hl 5 rfl) ?_
      refine lv_iload hx hb dX12_doneIn_37 (lv_at hl 1 rfl) ?_
      refine lv_iload hx hb dX12_doneIn_39 (lv_at hl 6 rfl) ?_
      refine lv_aload_n hx hb dX12_doneIn_41 rfl (lv_at hl 3 rfl) ?_
      refine va_get (D := D) (ci := 11) (v := .ref (A0 6)) (C := RX12) (T := TX12) (N := 21) hx hb hts u_X12_doneIn_X12 hown hK.1 hP 0 rfl rfl 13 (by decide) (hts (.fieldLink RX12 25 "NoticeWeekModel" "now" "[I") (List.mem_of_getElem? (i := 1) rfl)) (fun _ h9 => h9) rfl dX12_doneIn_42 ?_
      refine lv_iconst (v := (nI 2)) hx hb dX12_doneIn_45 (by decide) ?_
      refine b_ald hx hb hK hP 6 rfl (by omega) (by decide) dX12_doneIn_46 ?_
      refine lv_iload hx hb dX12_doneIn_47 (lv_at hl 0 rfl) ?_
      refine lv_iadd hx hb dX12_doneIn_49 ?_
      refine b_call (va_runS (As := [.int kd, .int (goF (nw 2) kd nt k did), .int nt, .int ((nw 2) + (nI (k)))]) (rest := [.int (goF (nw 2) kd nt k did)]) ⟨hx, hb, hml, hown, hts⟩ (c_X12_does l D cI cZ cT kd (goF (nw 2) kd nt k did) nt ((nw 2) + (nI (k)))) (va_cwS 4 hts gX12_doneIn_X12_does rfl rfl rfl (by decide +kernel) ⟨(Nat.le_of_ble_eq_true rfl), (Nat.le_of_ble_eq_true rfl)⟩) (b_pS0 hK) rfl rfl hl.1 rfl (lv_room (Nat.le_of_ble_eq_true rfl)) dX12_doneIn_50 ⟨Nat.zero_le _, Nat.zero_le _⟩).run ?_
      refine lv_ior hx hb dX12_doneIn_53 ?_
      refine lv_topi (fun x4 ex4 => ?_)
      refine lv_istore (lv' := [(7, .int x4), (8, .int (nI (k))), (6, .int (nI (dn))), (0, .ref (A0 0)), (1, .int (nI (r))), (2, .int kd), (4, .int nt), (5, .int (nI (d)))]) hx hb dX12_doneIn_54 hl (by decide) rfl (fun ls hl => ?_)
      refine lv_iinc (v := (nI (k + 1))) (lv' := [(8, .int (nI (k + 1))), (7, .int x4), (6, .int (nI (dn))), (0, .ref (A0 0)), (1, .int (nI (r))), (2, .int kd), (4, .int nt), (5, .int (nI (d)))]) hx hb dX12_doneIn_56 hl (k := 1) rfl (nI_add _ _) (by decide) rfl (fun ls hl => ?_)
      refine lv_goto (tgt := 20) hx hb dX12_doneIn_59 (by decide) ?_
      try subst ex4
      exact ih1 (by omega) ls (lv_sub hl [0, 1, 2, 3, 4, 5, 6, 7] rfl)
theorem u_X12_deedsIn_X12 : ∀ w ∈ wsX120, w ∈ wsX12_deedsIn := fun _ h => List.mem_cons_of_mem _ (List.mem_append_right _ h)
set_option maxHeartbeats 4000000 in
set_option maxRecDepth 100000 in
theorem c_X12_deedsIn (l : Launch) (D : va_G) (cI cZ cT : ClassId) (A0 : Nat → Nat) (ss tp fk fp ap sp tk vl ac tr : Int32) (la ma it sr bt nw dr pa im kp tc : Nat → Int32) (r d n : Nat) (hr_ : r ≤ 5) (hd : d ≤ 60) (hW : TK nw n) : Met l yX12_deedsIn wsX12_deedsIn ({ frames := 4, cells := 0, slots := 0, locals := 95 }) (pR D cI cZ cT [.ref (A0 0), .int (nI (r)), .int (nI (d))] (wM cI cZ A0 ss tp fk fp ap sp tk vl ac tr la ma it sr bt nw dr pa im kp tc)) (QcRead (ddI nw r d)) 0 0 (fun _ => False) := by
  refine Met.ofW (cc := cX12_deedsIn) (maxL := 4) (ret := (some .int)) (by decide) rfl ?_
  intro p e s m args below meth c s₁ B hml hv
  obtain ⟨rfl, hP, hK⟩ := hv
  have hx := B.exec
  have hb := B.bytes
  have hr := B.returns
  have hts := atoms_spec (ws := wsX12_deedsIn) B.pre
  have hown : s.vm.findClass RX12 = some m.cls := findClass_of_methodNamed B.named
  have hlocks := B.notSynchronized
  have hl := lv_entry ([.ref (A0 0), .int (nI (r)), .int (nI (d))]) (n := 4) (Nat.le_of_ble_eq_true rfl)
  rw [lg_entry_eq]
  generalize (lg_sl ([.ref (A0 0), .int (nI (r)), .int (nI (d))]) ++ List.replicate (4 - (lg_sl ([.ref (A0 0), .int (nI (r)), .int (nI (d))])).length) Slot.unset).toArray = ls at hl ⊢
  have hl : lv_has ls 4 [(0, .ref (A0 0)), (1, .int (nI (r))), (2, .int (nI (d)))] := hl
  refine lv_iconst (v := (nI 4)) hx hb dX12_deedsIn_0 (by decide) ?_
  refine lv_iconst (v := (nI 4)) hx hb dX12_deedsIn_1 (by decide) ?_
  refine lv_iload_n hx hb dX12_deedsIn_2 rfl (lv_at hl 1 rfl) ?_
  refine b_mul hx hb dX12_deedsIn_3 ?_
  refine b_add hx hb dX12_deedsIn_4 ?_
  refine lv_istore_n (lv' := [(3, .int (nI (4 + (4 * r)))), (0, .ref (A0 0)), (1, .int (nI (r))), (2, .int (nI (d)))]) hx hb dX12_deedsIn_5 rfl hl (by decide) rfl (fun ls hl => ?_)
  refine lv_aload_n hx hb dX12_deedsIn_6 rfl (lv_at hl 1 rfl) ?_
  refine lv_iload_n hx hb dX12_deedsIn_7 rfl (lv_at hl 2 rfl) ?_
  refine lv_aload_n hx hb dX12_deedsIn_8 rfl (lv_at hl 1 rfl) ?_
  refine va_get (D := D) (ci := 11) (v := .ref (A0 6)) (C := RX12) (T := TX12) (N := 21) hx hb hts u_X12_deedsIn_X12 hown hK.1 hP 0 rfl rfl 13 (by decide) (hts (.fieldLink RX12 25 "NoticeWeekModel" "now" "[I") (List.mem_of_getElem? (i := 1) rfl)) (fun _ h9 => h9) rfl dX12_deedsIn_9 ?_
  refine lv_iload_n hx hb dX12_deedsIn_12 rfl (lv_at hl 0 rfl) ?_
  refine b_ald hx hb hK hP 6 rfl (by omega) (by decide) dX12_deedsIn_13 ?_
  refine lv_aload_n hx hb dX12_deedsIn_14 rfl (lv_at hl 1 rfl) ?_
  refine va_get (D := D) (ci := 11) (v := .ref (A0 6)) (C := RX12) (T := TX12) (N := 21) hx hb hts u_X12_deedsIn_X12 hown hK.1 hP 0 rfl rfl 13 (by decide) (hts (.fieldLink RX12 25 "NoticeWeekModel" "now" "[I") (List.mem_of_getElem? (i := 1) rfl)) (fun _ h9 => h9) rfl dX12_deedsIn_15 ?_
  refine lv_iload_n hx hb dX12_deedsIn_18 rfl (lv_at hl 0 rfl) ?_
  refine lv_iconst (v := (nI 1)) hx hb dX12_deedsIn_19 (by decide) ?_
  refine b_add hx hb dX12_deedsIn_20 ?_
  refine b_ald hx hb hK hP 6 rfl (by omega) (by decide) dX12_deedsIn_21 ?_
  refine lv_aload_n hx hb dX12_deedsIn_22 rfl (lv_at hl 1 rfl) ?_
  refine va_get (D := D) (ci := 11) (v := .ref (A0 6)) (C := RX12) (T := TX12) (N := 21) hx hb hts u_X12_deedsIn_X12 hown hK.1 hP 0 rfl rfl 13 (by decide) (hts (.fieldLink RX12 25 "NoticeWeekModel" "now" "[I") (List.mem_of_getElem? (i := 1) rfl)) (fun _ h9 => h9) rfl dX12_deedsIn_23 ?_
  refine lv_iload_n hx hb dX12_deedsIn_26 rfl (lv_at hl 0 rfl) ?_
  refine lv_iconst (v := (nI 2)) hx hb dX12_deedsIn_27 (by decide) ?_
  refine b_add hx hb dX12_deedsIn_28 ?_
  refine b_ald hx hb hK hP 6 rfl (by omega) (by decide) dX12_deedsIn_29 ?_
  refine lv_iload_n hx hb dX12_deedsIn_30 rfl (lv_at hl 3 rfl) ?_
  refine b_call (va_runV (As := [.int (nI (r)), .int (nw (4 + (4 * r))), .int (nw (4 + (4 * r) + 1)), .int (nw (4 + (4 * r) + 2)), .int (nI (d))]) (rest := []) ⟨hx, hb, hml, hown, hts⟩ (c_X12_doneIn l D cI cZ cT A0 ss tp fk fp ap sp tk vl ac tr la ma it sr bt nw dr pa im kp tc r (nw (4 + (4 * r))) (nw (4 + (4 * r) + 1)) (nw (4 + (4 * r) + 2)) d n hr_ hd hW) (cwV 5 hts gX12_deedsIn_X12_doneIn rfl rfl rfl (by decide +kernel) ⟨(Nat.le_of_ble_eq_true rfl), (Nat.le_of_ble_eq_true rfl)⟩) (b_pV hK hP [0, 1, 2, 3, 4, 5, 6, 7, 8, 9, 10, 11] rfl 0 rfl rfl) rfl rfl hl.1 rfl (lv_room (Nat.le_of_ble_eq_true rfl)) dX12_deedsIn_31 ⟨Nat.zero_le _, Nat.zero_le _⟩).run ?_
  exact b_ret hx hb hr rfl dX12_deedsIn_34 hlocks
theorem u_X12_lives_X12 : ∀ w ∈ wsX120, w ∈ wsX12_lives := fun _ h => List.mem_cons_of_mem _ (List.mem_append_right _ h)
set_option maxHeartbeats 4000000 in
set_option maxRecDepth 100000 in
theorem c_X12_lives (l : Launch) (D : va_G) (cI cZ cT : ClassId) (A0 : Nat → Nat) (ss tp fk fp ap sp tk vl ac tr : Int32) (la ma it sr bt nw dr pa im kp tc : Nat → Int32) (r : Nat) (hr_ : r ≤ 5) : Met l yX12_lives wsX12_lives ({ frames := 0, cells := 0, slots := 0, locals := 0 }) (pR D cI cZ cT [.ref (A0 0), .int (nI (r))] (wM cI cZ A0 ss tp fk fp ap sp tk vl ac tr la ma it sr bt nw dr pa im kp tc)) (QcRead (bI (lvs nw r))) 0 0 (fun _ => False) := by
  refine Met.ofW (cc := cX12_lives) (maxL := 2) (ret := (some .boolean)) (by decide) rfl ?_
  intro p e s m args below meth c s₁ B hml hv
  obtain ⟨rfl, hP, hK⟩ := hv
  have hx := B.exec
  have hb := B.bytes
  have hr := B.returns
  have hts := atoms_spec (ws := wsX12_lives) B.pre
  have hown : s.vm.findClass RX12 = some m.cls := findClass_of_methodNamed B.named
  have hlocks := B.notSynchronized
  have hl := lv_entry ([.ref (A0 0), .int (nI (r))]) (n := 2) (Nat.le_of_ble_eq_true rfl)
  rw [lg_entry_eq]
  generalize (lg_sl ([.ref (A0 0), .int (nI (r))]) ++ List.replicate (2 - (lg_sl ([.ref (A0 0), .int (nI (r))])).length) Slot.unset).toArray = ls at hl ⊢
  have hl : lv_has ls 2 [(0, .ref (A0 0)), (1, .int (nI (r)))] := hl
  refine lv_aload_n hx hb dX12_lives_0 rfl (lv_at hl 0 rfl) ?_
  refine va_get (D := D) (ci := 11) (v := .ref (A0 6)) (C := RX12) (T := TX12) (N := 21) hx hb hts u_X12_lives_X12 hown hK.1 hP 0 rfl rfl 13 (by decide) (hts (.fieldLink RX12 25 "NoticeWeekModel" "now" "[I") (List.mem_of_getElem? (i := 1) rfl)) (fun _ h9 => h9) rfl dX12_lives_1 ?_
  refine lv_iconst (v := (nI 4)) hx hb dX12_lives_4 (by decide) ?_
  refine lv_iconst (v := (nI 4)) hx hb dX12_lives_5 (by decide) ?_
  refine lv_iload_n hx hb dX12_lives_6 rfl (lv_at hl 1 rfl) ?_
  refine b_mul hx hb dX12_lives_7 ?_
  refine b_add hx hb dX12_lives_8 ?_
  refine lv_iconst (v := (nI 3)) hx hb dX12_lives_9 (by decide) ?_
  refine b_add hx hb dX12_lives_10 ?_
  refine b_ald hx hb hK hP 6 rfl (by omega) (by decide) dX12_lives_11 ?_
  refine lv_if_le (tgt := 19) hx hb dX12_lives_12 (by decide) (fun c1 => ?_) (fun c1 => ?_)
  · refine lv_iconst (v := 0) hx hb dX12_lives_19 (by decide) ?_
    exact b_zret hx hb hr (by first | with_reducible rfl | (simp only [bI, eq_true c1, not_true_eq_false, not_false_eq_true, ite_true, ite_false, if_true, if_false, and_self, and_true, true_and, false_and, and_false, or_true, true_or, or_false, false_or]; done) | (simp [bI, eq_true c1]; done) | omega) dX12_lives_20 hlocks
  · refine lv_iconst (v := 1) hx hb dX12_lives_15 (by decide) ?_
    refine lv_goto (tgt := 20) hx hb dX12_lives_16 (by decide) ?_
    exact b_zret hx hb hr (by first | with_reducible rfl | (simp only [bI, eq_false c1, not_true_eq_false, not_false_eq_true, ite_true, ite_false, if_true, if_false, and_self, and_true, true_and, false_and, and_false, or_true, true_or, or_false, false_or]; done) | (simp [bI, eq_false c1]; done) | omega) dX12_lives_20 hlocks
theorem u_X12_falseIn_X12 : ∀ w ∈ wsX120, w ∈ wsX12_falseIn := fun _ h => List.mem_cons_of_mem _ (List.mem_append_right _ h)
set_option maxHeartbeats 4000000 in
set_option maxRecDepth 100000 in
theorem c_X12_falseIn (l : Launch) (D : va_G) (cI cZ cT : ClassId) (A0 : Nat → Nat) (ss tp fk fp ap sp tk vl ac tr : Int32) (la ma it sr bt nw dr pa im kp tc : Nat → Int32) (r d n : Nat) (hr_ : r ≤ 5) (hd : d ≤ 60) (hW : TK nw n) : Met l yX12_falseIn wsX12_falseIn ({ frames := 5, cells := 0, slots := 0, locals := 118 }) (pR D cI cZ cT [.ref (A0 0), .int (nI (r)), .int (nI (d))] (wM cI cZ A0 ss tp fk fp ap sp tk vl ac tr la ma it sr bt nw dr pa im kp tc)) (QcRead (fsI nw r d)) 0 0 (fun _ => False) := by
  refine Met.ofW (cc := cX12_falseIn) (maxL := 3) (ret := (some .int)) (by decide) rfl ?_
  intro p e s m args below meth c s₁ B hml hv
  obtain ⟨rfl, hP, hK⟩ := hv
  have hx := B.exec
  have hb := B.bytes
  have hr := B.returns
  have hts := atoms_spec (ws := wsX12_falseIn) B.pre
  have hown : s.vm.findClass RX12 = some m.cls := findClass_of_methodNamed B.named
  have hlocks := B.notSynchronized
  have hl := lv_entry ([.ref (A0 0), .int (nI (r)), .int (nI (d))]) (n := 3) (Nat.le_of_ble_eq_true rfl)
  rw [lg_entry_eq]
  generalize (lg_sl ([.ref (A0 0), .int (nI (r)), .int (nI (d))]) ++ List.replicate (3 - (lg_sl ([.ref (A0 0), .int (nI (r)), .int (nI (d))])).length) Slot.unset).toArray = ls at hl ⊢
  have hl : lv_has ls 3 [(0, .ref (A0 0)), (1, .int (nI (r))), (2, .int (nI (d)))] := hl
  refine lv_aload_n hx hb dX12_falseIn_0 rfl (lv_at hl 0 rfl) ?_
  refine lv_iload_n hx hb dX12_falseIn_1 rfl (lv_at hl 1 rfl) ?_
  refine lv_iload_n hx hb dX12_falseIn_2 rfl (lv_at hl 2 rfl) ?_
  refine b_call (va_runV (As := [.int (nI (r)), .int (nI (d))]) (rest := []) ⟨hx, hb, hml, hown, hts⟩ (c_X12_deedsIn l D cI cZ cT A0 ss tp fk fp ap sp tk vl ac tr la ma it sr bt nw dr pa im kp tc r d n hr_ hd hW) (cwV 2 hts gX12_falseIn_X12_deedsIn rfl rfl rfl (by decide +kernel) ⟨(Nat.le_of_ble_eq_true rfl), (Nat.le_of_ble_eq_true rfl)⟩) (b_pV hK hP [0, 1, 2, 3, 4, 5, 6, 7, 8, 9, 10, 11] rfl 0 rfl rfl) rfl rfl hl.1 rfl (lv_room (Nat.le_of_ble_eq_true rfl)) dX12_falseIn_3 ⟨Nat.zero_le _, Nat.zero_le _⟩).run ?_
  refine lv_aload_n hx hb dX12_falseIn_6 rfl (lv_at hl 0 rfl) ?_
  refine va_get (D := D) (ci := 11) (v := .ref (A0 6)) (C := RX12) (T := TX12) (N := 21) hx hb hts u_X12_falseIn_X12 hown hK.1 hP 0 rfl rfl 13 (by decide) (hts (.fieldLink RX12 25 "NoticeWeekModel" "now" "[I") (List.mem_of_getElem? (i := 1) rfl)) (fun _ h9 => h9) rfl dX12_falseIn_7 ?_
  refine lv_iconst (v := (nI 4)) hx hb dX12_falseIn_10 (by decide) ?_
  refine lv_iconst (v := (nI 4)) hx hb dX12_falseIn_11 (by decide) ?_
  refine lv_iload_n hx hb dX12_falseIn_12 rfl (lv_at hl 1 rfl) ?_
  refine b_mul hx hb dX12_falseIn_13 ?_
  refine b_add hx hb dX12_falseIn_14 ?_
  refine lv_iconst (v := (nI 2)) hx hb dX12_falseIn_15 (by decide) ?_
  refine b_add hx hb dX12_falseIn_16 ?_
  refine b_ald hx hb hK hP 6 rfl (by omega) (by decide) dX12_falseIn_17 ?_
  refine lv_ixor hx hb dX12_falseIn_18 ?_
  refine b_call (va_runS (As := [.int ((ddI nw r d) ^^^ (nw (4 + (4 * r) + 2)))]) (rest := []) ⟨hx, hb, hml, hown, hts⟩ (c_X12_ones l D cI cZ cT ((ddI nw r d) ^^^ (nw (4 + (4 * r) + 2)))) (va_cwS 1 hts gX12_falseIn_X12_ones rfl rfl rfl (by decide +kernel) ⟨(Nat.le_of_ble_eq_true rfl), (Nat.le_of_ble_eq_true rfl)⟩) (b_pS0 hK) rfl rfl hl.1 rfl (lv_room (Nat.le_of_ble_eq_true rfl)) dX12_falseIn_19 ⟨Nat.zero_le _, Nat.zero_le _⟩).run ?_
  exact b_ret hx hb hr rfl dX12_falseIn_22 hlocks
theorem u_X12_notes_X12 : ∀ w ∈ wsX120, w ∈ wsX12_notes := fun _ h => List.mem_cons_of_mem _ (List.mem_append_right _ h)
set_option maxHeartbeats 4000000 in
set_option maxRecDepth 100000 in
theorem c_X12_notes (l : Launch) (D : va_G) (cI cZ cT : ClassId) (A0 : Nat → Nat) (ss tp fk fp ap sp tk vl : Int32) (nc : Nat) (tr : Int32) (la ma it sr bt nw dr pa im kp tc : Nat → Int32) (hnc : nc ≤ 24) : Met l yX12_notes wsX12_notes ({ frames := 1, cells := 0, slots := 0, locals := 24 }) (pM D cI cZ cT [.ref (A0 0)] (wM cI cZ A0 ss tp fk fp ap sp tk vl (nI nc) tr la ma it sr bt nw dr pa im kp tc)) (qM D none (wM cI cZ A0 ss tp fk fp ap sp tk vl (nI (m_notes nc nw pa).1) tr la ma it sr bt nw dr ((m_notes nc nw pa).2) im kp tc) (adr (wM cI cZ A0 ss tp fk fp ap sp tk vl (nI nc) tr la ma it sr bt nw dr pa im kp tc))) 0 0 (adr (wM cI cZ A0 ss tp fk fp ap sp tk vl (nI nc) tr la ma it sr bt nw dr pa im kp tc)) := by
  refine Met.ofW (cc := cX12_notes) (maxL := 2) (ret := none) (by decide) rfl ?_
  intro p e s m args below meth c s₁ B hml hv
  obtain ⟨rfl, hP, hD0, hK⟩ := hv
  have hx := B.exec
  have hb := B.bytes
  have hr := B.returns
  have hts := atoms_spec (ws := wsX12_notes) B.pre
  have hown : s.vm.findClass RX12 = some m.cls := findClass_of_methodNamed B.named
  have hlocks := B.notSynchronized
  have hD := hD0.toAdr
  have hS : va_S (adr (wM cI cZ A0 ss tp fk fp ap sp tk vl (nI nc) tr la ma it sr bt nw dr pa im kp tc)) s.heap s.heap [] := va_S.rf
  generalize adr (wM cI cZ A0 ss tp fk fp ap sp tk vl (nI nc) tr la ma it sr bt nw dr pa im kp tc) = A at hD hS ⊢
  have hl := lv_entry ([.ref (A0 0)]) (n := 2) (Nat.le_of_ble_eq_true rfl)
  rw [lg_entry_eq]
  generalize (lg_sl ([.ref (A0 0)]) ++ List.replicate (2 - (lg_sl ([.ref (A0 0)])).length) Slot.unset).toArray = ls at hl ⊢
  have hl : lv_has ls 2 [(0, .ref (A0 0))] := hl
  refine lv_aload_n hx hb dX12_notes_0 rfl (lv_at hl 0 rfl) ?_
  refine va_get (D := D) (ci := 11) (v := .int (nI (nc))) (C := RX12) (T := TX12) (N := 21) hx hb hts u_X12_notes_X12 hown hK.1 hP 0 rfl rfl 16 (by decide) (hts (.fieldLink RX12 129 "NoticeWeekModel" "acts" "I") (List.mem_of_getElem? (i := 1) rfl)) (fun _ h9 => h9) rfl dX12_notes_1 ?_
  refine lv_bipush (v := (nI 24)) hx hb dX12_notes_4 (by decide) ?_
  refine b_ne (tgt := 49) hx hb (by omega) (by omega) dX12_notes_6 (by decide) (fun c1 => ?_) (fun c1 => ?_)
  · refine lv_aload_n hx hb dX12_notes_49 rfl (lv_at hl 0 rfl) ?_
    refine va_get (D := D) (ci := 11) (v := .ref (A0 6)) (C := RX12) (T := TX12) (N := 21) hx hb hts u_X12_notes_X12 hown hK.1 hP 0 rfl rfl 13 (by decide) (hts (.fieldLink RX12 25 "NoticeWeekModel" "now" "[I") (List.mem_of_getElem? (i := 3) rfl)) (fun _ h9 => h9) rfl dX12_notes_50 ?_
    refine lv_iconst (v := (nI 0)) hx hb dX12_notes_53 (by decide) ?_
    refine lv_aload_n hx hb dX12_notes_54 rfl (lv_at hl 0 rfl) ?_
    refine va_get (D := D) (ci := 11) (v := .ref (A0 8)) (C := RX12) (T := TX12) (N := 21) hx hb hts u_X12_notes_X12 hown hK.1 hP 0 rfl rfl 15 (by decide) (hts (.fieldLink RX12 31 "NoticeWeekModel" "past" "[I") (List.mem_of_getElem? (i := 2) rfl)) (fun _ h9 => h9) rfl dX12_notes_55 ?_
    refine lv_bipush (v := (nI 28)) hx hb dX12_notes_58 (by decide) ?_
    refine lv_aload_n hx hb dX12_notes_60 rfl (lv_at hl 0 rfl) ?_
    refine va_get (D := D) (ci := 11) (v := .int (nI (nc))) (C := RX12) (T := TX12) (N := 21) hx hb hts u_X12_notes_X12 hown hK.1 hP 0 rfl rfl 16 (by decide) (hts (.fieldLink RX12 129 "NoticeWeekModel" "acts" "I") (List.mem_of_getElem? (i := 1) rfl)) (fun _ h9 => h9) rfl dX12_notes_61 ?_
    refine b_mul hx hb dX12_notes_64 ?_
    refine b_callM [0, 1, 2, 3, 4, 5, 6, 7, 8, 9, 10, 11] (va_runS (As := [.ref (A0 6), .int (nI 0), .ref (A0 8), .int (nI (28 * nc))]) (rest := []) ⟨hx, hb, hml, hown, hts⟩ (c_X12_copies_np l D cI cZ cT A0 ss tp fk fp ap sp tk vl (nI nc) tr la ma it sr bt nw dr pa im kp tc 0 (28 * nc) (by omega) (by omega)) (va_cwS 4 hts gX12_notes_X12_copies rfl rfl rfl (by decide +kernel) ⟨(Nat.le_of_ble_eq_true rfl), (Nat.le_of_ble_eq_true rfl)⟩) (b_pSM hK hP hD [0, 1, 2, 3, 4, 5, 6, 7, 8, 9, 10, 11] (by decide) rfl rfl) rfl rfl hl.1 rfl (lv_room (Nat.le_of_ble_eq_true rfl)) dX12_notes_65 ⟨Nat.zero_le _, Nat.zero_le _⟩).run hP hD hS rfl (Nat.le_of_ble_eq_true rfl) (fun H locs hP hS => ?_)
    have hP : va_P D vwCl (wM cI cZ A0 ss tp fk fp ap sp tk vl (nI nc) tr la ma it sr bt nw dr (cpy nw 0 pa (28 * nc) 28) im kp tc) H := hP
    have hD : va_D A (wM cI cZ A0 ss tp fk fp ap sp tk vl (nI nc) tr la ma it sr bt nw dr (cpy nw 0 pa (28 * nc) 28) im kp tc) := hD.sameA [(A0 0), (A0 1), (A0 2), (A0 3), (A0 4), (A0 5), (A0 6), (A0 7), (A0 8), (A0 9), (A0 10), (A0 11)] rfl rfl
    refine lv_aload_n hx hb dX12_notes_68 rfl (lv_at hl 0 rfl) ?_
    refine lv_dup hx hb dX12_notes_69 rfl ?_
    refine va_get (D := D) (ci := 11) (v := .int (nI (nc))) (C := RX12) (T := TX12) (N := 21) hx hb hts u_X12_notes_X12 hown hK.1 hP 0 rfl rfl 16 (by decide) (hts (.fieldLink RX12 129 "NoticeWeekModel" "acts" "I") (List.mem_of_getElem? (i := 1) rfl)) (fun _ h9 => h9) rfl dX12_notes_70 ?_
    refine lv_iconst (v := (nI 1)) hx hb dX12_notes_73 (by decide) ?_
    refine b_add hx hb dX12_notes_74 ?_
    refine b_put (C := RX12) (T := TX12) (N := 21) hx hb hts u_X12_notes_X12 tyX12 tyX12_ok nmX12 hown hK hP hD hS 0 rfl rfl 16 (by decide) (hts (.fieldLink RX12 129 "NoticeWeekModel" "acts" "I") (List.mem_of_getElem? (i := 1) rfl)) rfl (by decide +kernel) (Nat.le_of_ble_eq_true rfl) dX12_notes_75 (fun H locs hP hS => ?_)
    have hP : va_P D vwCl (wM cI cZ A0 ss tp fk fp ap sp tk vl (nI (nc + 1)) tr la ma it sr bt nw dr (cpy nw 0 pa (28 * nc) 28) im kp tc) H := hP
    have hD : va_D A (wM cI cZ A0 ss tp fk fp ap sp tk vl (nI (nc + 1)) tr la ma it sr bt nw dr (cpy nw 0 pa (28 * nc) 28) im kp tc) := hD.sameA [(A0 0), (A0 1), (A0 2), (A0 3), (A0 4), (A0 5), (A0 6), (A0 7), (A0 8), (A0 9), (A0 10), (A0 11)] rfl rfl
    have E : m_notes nc nw pa = (nc + 1, (cpy nw 0 pa (28 * nc) 28)) := (by first | (simp only [m_notes, eq_false c1, bI, not_true_eq_false, not_false_eq_true, ite_true, ite_false, if_true, if_false, and_self, and_true, true_and, false_and, and_false, or_true, true_or, or_false, false_or, eq_self]; done) | (simp [m_notes, eq_false c1, bI]; done))
    rw [E]
    exact b_vretM hx hb hr hP hS dX12_notes_78 hlocks
  · refine lv_iconst (v := (nI 0)) hx hb dX12_notes_9 (by decide) ?_
    refine lv_istore_n (lv' := [(1, .int (nI 0)), (0, .ref (A0 0))]) hx hb dX12_notes_10 rfl hl (by decide) rfl (fun ls hl => ?_)
    refine b_loopM (N := 644) (I := fun k ls H locs => lv_has ls 2 [(1, .int (nI (k))), (0, .ref (A0 0))] ∧ va_P D vwCl (wM cI cZ A0 ss tp fk fp ap sp tk vl (nI nc) tr la ma it sr bt nw dr (itr (fun j f => upd f j (f (j + 28))) k pa) im kp tc) H ∧ va_S A s.heap H locs) (fun k hk ih2 ls H locs hI => ?_) 0 (by omega) ⟨lv_sub hl [0, 1] rfl, hP, hS⟩
    obtain ⟨hl, hP, hS⟩ := hI
    have hl : lv_has ls 2 [(1, .int (nI (k))), (0, .ref (A0 0))] := hl
    have hP : va_P D vwCl (wM cI cZ A0 ss tp fk fp ap sp tk vl (nI nc) tr la ma it sr bt nw dr (itr (fun j f => upd f j (f (j + 28))) k pa) im kp tc) H := hP
    have hD : va_D A (wM cI cZ A0 ss tp fk fp ap sp tk vl (nI nc) tr la ma it sr bt nw dr (itr (fun j f => upd f j (f (j + 28))) k pa) im kp tc) := hD.sameA [(A0 0), (A0 1), (A0 2), (A0 3), (A0 4), (A0 5), (A0 6), (A0 7), (A0 8), (A0 9), (A0 10), (A0 11)] rfl rfl
    refine lv_iload_n hx hb dX12_notes_11 rfl (lv_at hl 0 rfl) ?_
    refine lv_sipush (v := (nI 644)) hx hb dX12_notes_12 (by decide) ?_
    refine b_ge (tgt := 39) hx hb (by omega) (by omega) dX12_notes_15 (by decide) (fun c3 => ?_) (fun c3 => ?_)
    · have h_k : 644 = k := by omega
      subst h_k
      refine lv_aload_n hx hb dX12_notes_39 rfl (lv_at hl 1 rfl) ?_
      refine lv_dup hx hb dX12_notes_40 rfl ?_
      refine va_get (D := D) (ci := 11) (v := .int (nI (nc))) (C := RX12) (T := TX12) (N := 21) hx hb hts u_X12_notes_X12 hown hK.1 hP 0 rfl rfl 16 (by decide) (hts (.fieldLink RX12 129 "NoticeWeekModel" "acts" "I") (List.mem_of_getElem? (i := 1) rfl)) (fun _ h9 => h9) rfl dX12_notes_41 ?_
      refine lv_iconst (v := (nI 1)) hx hb dX12_notes_44 (by decide) ?_
      refine b_sub hx hb (by omega) dX12_notes_45 ?_
      refine b_put (C := RX12) (T := TX12) (N := 21) hx hb hts u_X12_notes_X12 tyX12 tyX12_ok nmX12 hown hK hP hD hS 0 rfl rfl 16 (by decide) (hts (.fieldLink RX12 129 "NoticeWeekModel" "acts" "I") (List.mem_of_getElem? (i := 1) rfl)) rfl (by decide +kernel) (Nat.le_of_ble_eq_true rfl) dX12_notes_46 (fun H locs hP hS => ?_)
      have hP : va_P D vwCl (wM cI cZ A0 ss tp fk fp ap sp tk vl (nI (nc - 1)) tr la ma it sr bt nw dr (itr (fun j f => upd f j (f (j + 28))) 644 pa) im kp tc) H := hP
      have hD : va_D A (wM cI cZ A0 ss tp fk fp ap sp tk vl (nI (nc - 1)) tr la ma it sr bt nw dr (itr (fun j f => upd f j (f (j + 28))) 644 pa) im kp tc) := hD.sameA [(A0 0), (A0 1), (A0 2), (A0 3), (A0 4), (A0 5), (A0 6), (A0 7), (A0 8), (A0 9), (A0 10), (A0 11)] rfl rfl
      refine lv_aload_n hx hb dX12_notes_49 rfl (lv_at hl 1 rfl) ?_
      refine va_get (D := D) (ci := 11) (v := .ref (A0 6)) (C := RX12) (T := TX12) (N := 21) hx hb hts u_X12_notes_X12 hown hK.1 hP 0 rfl rfl 13 (by decide) (hts (.fieldLink RX12 25 "NoticeWeekModel" "now" "[I") (List.mem_of_getElem? (i := 3) rfl)) (fun _ h9 => h9) rfl dX12_notes_50 ?_
      refine lv_iconst (v := (nI 0)) hx hb dX12_notes_53 (by decide) ?_
      refine lv_aload_n hx hb dX12_notes_54 rfl (lv_at hl 1 rfl) ?_
      refine va_get (D := D) (ci := 11) (v := .ref (A0 8)) (C := RX12) (T := TX12) (N := 21) hx hb hts u_X12_notes_X12 hown hK.1 hP 0 rfl rfl 15 (by decide) (hts (.fieldLink RX12 31 "NoticeWeekModel" "past" "[I") (List.mem_of_getElem? (i := 2) rfl)) (fun _ h9 => h9) rfl dX12_notes_55 ?_
      refine lv_bipush (v := (nI 28)) hx hb dX12_notes_58 (by decide) ?_
      refine lv_aload_n hx hb dX12_notes_60 rfl (lv_at hl 1 rfl) ?_
      refine va_get (D := D) (ci := 11) (v := .int (nI (nc - 1))) (C := RX12) (T := TX12) (N := 21) hx hb hts u_X12_notes_X12 hown hK.1 hP 0 rfl rfl 16 (by decide) (hts (.fieldLink RX12 129 "NoticeWeekModel" "acts" "I") (List.mem_of_getElem? (i := 1) rfl)) (fun _ h9 => h9) rfl dX12_notes_61 ?_
      refine b_mul hx hb dX12_notes_64 ?_
      refine b_callM [0, 1, 2, 3, 4, 5, 6, 7, 8, 9, 10, 11] (va_runS (As := [.ref (A0 6), .int (nI 0), .ref (A0 8), .int (nI (28 * (nc - 1)))]) (rest := []) ⟨hx, hb, hml, hown, hts⟩ (c_X12_copies_np l D cI cZ cT A0 ss tp fk fp ap sp tk vl (nI (nc - 1)) tr la ma it sr bt nw dr (itr (fun j f => upd f j (f (j + 28))) 644 pa) im kp tc 0 (28 * (nc - 1)) (by omega) (by omega)) (va_cwS 4 hts gX12_notes_X12_copies rfl rfl rfl (by decide +kernel) ⟨(Nat.le_of_ble_eq_true rfl), (Nat.le_of_ble_eq_true rfl)⟩) (b_pSM hK hP hD [0, 1, 2, 3, 4, 5, 6, 7, 8, 9, 10, 11] (by decide) rfl rfl) rfl rfl hl.1 rfl (lv_room (Nat.le_of_ble_eq_true rfl)) dX12_notes_65 ⟨Nat.zero_le _, Nat.zero_le _⟩).run hP hD hS rfl (Nat.le_of_ble_eq_true rfl) (fun H locs hP hS => ?_)
      have hP : va_P D vwCl (wM cI cZ A0 ss tp fk fp ap sp tk vl (nI (nc - 1)) tr la ma it sr bt nw dr (cpy nw 0 (itr (fun j f => upd f j (f (j + 28))) 644 pa) (28 * (nc - 1)) 28) im kp tc) H := hP
      have hD : va_D A (wM cI cZ A0 ss tp fk fp ap sp tk vl (nI (nc - 1)) tr la ma it sr bt nw dr (cpy nw 0 (itr (fun j f => upd f j (f (j + 28))) 644 pa) (28 * (nc - 1)) 28) im kp tc) := hD.sameA [(A0 0), (A0 1), (A0 2), (A0 3), (A0 4), (A0 5), (A0 6), (A0 7), (A0 8), (A0 9), (A0 10), (A0 11)] rfl rfl
      refine lv_aload_n hx hb dX12_notes_68 rfl (lv_at hl 1 rfl) ?_
      refine lv_dup hx hb dX12_notes_69 rfl ?_
      refine va_get (D := D) (ci := 11) (v := .int (nI (nc - 1))) (C := RX12) (T := TX12) (N := 21) hx hb hts u_X12_notes_X12 hown hK.1 hP 0 rfl rfl 16 (by decide) (hts (.fieldLink RX12 129 "NoticeWeekModel" "acts" "I") (List.mem_of_getElem? (i := 1) rfl)) (fun _ h9 => h9) rfl dX12_notes_70 ?_
      refine lv_iconst (v := (nI 1)) hx hb dX12_notes_73 (by decide) ?_
      refine b_add hx hb dX12_notes_74 ?_
      refine b_put (C := RX12) (T := TX12) (N := 21) hx hb hts u_X12_notes_X12 tyX12 tyX12_ok nmX12 hown hK hP hD hS 0 rfl rfl 16 (by decide) (hts (.fieldLink RX12 129 "NoticeWeekModel" "acts" "I") (List.mem_of_getElem? (i := 1) rfl)) rfl (by decide +kernel) (Nat.le_of_ble_eq_true rfl) dX12_notes_75 (fun H locs hP hS => ?_)
      have hP : va_P D vwCl (wM cI cZ A0 ss tp fk fp ap sp tk vl (nI (nc - 1 + 1)) tr la ma it sr bt nw dr (cpy nw 0 (itr (fun j f => upd f j (f (j + 28))) 644 pa) (28 * (nc - 1)) 28) im kp tc) H := hP
      have hD : va_D A (wM cI cZ A0 ss tp fk fp ap sp tk vl (nI (nc - 1 + 1)) tr la ma it sr bt nw dr (cpy nw 0 (itr (fun j f => upd f j (f (j + 28))) 644 pa) (28 * (nc - 1)) 28) im kp tc) := hD.sameA [(A0 0), (A0 1), (A0 2), (A0 3), (A0 4), (A0 5), (A0 6), (A0 7), (A0 8), (A0 9), (A0 10), (A0 11)] rfl rfl
      have E : m_notes nc nw pa = (nc - 1 + 1, (cpy nw 0 (itr (fun j f => upd f j (f (j + 28))) 644 pa) (28 * (nc - 1)) 28)) := (by first | (simp only [m_notes, eq_true c1, eq_true c3, bI, not_true_eq_false, not_false_eq_true, ite_true, ite_false, if_true, if_false, and_self, and_true, true_and, false_and, and_false, or_true, true_or, or_false, false_or, eq_self]; done) | (simp [m_notes, eq_true c1, eq_true c3, bI]; done))
      rw [E]
      exact b_vretM hx hb hr hP hS dX12_notes_78 hlocks
    · refine lv_aload_n hx hb dX12_notes_18 rfl (lv_at hl 1 rfl) ?_
      refine va_get (D := D) (ci := 11) (v := .ref (A0 8)) (C := RX12) (T := TX12) (N := 21) hx hb hts u_X12_notes_X12 hown hK.1 hP 0 rfl rfl 15 (by decide) (hts (.fieldLink RX12 31 "NoticeWeekModel" "past" "[I") (List.mem_of_getElem? (i := 2) rfl)) (fun _ h9 => h9) rfl dX12_notes_19 ?_
      refine lv_iload_n hx hb dX12_notes_22 rfl (lv_at hl 0 rfl) ?_
      refine lv_aload_n hx hb dX12_notes_23 rfl (lv_at hl 1 rfl) ?_
      refine va_get (D := D) (ci := 11) (v := .ref (A0 8)) (C := RX12) (T := TX12) (N := 21) hx hb hts u_X12_notes_X12 hown hK.1 hP 0 rfl rfl 15 (by decide) (hts (.fieldLink RX12 31 "NoticeWeekModel" "past" "[I") (List.mem_of_getElem? (i := 2) rfl)) (fun _ h9 => h9) rfl dX12_notes_24 ?_
      refine lv_iload_n hx hb dX12_notes_27 rfl (lv_at hl 0 rfl) ?_
      refine lv_bipush (v := (nI 28)) hx hb dX12_notes_28 (by decide) ?_
      refine b_add hx hb dX12_notes_30 ?_
      refine b_ald hx hb hK hP 8 rfl (by omega) (by decide) dX12_notes_31 ?_
      refine b_ast hx hb hK hP hD hS 8 rfl (by omega) (by decide) dX12_notes_32 (fun H locs hP hS => ?_)
      have hP : va_P D vwCl (wM cI cZ A0 ss tp fk fp ap sp tk vl (nI nc) tr la ma it sr bt nw dr (upd (itr (fun j f => upd f j (f (j + 28))) k pa) k ((itr (fun j f => upd f j (f (j + 28))) k pa) (k + 28))) im kp tc) H := hP
      have hD : va_D A (wM cI cZ A0 ss tp fk fp ap sp tk vl (nI nc) tr la ma it sr bt nw dr (upd (itr (fun j f => upd f j (f (j + 28))) k pa) k ((itr (fun j f => upd f j (f (j + 28))) k pa) (k + 28))) im kp tc) := hD.sameA [(A0 0), (A0 1), (A0 2), (A0 3), (A0 4), (A0 5), (A0 6), (A0 7), (A0 8), (A0 9), (A0 10), (A0 11)] rfl rfl
      refine lv_iinc (v := (nI (k + 1))) (lv' := [(1, .int (nI (k + 1))), (0, .ref (A0 0))]) hx hb dX12_notes_33 hl (k := 0) rfl (nI_add _ _) (by decide) rfl (fun ls hl => ?_)
      refine lv_goto (tgt := 11) hx hb dX12_notes_36 (by decide) ?_
      exact ih2 (by omega) ls H locs ⟨lv_sub hl [0, 1] rfl, hP, hS⟩
theorem u_X12_living_X12 : ∀ w ∈ wsX120, w ∈ wsX12_living := fun _ h => List.mem_cons_of_mem _ (List.mem_append_right _ h)
set_option maxHeartbeats 4000000 in
set_option maxRecDepth 100000 in
theorem c_X12_living (l : Launch) (D : va_G) (cI cZ cT : ClassId) (A0 : Nat → Nat) (ss tp fk fp ap sp tk vl ac tr : Int32) (la ma it sr bt nw dr pa im kp tc : Nat → Int32) (n : Nat) (hW : TK nw n) : Met l yX12_living wsX12_living ({ frames := 1, cells := 0, slots := 0, locals := 21 }) (pR D cI cZ cT [.ref (A0 0)] (wM cI cZ A0 ss tp fk fp ap sp tk vl ac tr la ma it sr bt nw dr pa im kp tc)) (QcRead (lvI nw n)) 0 0 (fun _ => False) := by
  refine Met.ofW (cc := cX12_living) (maxL := 3) (ret := (some .int)) (by decide) rfl ?_
  intro p e s m args below meth c s₁ B hml hv
  obtain ⟨rfl, hP, hK⟩ := hv
  have hx := B.exec
  have hb := B.bytes
  have hr := B.returns
  have hts := atoms_spec (ws := wsX12_living) B.pre
  have hown : s.vm.findClass RX12 = some m.cls := findClass_of_methodNamed B.named
  have hlocks := B.notSynchronized
  have hl := lv_entry ([.ref (A0 0)]) (n := 3) (Nat.le_of_ble_eq_true rfl)
  rw [lg_entry_eq]
  generalize (lg_sl ([.ref (A0 0)]) ++ List.replicate (3 - (lg_sl ([.ref (A0 0)])).length) Slot.unset).toArray = ls at hl ⊢
  have hl : lv_has ls 3 [(0, .ref (A0 0))] := hl
  have hn6 := hW.1
  refine lv_iconst (v := 0) hx hb dX12_living_0 (by decide) ?_
  refine lv_istore_n (lv' := [(1, .int 0), (0, .ref (A0 0))]) hx hb dX12_living_1 rfl hl (by decide) rfl (fun ls hl => ?_)
  refine lv_iconst (v := (nI 0)) hx hb dX12_living_2 (by decide) ?_
  refine lv_istore_n (lv' := [(2, .int (nI 0)), (1, .int 0), (0, .ref (A0 0))]) hx hb dX12_living_3 rfl hl (by decide) rfl (fun ls hl => ?_)
  refine b_loopR (N := n) (I := fun k ls => lv_has ls 3 [(2, .int (nI (k))), (1, .int (lvI nw k)), (0, .ref (A0 0))]) (fun k hk ih1 ls hI => ?_) 0 (by omega) (lv_sub hl [0, 1, 2] rfl)
  have hl := hI
  have hl : lv_has ls 3 [(2, .int (nI (k))), (1, .int (lvI nw k)), (0, .ref (A0 0))] := hl
  refine lv_iload_n hx hb dX12_living_4 rfl (lv_at hl 0 rfl) ?_
  refine lv_aload_n hx hb dX12_living_5 rfl (lv_at hl 2 rfl) ?_
  refine va_get (D := D) (ci := 11) (v := .ref (A0 6)) (C := RX12) (T := TX12) (N := 21) hx hb hts u_X12_living_X12 hown hK.1 hP 0 rfl rfl 13 (by decide) (hts (.fieldLink RX12 25 "NoticeWeekModel" "now" "[I") (List.mem_of_getElem? (i := 1) rfl)) (fun _ h9 => h9) rfl dX12_living_6 ?_
  refine lv_iconst (v := (nI 3)) hx hb dX12_living_9 (by decide) ?_
  refine b_ald hx hb hK hP 6 rfl (by omega) (by decide) dX12_living_10 ?_
  rw [hW.2.1]
  refine b_ge (tgt := 38) hx hb (by omega) (by omega) dX12_living_11 (by decide) (fun c2 => ?_) (fun c2 => ?_)
  · refine lv_iload_n hx hb dX12_living_38 rfl (lv_at hl 1 rfl) ?_
    exact b_ret hx hb hr (by rw [show n = k by omega]) dX12_living_39 hlocks
  · refine lv_iload_n hx hb dX12_living_14 rfl (lv_at hl 1 rfl) ?_
    refine b_join (jpc := 30) (rest' := [.int (lvI nw k)]) (P := fun v : Int32 => v = ((if lvs nw k then 1 <<< (nI k &&& 31) else 0) : Int32)) (fun v3 ev3 => ?_) (fun K4 => ?_)
    · subst ev3
      refine lv_ior hx hb dX12_living_30 ?_
      refine lv_topi (fun x5 ex5 => ?_)
      refine lv_istore_n (lv' := [(1, .int x5), (2, .int (nI (k))), (0, .ref (A0 0))]) hx hb dX12_living_31 rfl hl (by decide) rfl (fun ls hl => ?_)
      refine lv_iinc (v := (nI (k + 1))) (lv' := [(2, .int (nI (k + 1))), (1, .int x5), (0, .ref (A0 0))]) hx hb dX12_living_32 hl (k := 1) rfl (nI_add _ _) (by decide) rfl (fun ls hl => ?_)
      refine lv_goto (tgt := 4) hx hb dX12_living_35 (by decide) ?_
      try subst ex5
      exact ih1 (by omega) ls (lv_sub hl [0, 1, 2] rfl)
    · refine lv_aload_n hx hb dX12_living_15 rfl (lv_at hl 2 rfl) ?_
      refine lv_iload_n hx hb dX12_living_16 rfl (lv_at hl 0 rfl) ?_
      refine b_call (va_runV (As := [.int (nI (k))]) (rest := [.int (lvI nw k)]) ⟨hx, hb, hml, hown, hts⟩ (c_X12_lives l D cI cZ cT A0 ss tp fk fp ap sp tk vl ac tr la ma it sr bt nw dr pa im kp tc k (by omega)) (cwV 1 hts gX12_living_X12_lives rfl rfl rfl (by decide +kernel) ⟨(Nat.le_of_ble_eq_true rfl), (Nat.le_of_ble_eq_true rfl)⟩) (b_pV hK hP [0, 1, 2, 3, 4, 5, 6, 7, 8, 9, 10, 11] rfl 0 rfl rfl) rfl rfl hl.1 rfl (lv_room (Nat.le_of_ble_eq_true rfl)) dX12_living_17 ⟨Nat.zero_le _, Nat.zero_le _⟩).run ?_
      refine b_ifeq (tgt := 29) hx hb dX12_living_20 (by decide) (fun c6 => ?_) (fun c6 => ?_)
      · refine lv_iconst (v := 0) hx hb dX12_living_29 (by decide) ?_
        exact K4 _ (by first | with_reducible rfl | (simp only [bI, eq_true c2, eq_false c6, not_true_eq_false, not_false_eq_true, ite_true, ite_false, if_true, if_false, and_self, and_true, true_and, false_and, and_false, or_true, true_or, or_false, false_or]; done) | (simp [bI, eq_true c2, eq_false c6]; done) | omega)
      · refine lv_iconst (v := 1) hx hb dX12_living_23 (by decide) ?_
        refine lv_iload_n hx hb dX12_living_24 rfl (lv_at hl 0 rfl) ?_
        refine lv_ishl hx hb dX12_living_25 ?_
        refine lv_goto (tgt := 30) hx hb dX12_living_26 (by decide) ?_
        exact K4 _ (by first | with_reducible rfl | (simp only [bI, eq_true c2, eq_true c6, not_true_eq_false, not_false_eq_true, ite_true, ite_false, if_true, if_false, and_self, and_true, true_and, false_and, and_false, or_true, true_or, or_false, false_or]; done) | (simp [bI, eq_true c2, eq_true c6]; done) | omega)
theorem u_X12_days_X12 : ∀ w ∈ wsX120, w ∈ wsX12_days := fun _ h => List.mem_cons_of_mem _ (List.mem_append_right _ h)
set_option maxHeartbeats 4000000 in
set_option maxRecDepth 100000 in
theorem c_X12_days (l : Launch) (D : va_G) (cI cZ cT : ClassId) (A0 : Nat → Nat) (ss tp fk fp ap sp tk vl : Int32) (nc : Nat) (tr : Int32) (la ma it sr bt nw dr pa im kp tc : Nat → Int32) (x : Int32) (n : Nat) (hW : TK nw n) (hnc : nc ≤ 24) : Met l yX12_days wsX12_days ({ frames := 5, cells := 0, slots := 0, locals := 118 }) (pM D cI cZ cT [.ref (A0 0), .int x] (wM cI cZ A0 ss tp fk fp ap sp tk vl (nI nc) tr la ma it sr bt nw dr pa im kp tc)) (qM D (some (.int ((m_days nw pa nc n x).1))) (wM cI cZ A0 ss tp fk fp ap sp tk vl (nI (m_days nw pa nc n x).2.1) tr la ma it sr bt ((m_days nw pa nc n x).2.2.2) dr ((m_days nw pa nc n x).2.2.1) im kp tc) (adr (wM cI cZ A0 ss tp fk fp ap sp tk vl (nI nc) tr la ma it sr bt nw dr pa im kp tc))) 0 0 (adr (wM cI cZ A0 ss tp fk fp ap sp tk vl (nI nc) tr la ma it sr bt nw dr pa im kp tc)) := by
  refine Met.ofW (cc := cX12_days) (maxL := 4) (ret := (some .int)) (by decide) rfl ?_
  intro p e s m args below meth c s₁ B hml hv
  obtain ⟨rfl, hP, hD0, hK⟩ := hv
  have hx := B.exec
  have hb := B.bytes
  have hr := B.returns
  have hts := atoms_spec (ws := wsX12_days) B.pre
  have hown : s.vm.findClass RX12 = some m.cls := findClass_of_methodNamed B.named
  have hlocks := B.notSynchronized
  have hD := hD0.toAdr
  have hS : va_S (adr (wM cI cZ A0 ss tp fk fp ap sp tk vl (nI nc) tr la ma it sr bt nw dr pa im kp tc)) s.heap s.heap [] := va_S.rf
  generalize adr (wM cI cZ A0 ss tp fk fp ap sp tk vl (nI nc) tr la ma it sr bt nw dr pa im kp tc) = A at hD hS ⊢
  have hl := lv_entry ([.ref (A0 0), .int x]) (n := 4) (Nat.le_of_ble_eq_true rfl)
  rw [lg_entry_eq]
  generalize (lg_sl ([.ref (A0 0), .int x]) ++ List.replicate (4 - (lg_sl ([.ref (A0 0), .int x])).length) Slot.unset).toArray = ls at hl ⊢
  have hl : lv_has ls 4 [(0, .ref (A0 0)), (1, .int x)] := hl
  have hn6 := hW.1
  refine lv_aload_n hx hb dX12_days_0 rfl (lv_at hl 0 rfl) ?_
  refine b_call (va_runV (As := []) (rest := []) ⟨hx, hb, hml, hown, hts⟩ (c_X12_isTown l D cI cZ cT A0 ss tp fk fp ap sp tk vl (nI nc) tr la ma it sr bt nw dr pa im kp tc) (cwV 0 hts gX12_days_X12_isTown rfl rfl rfl (by decide +kernel) ⟨(Nat.le_of_ble_eq_true rfl), (Nat.le_of_ble_eq_true rfl)⟩) (b_pV hK hP [0, 1, 2, 3, 4, 5, 6, 7, 8, 9, 10, 11] rfl 0 rfl rfl) rfl rfl hl.1 rfl (lv_room (Nat.le_of_ble_eq_true rfl)) dX12_days_1 ⟨Nat.zero_le _, Nat.zero_le _⟩).run ?_
  refine b_ifne (tgt := 10) hx hb dX12_days_4 (by decide) (fun c1 => ?_) (fun c1 => ?_)
  · refine lv_iload_n hx hb dX12_days_10 rfl (lv_at hl 1 rfl) ?_
    refine lv_iconst (v := 1) hx hb dX12_days_11 (by decide) ?_
    refine lv_bipush (v := 20) hx hb dX12_days_12 (by decide) ?_
    refine b_call (va_runS (As := [.int x, .int 1, .int 20]) (rest := []) ⟨hx, hb, hml, hown, hts⟩ (c_X12_in l D cI cZ cT x 1 20) (va_cwS 3 hts gX12_days_X12_in rfl rfl rfl (by decide +kernel) ⟨(Nat.le_of_ble_eq_true rfl), (Nat.le_of_ble_eq_true rfl)⟩) (b_pS0 hK) rfl rfl hl.1 rfl (lv_room (Nat.le_of_ble_eq_true rfl)) dX12_days_14 ⟨Nat.zero_le _, Nat.zero_le _⟩).run ?_
    refine b_ifne (tgt := 23) hx hb dX12_days_17 (by decide) (fun c2 => ?_) (fun c2 => ?_)
    · refine lv_aload_n hx hb dX12_days_23 rfl (lv_at hl 0 rfl) ?_
      refine va_get (D := D) (ci := 11) (v := .ref (A0 6)) (C := RX12) (T := TX12) (N := 21) hx hb hts u_X12_days_X12 hown hK.1 hP 0 rfl rfl 13 (by decide) (hts (.fieldLink RX12 25 "NoticeWeekModel" "now" "[I") (List.mem_of_getElem? (i := 3) rfl)) (fun _ h9 => h9) rfl dX12_days_24 ?_
      refine lv_iconst (v := (nI 2)) hx hb dX12_days_27 (by decide) ?_
      refine b_ald hx hb hK hP 6 rfl (by omega) (by decide) dX12_days_28 ?_
      refine lv_iload_n hx hb dX12_days_29 rfl (lv_at hl 1 rfl) ?_
      refine lv_iadd hx hb dX12_days_30 ?_
      refine lv_sipush (v := 999) hx hb dX12_days_31 (by decide) ?_
      refine lv_icmp_le (tgt := 40) hx hb dX12_days_34 (by decide) (fun c3 => ?_) (fun c3 => ?_)
      · obtain ⟨xv, hh_xv, rfl⟩ : ∃ r : Nat, r ≤ 20 ∧ x = nI r := i_nat 20 (i_ge1 c2.1) c2.2 rfl (by decide)
        have hl : lv_has ls 4 [(0, .ref (A0 0)), (1, .int (nI (xv)))] := hl
        have htx : tn (nI xv) = xv := tn_nI hh_xv
        refine lv_iconst (v := (nI 0)) hx hb dX12_days_40 (by decide) ?_
        refine lv_istore_n (lv' := [(2, .int (nI 0)), (0, .ref (A0 0)), (1, .int (nI (xv)))]) hx hb dX12_days_41 rfl hl (by decide) rfl (fun ls hl => ?_)
        refine b_loopM (N := xv) (I := fun k ls H locs => lv_has ls 4 [(2, .int (nI (k))), (0, .ref (A0 0)), (1, .int (nI (xv)))] ∧ va_P D vwCl (wM cI cZ A0 ss tp fk fp ap sp tk vl (nI (dyL n (nc, pa, nw) k).1) tr la ma it sr bt ((dyL n (nc, pa, nw) k).2.2) dr ((dyL n (nc, pa, nw) k).2.1) im kp tc) H ∧ va_S A s.heap H locs ∧ (TK (dyL n (nc, pa, nw) k).2.2 n) ∧ ((dyL n (nc, pa, nw) k).1 ≤ 24)) (fun k hk ih4 ls H locs hI => ?_) 0 (by omega) ⟨lv_sub hl [0, 1, 2] rfl, hP, hS, hW, hnc⟩
        obtain ⟨hl, hP, hS, hT, hA⟩ := hI
        have hl : lv_has ls 4 [(2, .int (nI (k))), (0, .ref (A0 0)), (1, .int (nI (xv)))] := hl
        have hP : va_P D vwCl (wM cI cZ A0 ss tp fk fp ap sp tk vl (nI (dyL n (nc, pa, nw) k).1) tr la ma it sr bt ((dyL n (nc, pa, nw) k).2.2) dr ((dyL n (nc, pa, nw) k).2.1) im kp tc) H := hP
        have hD : va_D A (wM cI cZ A0 ss tp fk fp ap sp tk vl (nI (dyL n (nc, pa, nw) k).1) tr la ma it sr bt ((dyL n (nc, pa, nw) k).2.2) dr ((dyL n (nc, pa, nw) k).2.1) im kp tc) := hD.sameA [(A0 0), (A0 1), (A0 2), (A0 3), (A0 4), (A0 5), (A0 6), (A0 7), (A0 8), (A0 9), (A0 10), (A0 11)] rfl rfl
        refine lv_iload_n hx hb dX12_days_42 rfl (lv_at hl 0 rfl) ?_
        refine lv_iload_n hx hb dX12_days_43 rfl (lv_at hl 2 rfl) ?_
        refine b_ge (tgt := 131) hx hb (by omega) (by omega) dX12_days_44 (by decide) (fun c5 => ?_) (fun c5 => ?_)
        · refine lv_aload_n hx hb dX12_days_131 rfl (lv_at hl 1 rfl) ?_
          refine b_call (va_runV (As := []) (rest := []) ⟨hx, hb, hml, hown, hts⟩ (c_X12_living l D cI cZ cT A0 ss tp fk fp ap sp tk vl (nI (dyL n (nc, pa, nw) k).1) tr la ma it sr bt ((dyL n (nc, pa, nw) k).2.2) dr ((dyL n (nc, pa, nw) k).2.1) im kp tc n hT) (cwV 0 hts gX12_days_X12_living rfl rfl rfl (by decide +kernel) ⟨(Nat.le_of_ble_eq_true rfl), (Nat.le_of_ble_eq_true rfl)⟩) (b_pV hK hP [0, 1, 2, 3, 4, 5, 6, 7, 8, 9, 10, 11] rfl 0 rfl rfl) rfl rfl hl.1 rfl (lv_room (Nat.le_of_ble_eq_true rfl)) dX12_days_132 ⟨Nat.zero_le _, Nat.zero_le _⟩).run ?_
          have E : m_days nw pa nc n (nI xv) = (lvI ((dyL n (nc, pa, nw) k).2.2) n, (dyL n (nc, pa, nw) k).1, (dyL n (nc, pa, nw) k).2.1, (dyL n (nc, pa, nw) k).2.2) := (by have hk9 : k = xv := (by omega); subst hk9; simp only [m_days, eq_true c1, eq_true c2, eq_true c3, htx, not_true_eq_false, not_false_eq_true, if_true, if_false, ite_true, ite_false])
          rw [E]
          exact b_retM hx hb hr hP hS rfl dX12_days_135 hlocks
        · obtain ⟨Sk, eSk⟩ : ∃ y, dyL n (nc, pa, nw) k = y := ⟨_, rfl⟩
          rw [eSk] at hP hT hA
          have hP : va_P D vwCl (wM cI cZ A0 ss tp fk fp ap sp tk vl (nI Sk.1) tr la ma it sr bt Sk.2.2 dr Sk.2.1 im kp tc) H := hP
          have hD : va_D A (wM cI cZ A0 ss tp fk fp ap sp tk vl (nI Sk.1) tr la ma it sr bt Sk.2.2 dr Sk.2.1 im kp tc) := hD.sameA [(A0 0), (A0 1), (A0 2), (A0 3), (A0 4), (A0 5), (A0 6), (A0 7), (A0 8), (A0 9), (A0 10), (A0 11)] rfl rfl
          refine lv_aload_n hx hb dX12_days_47 rfl (lv_at hl 1 rfl) ?_
          refine b_callM [0, 1, 2, 3, 4, 5, 6, 7, 8, 9, 10, 11] (va_runV (As := []) (rest := []) ⟨hx, hb, hml, hown, hts⟩ (c_X12_notes l D cI cZ cT A0 ss tp fk fp ap sp tk vl Sk.1 tr la ma it sr bt Sk.2.2 dr Sk.2.1 im kp tc hA) (cwV 0 hts gX12_days_X12_notes rfl rfl rfl (by decide +kernel) ⟨(Nat.le_of_ble_eq_true rfl), (Nat.le_of_ble_eq_true rfl)⟩) (b_pVM hK hP hD [0, 1, 2, 3, 4, 5, 6, 7, 8, 9, 10, 11] (by decide) rfl rfl 0 rfl rfl) rfl rfl hl.1 rfl (lv_room (Nat.le_of_ble_eq_true rfl)) dX12_days_48 ⟨Nat.zero_le _, Nat.zero_le _⟩).run hP hD hS rfl (Nat.le_of_ble_eq_true rfl) (fun H locs hP hS => ?_)
          have hP : va_P D vwCl (wM cI cZ A0 ss tp fk fp ap sp tk vl (nI (m_notes Sk.1 Sk.2.2 Sk.2.1).1) tr la ma it sr bt Sk.2.2 dr ((m_notes Sk.1 Sk.2.2 Sk.2.1).2) im kp tc) H := hP
          generalize eq48 : m_notes Sk.1 Sk.2.2 Sk.2.1 = q48 at hP ⊢
          have hP : va_P D vwCl (wM cI cZ A0 ss tp fk fp ap sp tk vl (nI q48.1) tr la ma it sr bt Sk.2.2 dr q48.2 im kp tc) H := hP
          have hD : va_D A (wM cI cZ A0 ss tp fk fp ap sp tk vl (nI q48.1) tr la ma it sr bt Sk.2.2 dr q48.2 im kp tc) := hD.sameA [(A0 0), (A0 1), (A0 2), (A0 3), (A0 4), (A0 5), (A0 6), (A0 7), (A0 8), (A0 9), (A0 10), (A0 11)] rfl rfl
          refine lv_iconst (v := (nI 0)) hx hb dX12_days_51 (by decide) ?_
          refine lv_istore_n (lv' := [(3, .int (nI 0)), (2, .int (nI (k))), (0, .ref (A0 0)), (1, .int (nI (xv)))]) hx hb dX12_days_52 rfl hl (by decide) rfl (fun ls hl => ?_)
          refine b_loopM (N := n) (I := fun j ls H locs => lv_has ls 4 [(3, .int (nI (j))), (0, .ref (A0 0)), (1, .int (nI (xv))), (2, .int (nI (k)))] ∧ va_P D vwCl (wM cI cZ A0 ss tp fk fp ap sp tk vl (nI q48.1) tr la ma it sr bt (rdF Sk.2.2 j) dr q48.2 im kp tc) H ∧ va_S A s.heap H locs) (fun j hj ih6 ls H locs hI => ?_) 0 (by omega) ⟨lv_sub hl [0, 2, 3, 1] rfl, hP, hS⟩
          obtain ⟨hl, hP, hS⟩ := hI
          have hl : lv_has ls 4 [(3, .int (nI (j))), (0, .ref (A0 0)), (1, .int (nI (xv))), (2, .int (nI (k)))] := hl
          have hP : va_P D vwCl (wM cI cZ A0 ss tp fk fp ap sp tk vl (nI q48.1) tr la ma it sr bt (rdF Sk.2.2 j) dr q48.2 im kp tc) H := hP
          have hD : va_D A (wM cI cZ A0 ss tp fk fp ap sp tk vl (nI q48.1) tr la ma it sr bt (rdF Sk.2.2 j) dr q48.2 im kp tc) := hD.sameA [(A0 0), (A0 1), (A0 2), (A0 3), (A0 4), (A0 5), (A0 6), (A0 7), (A0 8), (A0 9), (A0 10), (A0 11)] rfl rfl
          refine lv_iload_n hx hb dX12_days_53 rfl (lv_at hl 0 rfl) ?_
          refine lv_aload_n hx hb dX12_days_54 rfl (lv_at hl 1 rfl) ?_
          refine va_get (D := D) (ci := 11) (v := .ref (A0 6)) (C := RX12) (T := TX12) (N := 21) hx hb hts u_X12_days_X12 hown hK.1 hP 0 rfl rfl 13 (by decide) (hts (.fieldLink RX12 25 "NoticeWeekModel" "now" "[I") (List.mem_of_getElem? (i := 3) rfl)) (fun _ h9 => h9) rfl dX12_days_55 ?_
          refine lv_iconst (v := (nI 3)) hx hb dX12_days_58 (by decide) ?_
          refine b_ald hx hb hK hP 6 rfl (by omega) (by decide) dX12_days_59 ?_
          rw [(TK_rdF hT j (by omega)).2.1]
          refine b_ge (tgt := 115) hx hb (by omega) (by omega) dX12_days_60 (by decide) (fun c7 => ?_) (fun c7 => ?_)
          · have h_j : n = j := by omega
            subst h_j
            have hn6 := hT.1
            refine lv_aload_n hx hb dX12_days_115 rfl (lv_at hl 1 rfl) ?_
            refine va_get (D := D) (ci := 11) (v := .ref (A0 6)) (C := RX12) (T := TX12) (N := 21) hx hb hts u_X12_days_X12 hown hK.1 hP 0 rfl rfl 13 (by decide) (hts (.fieldLink RX12 25 "NoticeWeekModel" "now" "[I") (List.mem_of_getElem? (i := 3) rfl)) (fun _ h9 => h9) rfl dX12_days_116 ?_
            refine lv_iconst (v := (nI 2)) hx hb dX12_days_119 (by decide) ?_
            refine lv_dup2_11 hx hb dX12_days_120 rfl rfl ?_
            refine b_ald hx hb hK hP 6 rfl (by omega) (by decide) dX12_days_121 ?_
            refine lv_iconst (v := 1) hx hb dX12_days_122 (by decide) ?_
            refine lv_iadd hx hb dX12_days_123 ?_
            refine b_ast hx hb hK hP hD hS 6 rfl (by omega) (by decide) dX12_days_124 (fun H locs hP hS => ?_)
            have hP : va_P D vwCl (wM cI cZ A0 ss tp fk fp ap sp tk vl (nI q48.1) tr la ma it sr bt (upd (rdF Sk.2.2 n) 2 (((rdF Sk.2.2 n) 2) + 1)) dr q48.2 im kp tc) H := hP
            have hD : va_D A (wM cI cZ A0 ss tp fk fp ap sp tk vl (nI q48.1) tr la ma it sr bt (upd (rdF Sk.2.2 n) 2 (((rdF Sk.2.2 n) 2) + 1)) dr q48.2 im kp tc) := hD.sameA [(A0 0), (A0 1), (A0 2), (A0 3), (A0 4), (A0 5), (A0 6), (A0 7), (A0 8), (A0 9), (A0 10), (A0 11)] rfl rfl
            have eS1 : dyL n (nc, pa, nw) (k + 1) = (q48.1, q48.2, (upd (rdF Sk.2.2 n) 2 (((rdF Sk.2.2 n) 2) + 1))) := by show dayM n (dyL n (nc, pa, nw) k) = _; rw [eSk]; unfold dayM; rw [eq48]; rfl
            have hT1 : TK (dyL n (nc, pa, nw) (k + 1)).2.2 n := by show TK (dayM n (dyL n (nc, pa, nw) k)).2.2 n; rw [eSk]; exact TK_day hT
            have hA1 : (dyL n (nc, pa, nw) (k + 1)).1 ≤ 24 := by show (dayM n (dyL n (nc, pa, nw) k)).1 ≤ 24; rw [eSk]; exact m_notes_le hA
            have hP : va_P D vwCl (wM cI cZ A0 ss tp fk fp ap sp tk vl (nI (dyL n (nc, pa, nw) (k + 1)).1) tr la ma it sr bt ((dyL n (nc, pa, nw) (k + 1)).2.2) dr ((dyL n (nc, pa, nw) (k + 1)).2.1) im kp tc) H := by rw [eS1]; exact hP
            refine lv_iinc (v := (nI (k + 1))) (lv' := [(2, .int (nI (k + 1))), (3, .int (nI (n))), (0, .ref (A0 0)), (1, .int (nI (xv)))]) hx hb dX12_days_125 hl (k := 3) rfl (nI_add _ _) (by decide) rfl (fun ls hl => ?_)
            refine lv_goto (tgt := 42) hx hb dX12_days_128 (by decide) ?_
            exact ih4 (by omega) ls H locs ⟨lv_sub hl [0, 2, 3] rfl, hP, hS, hT1, hA1⟩
          · refine lv_aload_n hx hb dX12_days_63 rfl (lv_at hl 1 rfl) ?_
            refine va_get (D := D) (ci := 11) (v := .ref (A0 6)) (C := RX12) (T := TX12) (N := 21) hx hb hts u_X12_days_X12 hown hK.1 hP 0 rfl rfl 13 (by decide) (hts (.fieldLink RX12 25 "NoticeWeekModel" "now" "[I") (List.mem_of_getElem? (i := 3) rfl)) (fun _ h9 => h9) rfl dX12_days_64 ?_
            refine lv_iconst (v := (nI 4)) hx hb dX12_days_67 (by decide) ?_
            refine lv_iconst (v := (nI 4)) hx hb dX12_days_68 (by decide) ?_
            refine lv_iload_n hx hb dX12_days_69 rfl (lv_at hl 0 rfl) ?_
            refine b_mul hx hb dX12_days_70 ?_
            refine b_add hx hb dX12_days_71 ?_
            refine lv_iconst (v := (nI 1)) hx hb dX12_days_72 (by decide) ?_
            refine b_add hx hb dX12_days_73 ?_
            refine lv_aload_n hx hb dX12_days_74 rfl (lv_at hl 1 rfl) ?_
            refine lv_iload_n hx hb dX12_days_75 rfl (lv_at hl 0 rfl) ?_
            refine lv_iconst (v := (nI 1)) hx hb dX12_days_76 (by decide) ?_
            refine b_call (va_runV (As := [.int (nI (j)), .int (nI 1)]) (rest := [.int (nI (4 + (4 * j) + 1)), .ref (A0 6)]) ⟨hx, hb, hml, hown, hts⟩ (c_X12_deedsIn l D cI cZ cT A0 ss tp fk fp ap sp tk vl (nI q48.1) tr la ma it sr bt (rdF Sk.2.2 j) dr q48.2 im kp tc j 1 n (by omega) (by omega) (TK_rdF hT j (by omega))) (cwV 2 hts gX12_days_X12_deedsIn rfl rfl rfl (by decide +kernel) ⟨(Nat.le_of_ble_eq_true rfl), (Nat.le_of_ble_eq_true rfl)⟩) (b_pV hK hP [0, 1, 2, 3, 4, 5, 6, 7, 8, 9, 10, 11] rfl 0 rfl rfl) rfl rfl hl.1 rfl (lv_room (Nat.le_of_ble_eq_true rfl)) dX12_days_77 ⟨Nat.zero_le _, Nat.zero_le _⟩).run ?_
            refine b_ast hx hb hK hP hD hS 6 rfl (by omega) (by decide) dX12_days_80 (fun H locs hP hS => ?_)
            have hP : va_P D vwCl (wM cI cZ A0 ss tp fk fp ap sp tk vl (nI q48.1) tr la ma it sr bt (upd (rdF Sk.2.2 j) (4 + (4 * j) + 1) (ddI (rdF Sk.2.2 j) j 1)) dr q48.2 im kp tc) H := hP
            have hD : va_D A (wM cI cZ A0 ss tp fk fp ap sp tk vl (nI q48.1) tr la ma it sr bt (upd (rdF Sk.2.2 j) (4 + (4 * j) + 1) (ddI (rdF Sk.2.2 j) j 1)) dr q48.2 im kp tc) := hD.sameA [(A0 0), (A0 1), (A0 2), (A0 3), (A0 4), (A0 5), (A0 6), (A0 7), (A0 8), (A0 9), (A0 10), (A0 11)] rfl rfl
            refine lv_aload_n hx hb dX12_days_81 rfl (lv_at hl 1 rfl) ?_
            refine va_get (D := D) (ci := 11) (v := .ref (A0 6)) (C := RX12) (T := TX12) (N := 21) hx hb hts u_X12_days_X12 hown hK.1 hP 0 rfl rfl 13 (by decide) (hts (.fieldLink RX12 25 "NoticeWeekModel" "now" "[I") (List.mem_of_getElem? (i := 3) rfl)) (fun _ h9 => h9) rfl dX12_days_82 ?_
            refine lv_iconst (v := (nI 4)) hx hb dX12_days_85 (by decide) ?_
            refine lv_iconst (v := (nI 4)) hx hb dX12_days_86 (by decide) ?_
            refine lv_iload_n hx hb dX12_days_87 rfl (lv_at hl 0 rfl) ?_
            refine b_mul hx hb dX12_days_88 ?_
            refine b_add hx hb dX12_days_89 ?_
            refine lv_iconst (v := (nI 3)) hx hb dX12_days_90 (by decide) ?_
            refine b_add hx hb dX12_days_91 ?_
            refine lv_dup2_11 hx hb dX12_days_92 rfl rfl ?_
            refine b_ald hx hb hK hP 6 rfl (by omega) (by decide) dX12_days_93 ?_
            refine b_join (jpc := 107) (rest' := [.int ((upd (rdF Sk.2.2 j) (4 + (4 * j) + 1) (ddI (rdF Sk.2.2 j) j 1)) (4 + (4 * j) + 3)), .int (nI (4 + (4 * j) + 3)), .ref (A0 6)]) (P := fun v : Int32 => v = ((if lvs (upd (rdF Sk.2.2 j) (4 + (4 * j) + 1) (ddI (rdF Sk.2.2 j) j 1)) j then 1 else 0) : Int32)) (fun v8 ev8 => ?_) (fun K9 => ?_)
            · subst ev8
              refine lv_isub hx hb dX12_days_107 ?_
              refine b_ast hx hb hK hP hD hS 6 rfl (by omega) (by decide) dX12_days_108 (fun H locs hP hS => ?_)
              have hP : va_P D vwCl (wM cI cZ A0 ss tp fk fp ap sp tk vl (nI q48.1) tr la ma it sr bt (upd (upd (rdF Sk.2.2 j) (4 + (4 * j) + 1) (ddI (rdF Sk.2.2 j) j 1)) (4 + (4 * j) + 3) (((upd (rdF Sk.2.2 j) (4 + (4 * j) + 1) (ddI (rdF Sk.2.2 j) j 1)) (4 + (4 * j) + 3)) - (if lvs (upd (rdF Sk.2.2 j) (4 + (4 * j) + 1) (ddI (rdF Sk.2.2 j) j 1)) j then 1 else 0))) dr q48.2 im kp tc) H := hP
              have hD : va_D A (wM cI cZ A0 ss tp fk fp ap sp tk vl (nI q48.1) tr la ma it sr bt (upd (upd (rdF Sk.2.2 j) (4 + (4 * j) + 1) (ddI (rdF Sk.2.2 j) j 1)) (4 + (4 * j) + 3) (((upd (rdF Sk.2.2 j) (4 + (4 * j) + 1) (ddI (rdF Sk.2.2 j) j 1)) (4 + (4 * j) + 3)) - (if lvs (upd (rdF Sk.2.2 j) (4 + (4 * j) + 1) (ddI (rdF Sk.2.2 j) j 1)) j then 1 else 0))) dr q48.2 im kp tc) := hD.sameA [(A0 0), (A0 1), (A0 2), (A0 3), (A0 4), (A0 5), (A0 6), (A0 7), (A0 8), (A0 9), (A0 10), (A0 11)] rfl rfl
              refine lv_iinc (v := (nI (j + 1))) (lv' := [(3, .int (nI (j + 1))), (0, .ref (A0 0)), (1, .int (nI (xv))), (2, .int (nI (k)))]) hx hb dX12_days_109 hl (k := 0) rfl (nI_add _ _) (by decide) rfl (fun ls hl => ?_)
              refine lv_goto (tgt := 53) hx hb dX12_days_112 (by decide) ?_
              exact ih6 (by omega) ls H locs ⟨lv_sub hl [0, 1, 2, 3] rfl, hP, hS⟩
            · refine lv_aload_n hx hb dX12_days_94 rfl (lv_at hl 1 rfl) ?_
              refine lv_iload_n hx hb dX12_days_95 rfl (lv_at hl 0 rfl) ?_
              refine b_call (va_runV (As := [.int (nI (j))]) (rest := [.int ((upd (rdF Sk.2.2 j) (4 + (4 * j) + 1) (ddI (rdF Sk.2.2 j) j 1)) (4 + (4 * j) + 3)), .int (nI (4 + (4 * j) + 3)), .ref (A0 6)]) ⟨hx, hb, hml, hown, hts⟩ (c_X12_lives l D cI cZ cT A0 ss tp fk fp ap sp tk vl (nI q48.1) tr la ma it sr bt (upd (rdF Sk.2.2 j) (4 + (4 * j) + 1) (ddI (rdF Sk.2.2 j) j 1)) dr q48.2 im kp tc j (by omega)) (cwV 1 hts gX12_days_X12_lives rfl rfl rfl (by decide +kernel) ⟨(Nat.le_of_ble_eq_true rfl), (Nat.le_of_ble_eq_true rfl)⟩) (b_pV hK hP [0, 1, 2, 3, 4, 5, 6, 7, 8, 9, 10, 11] rfl 0 rfl rfl) rfl rfl hl.1 rfl (lv_room (Nat.le_of_ble_eq_true rfl)) dX12_days_96 ⟨Nat.zero_le _, Nat.zero_le _⟩).run ?_
              refine b_ifeq (tgt := 106) hx hb dX12_days_99 (by decide) (fun c10 => ?_) (fun c10 => ?_)
              · refine lv_iconst (v := 0) hx hb dX12_days_106 (by decide) ?_
                exact K9 _ (by first | with_reducible rfl | (simp only [bI, eq_true c1, eq_true c2, eq_true c3, eq_true c5, eq_true c7, eq_false c10, not_true_eq_false, not_false_eq_true, ite_true, ite_false, if_true, if_false, and_self, and_true, true_and, false_and, and_false, or_true, true_or, or_false, false_or]; done) | (simp [bI, eq_true c1, eq_true c2, eq_true c3, eq_true c5, eq_true c7, eq_false c10]; done) | omega)
              · refine lv_iconst (v := 1) hx hb dX12_days_102 (by decide) ?_
                refine lv_goto (tgt := 107) hx hb dX12_days_103 (by decide) ?_
                exact K9 _ (by first | with_reducible rfl | (simp only [bI, eq_true c1, eq_true c2, eq_true c3, eq_true c5, eq_true c7, eq_true c10, not_true_eq_false, not_false_eq_true, ite_true, ite_false, if_true, if_false, and_self, and_true, true_and, false_and, and_false, or_true, true_or, or_false, false_or]; done) | (simp [bI, eq_true c1, eq_true c2, eq_true c3, eq_true c5, eq_true c7, eq_true c10]; done) | omega)
      · refine lv_ldc (v := (-1000003)) hx hb hown (hts (.constant RX12 79 (-1000003)) (List.mem_of_getElem? (i := 4) rfl)) dX12_days_37 ?_
        have E : m_days nw pa nc n x = ((-1000003), nc, pa, nw) := (by first | (simp only [m_days, eq_true c1, eq_true c2, eq_false c3, bI, not_true_eq_false, not_false_eq_true, ite_true, ite_false, if_true, if_false, and_self, and_true, true_and, false_and, and_false, or_true, true_or, or_false, false_or, eq_self]; done) | (simp [m_days, eq_true c1, eq_true c2, eq_false c3, bI]; done))
        rw [E]
        exact b_retM hx hb hr hP hS rfl dX12_days_39 hlocks
    · refine lv_ldc (v := (-1000001)) hx hb hown (hts (.constant RX12 58 (-1000001)) (List.mem_of_getElem? (i := 2) rfl)) dX12_days_20 ?_
      have E : m_days nw pa nc n x = ((-1000001), nc, pa, nw) := (by first | (simp only [m_days, eq_true c1, eq_false c2, bI, not_true_eq_false, not_false_eq_true, ite_true, ite_false, if_true, if_false, and_self, and_true, true_and, false_and, and_false, or_true, true_or, or_false, false_or, eq_self]; done) | (simp [m_days, eq_true c1, eq_false c2, bI]; done))
      rw [E]
      exact b_retM hx hb hr hP hS rfl dX12_days_22 hlocks
  · refine lv_ldc (v := (-1000002)) hx hb hown (hts (.constant RX12 159 (-1000002)) (List.mem_of_getElem? (i := 1) rfl)) dX12_days_7 ?_
    have E : m_days nw pa nc n x = ((-1000002), nc, pa, nw) := (by first | (simp only [m_days, eq_false c1, bI, not_true_eq_false, not_false_eq_true, ite_true, ite_false, if_true, if_false, and_self, and_true, true_and, false_and, and_false, or_true, true_or, or_false, false_or, eq_self]; done) | (simp [m_days, eq_false c1, bI]; done))
    rw [E]
    exact b_retM hx hb hr hP hS rfl dX12_days_9 hlocks
theorem u_X12_write_X12 : ∀ w ∈ wsX120, w ∈ wsX12_write := fun _ h => List.mem_cons_of_mem _ (List.mem_append_right _ h)
set_option maxHeartbeats 4000000 in
set_option maxRecDepth 100000 in
theorem c_X12_write (l : Launch) (D : va_G) (cI cZ cT : ClassId) (A0 : Nat → Nat) (ss tp fk fp ap sp tk vl : Int32) (nc : Nat) (tr : Int32) (la ma it sr bt nw dr pa im kp tc : Nat → Int32) (reader notice : Int32) (n : Nat) (hW : TK nw n) (hnc : nc ≤ 24) : Met l yX12_write wsX12_write ({ frames := 2, cells := 0, slots := 0, locals := 45 }) (pM D cI cZ cT [.ref (A0 0), .int reader, .int notice] (wM cI cZ A0 ss tp fk fp ap sp tk vl (nI nc) tr la ma it sr bt nw dr pa im kp tc)) (qM D (some (.int ((m_write nw pa nc reader notice).1))) (wM cI cZ A0 ss tp fk fp ap sp tk vl (nI (m_write nw pa nc reader notice).2.1) tr la ma it sr bt ((m_write nw pa nc reader notice).2.2.2) dr ((m_write nw pa nc reader notice).2.2.1) im kp tc) (adr (wM cI cZ A0 ss tp fk fp ap sp tk vl (nI nc) tr la ma it sr bt nw dr pa im kp tc))) 0 0 (adr (wM cI cZ A0 ss tp fk fp ap sp tk vl (nI nc) tr la ma it sr bt nw dr pa im kp tc)) := by
  refine Met.ofW (cc := cX12_write) (maxL := 4) (ret := (some .int)) (by decide) rfl ?_
  intro p e s m args below meth c s₁ B hml hv
  obtain ⟨rfl, hP, hD0, hK⟩ := hv
  have hx := B.exec
  have hb := B.bytes
  have hr := B.returns
  have hts := atoms_spec (ws := wsX12_write) B.pre
  have hown : s.vm.findClass RX12 = some m.cls := findClass_of_methodNamed B.named
  have hlocks := B.notSynchronized
  have hD := hD0.toAdr
  have hS : va_S (adr (wM cI cZ A0 ss tp fk fp ap sp tk vl (nI nc) tr la ma it sr bt nw dr pa im kp tc)) s.heap s.heap [] := va_S.rf
  generalize adr (wM cI cZ A0 ss tp fk fp ap sp tk vl (nI nc) tr la ma it sr bt nw dr pa im kp tc) = A at hD hS ⊢
  have hl := lv_entry ([.ref (A0 0), .int reader, .int notice]) (n := 4) (Nat.le_of_ble_eq_true rfl)
  rw [lg_entry_eq]
  generalize (lg_sl ([.ref (A0 0), .int reader, .int notice]) ++ List.replicate (4 - (lg_sl ([.ref (A0 0), .int reader, .int notice])).length) Slot.unset).toArray = ls at hl ⊢
  have hl : lv_has ls 4 [(0, .ref (A0 0)), (1, .int reader), (2, .int notice)] := hl
  refine lv_aload_n hx hb dX12_write_0 rfl (lv_at hl 0 rfl) ?_
  refine lv_iload_n hx hb dX12_write_1 rfl (lv_at hl 1 rfl) ?_
  refine b_call (va_runV (As := [.int reader]) (rest := []) ⟨hx, hb, hml, hown, hts⟩ (c_X12_isReader l D cI cZ cT A0 ss tp fk fp ap sp tk vl (nI nc) tr la ma it sr bt nw dr pa im kp tc reader) (cwV 1 hts gX12_write_X12_isReader rfl rfl rfl (by decide +kernel) ⟨(Nat.le_of_ble_eq_true rfl), (Nat.le_of_ble_eq_true rfl)⟩) (b_pV hK hP [0, 1, 2, 3, 4, 5, 6, 7, 8, 9, 10, 11] rfl 0 rfl rfl) rfl rfl hl.1 rfl (lv_room (Nat.le_of_ble_eq_true rfl)) dX12_write_2 ⟨Nat.zero_le _, Nat.zero_le _⟩).run ?_
  refine b_ifeq (tgt := 18) hx hb dX12_write_5 (by decide) (fun c1 => ?_) (fun c1 => ?_)
  · refine lv_ldc (v := (-1000001)) hx hb hown (hts (.constant RX12 58 (-1000001)) (List.mem_of_getElem? (i := 1) rfl)) dX12_write_18 ?_
    have E : m_write nw pa nc reader notice = ((-1000001), nc, pa, nw) := (by first | (simp only [m_write, eq_false c1, bI, not_true_eq_false, not_false_eq_true, ite_true, ite_false, if_true, if_false, and_self, and_true, true_and, false_and, and_false, or_true, true_or, or_false, false_or, eq_self]; done) | (simp [m_write, eq_false c1, bI]; done))
    rw [E]
    exact b_retM hx hb hr hP hS rfl dX12_write_20 hlocks
  · refine lv_iload_n hx hb dX12_write_8 rfl (lv_at hl 2 rfl) ?_
    refine lv_iconst (v := 0) hx hb dX12_write_9 (by decide) ?_
    refine lv_bipush (v := 63) hx hb dX12_write_10 (by decide) ?_
    refine b_call (va_runS (As := [.int notice, .int 0, .int 63]) (rest := []) ⟨hx, hb, hml, hown, hts⟩ (c_X12_in l D cI cZ cT notice 0 63) (va_cwS 3 hts gX12_write_X12_in rfl rfl rfl (by decide +kernel) ⟨(Nat.le_of_ble_eq_true rfl), (Nat.le_of_ble_eq_true rfl)⟩) (b_pS0 hK) rfl rfl hl.1 rfl (lv_room (Nat.le_of_ble_eq_true rfl)) dX12_write_12 ⟨Nat.zero_le _, Nat.zero_le _⟩).run ?_
    refine b_ifne (tgt := 21) hx hb dX12_write_15 (by decide) (fun c2 => ?_) (fun c2 => ?_)
    · obtain ⟨r, hh_r, rfl⟩ : ∃ r : Nat, r ≤ 5 ∧ reader = nI r := i_rd hW c1
      have hl : lv_has ls 4 [(0, .ref (A0 0)), (1, .int (nI (r))), (2, .int notice)] := hl
      have htr : tn (nI r) = r := tn_nI hh_r
      refine lv_aload_n hx hb dX12_write_21 rfl (lv_at hl 0 rfl) ?_
      refine lv_iload_n hx hb dX12_write_22 rfl (lv_at hl 1 rfl) ?_
      refine b_call (va_runV (As := [.int (nI (r))]) (rest := []) ⟨hx, hb, hml, hown, hts⟩ (c_X12_lives l D cI cZ cT A0 ss tp fk fp ap sp tk vl (nI nc) tr la ma it sr bt nw dr pa im kp tc r (by omega)) (cwV 1 hts gX12_write_X12_lives rfl rfl rfl (by decide +kernel) ⟨(Nat.le_of_ble_eq_true rfl), (Nat.le_of_ble_eq_true rfl)⟩) (b_pV hK hP [0, 1, 2, 3, 4, 5, 6, 7, 8, 9, 10, 11] rfl 0 rfl rfl) rfl rfl hl.1 rfl (lv_room (Nat.le_of_ble_eq_true rfl)) dX12_write_23 ⟨Nat.zero_le _, Nat.zero_le _⟩).run ?_
      refine b_ifne (tgt := 32) hx hb dX12_write_26 (by decide) (fun c3 => ?_) (fun c3 => ?_)
      · refine lv_aload_n hx hb dX12_write_32 rfl (lv_at hl 0 rfl) ?_
        refine b_callM [0, 1, 2, 3, 4, 5, 6, 7, 8, 9, 10, 11] (va_runV (As := []) (rest := []) ⟨hx, hb, hml, hown, hts⟩ (c_X12_notes l D cI cZ cT A0 ss tp fk fp ap sp tk vl nc tr la ma it sr bt nw dr pa im kp tc hnc) (cwV 0 hts gX12_write_X12_notes rfl rfl rfl (by decide +kernel) ⟨(Nat.le_of_ble_eq_true rfl), (Nat.le_of_ble_eq_true rfl)⟩) (b_pVM hK hP hD [0, 1, 2, 3, 4, 5, 6, 7, 8, 9, 10, 11] (by decide) rfl rfl 0 rfl rfl) rfl rfl hl.1 rfl (lv_room (Nat.le_of_ble_eq_true rfl)) dX12_write_33 ⟨Nat.zero_le _, Nat.zero_le _⟩).run hP hD hS rfl (Nat.le_of_ble_eq_true rfl) (fun H locs hP hS => ?_)
        have hP : va_P D vwCl (wM cI cZ A0 ss tp fk fp ap sp tk vl (nI (m_notes nc nw pa).1) tr la ma it sr bt nw dr ((m_notes nc nw pa).2) im kp tc) H := hP
        generalize eq33 : m_notes nc nw pa = q33 at hP ⊢
        have hP : va_P D vwCl (wM cI cZ A0 ss tp fk fp ap sp tk vl (nI q33.1) tr la ma it sr bt nw dr q33.2 im kp tc) H := hP
        have hD : va_D A (wM cI cZ A0 ss tp fk fp ap sp tk vl (nI q33.1) tr la ma it sr bt nw dr q33.2 im kp tc) := hD.sameA [(A0 0), (A0 1), (A0 2), (A0 3), (A0 4), (A0 5), (A0 6), (A0 7), (A0 8), (A0 9), (A0 10), (A0 11)] rfl rfl
        refine lv_aload_n hx hb dX12_write_36 rfl (lv_at hl 0 rfl) ?_
        refine va_get (D := D) (ci := 11) (v := .ref (A0 6)) (C := RX12) (T := TX12) (N := 21) hx hb hts u_X12_write_X12 hown hK.1 hP 0 rfl rfl 13 (by decide) (hts (.fieldLink RX12 25 "NoticeWeekModel" "now" "[I") (List.mem_of_getElem? (i := 3) rfl)) (fun _ h9 => h9) rfl dX12_write_37 ?_
        refine lv_iconst (v := (nI 4)) hx hb dX12_write_40 (by decide) ?_
        refine lv_iconst (v := (nI 4)) hx hb dX12_write_41 (by decide) ?_
        refine lv_iload_n hx hb dX12_write_42 rfl (lv_at hl 1 rfl) ?_
        refine b_mul hx hb dX12_write_43 ?_
        refine b_add hx hb dX12_write_44 ?_
        refine lv_iconst (v := (nI 2)) hx hb dX12_write_45 (by decide) ?_
        refine b_add hx hb dX12_write_46 ?_
        refine b_ald hx hb hK hP 6 rfl (by omega) (by decide) dX12_write_47 ?_
        refine lv_topi (fun x4 ex4 => ?_)
        refine lv_istore_n (lv' := [(3, .int x4), (0, .ref (A0 0)), (1, .int (nI (r))), (2, .int notice)]) hx hb dX12_write_48 rfl hl (by decide) rfl (fun ls hl => ?_)
        refine lv_aload_n hx hb dX12_write_49 rfl (lv_at hl 1 rfl) ?_
        refine va_get (D := D) (ci := 11) (v := .ref (A0 6)) (C := RX12) (T := TX12) (N := 21) hx hb hts u_X12_write_X12 hown hK.1 hP 0 rfl rfl 13 (by decide) (hts (.fieldLink RX12 25 "NoticeWeekModel" "now" "[I") (List.mem_of_getElem? (i := 3) rfl)) (fun _ h9 => h9) rfl dX12_write_50 ?_
        refine lv_iconst (v := (nI 4)) hx hb dX12_write_53 (by decide) ?_
        refine lv_iconst (v := (nI 4)) hx hb dX12_write_54 (by decide) ?_
        refine lv_iload_n hx hb dX12_write_55 rfl (lv_at hl 2 rfl) ?_
        refine b_mul hx hb dX12_write_56 ?_
        refine b_add hx hb dX12_write_57 ?_
        refine lv_iconst (v := (nI 2)) hx hb dX12_write_58 (by decide) ?_
        refine b_add hx hb dX12_write_59 ?_
        refine lv_iload_n hx hb dX12_write_60 rfl (lv_at hl 3 rfl) ?_
        refine b_ast hx hb hK hP hD hS 6 rfl (by omega) (by decide) dX12_write_61 (fun H locs hP hS => ?_)
        have hP : va_P D vwCl (wM cI cZ A0 ss tp fk fp ap sp tk vl (nI q33.1) tr la ma it sr bt (upd nw (4 + (4 * r) + 2) notice) dr q33.2 im kp tc) H := hP
        have hD : va_D A (wM cI cZ A0 ss tp fk fp ap sp tk vl (nI q33.1) tr la ma it sr bt (upd nw (4 + (4 * r) + 2) notice) dr q33.2 im kp tc) := hD.sameA [(A0 0), (A0 1), (A0 2), (A0 3), (A0 4), (A0 5), (A0 6), (A0 7), (A0 8), (A0 9), (A0 10), (A0 11)] rfl rfl
        refine lv_iload_n hx hb dX12_write_62 rfl (lv_at hl 0 rfl) ?_
        have E : m_write nw pa nc (nI r) notice = (x4, q33.1, q33.2, (upd nw (4 + (4 * r) + 2) notice)) := (by subst ex4; subst eq33; first | (simp only [m_write, eq_true c1, eq_true c2, eq_true c3, htr, bI, not_true_eq_false, not_false_eq_true, ite_true, ite_false, if_true, if_false, and_self, and_true, true_and, false_and, and_false, or_true, true_or, or_false, false_or, eq_self]; done) | (simp [m_write, eq_true c1, eq_true c2, eq_true c3, htr, bI]; done))
        rw [E]
        exact b_retM hx hb hr hP hS rfl dX12_write_63 hlocks
      · refine lv_ldc (v := (-1000002)) hx hb hown (hts (.constant RX12 159 (-1000002)) (List.mem_of_getElem? (i := 2) rfl)) dX12_write_29 ?_
        have E : m_write nw pa nc (nI r) notice = ((-1000002), nc, pa, nw) := (by first | (simp only [m_write, eq_true c1, eq_true c2, eq_false c3, htr, bI, not_true_eq_false, not_false_eq_true, ite_true, ite_false, if_true, if_false, and_self, and_true, true_and, false_and, and_false, or_true, true_or, or_false, false_or, eq_self]; done) | (simp [m_write, eq_true c1, eq_true c2, eq_false c3, htr, bI]; done))
        rw [E]
        exact b_retM hx hb hr hP hS rfl dX12_write_31 hlocks
    · refine lv_ldc (v := (-1000001)) hx hb hown (hts (.constant RX12 58 (-1000001)) (List.mem_of_getElem? (i := 1) rfl)) dX12_write_18 ?_
      have E : m_write nw pa nc reader notice = ((-1000001), nc, pa, nw) := (by first | (simp only [m_write, eq_true c1, eq_false c2, bI, not_true_eq_false, not_false_eq_true, ite_true, ite_false, if_true, if_false, and_self, and_true, true_and, false_and, and_false, or_true, true_or, or_false, false_or, eq_self]; done) | (simp [m_write, eq_true c1, eq_false c2, bI]; done))
      rw [E]
      exact b_retM hx hb hr hP hS rfl dX12_write_20 hlocks
theorem u_X12_deny_X12 : ∀ w ∈ wsX120, w ∈ wsX12_deny := fun _ h => List.mem_cons_of_mem _ (List.mem_append_right _ h)
set_option maxHeartbeats 4000000 in
set_option maxRecDepth 100000 in
theorem c_X12_deny (l : Launch) (D : va_G) (cI cZ cT : ClassId) (A0 : Nat → Nat) (ss tp fk fp ap sp tk vl : Int32) (nc : Nat) (tr : Int32) (la ma it sr bt nw dr pa im kp tc : Nat → Int32) (reader deed : Int32) (n : Nat) (hW : TK nw n) (hnc : nc ≤ 24) : Met l yX12_deny wsX12_deny ({ frames := 2, cells := 0, slots := 0, locals := 45 }) (pM D cI cZ cT [.ref (A0 0), .int reader, .int deed] (wM cI cZ A0 ss tp fk fp ap sp tk vl (nI nc) tr la ma it sr bt nw dr pa im kp tc)) (qM D (some (.int ((m_deny nw pa nc reader deed).1))) (wM cI cZ A0 ss tp fk fp ap sp tk vl (nI (m_deny nw pa nc reader deed).2.1) tr la ma it sr bt ((m_deny nw pa nc reader deed).2.2.2) dr ((m_deny nw pa nc reader deed).2.2.1) im kp tc) (adr (wM cI cZ A0 ss tp fk fp ap sp tk vl (nI nc) tr la ma it sr bt nw dr pa im kp tc))) 0 0 (adr (wM cI cZ A0 ss tp fk fp ap sp tk vl (nI nc) tr la ma it sr bt nw dr pa im kp tc)) := by
  refine Met.ofW (cc := cX12_deny) (maxL := 4) (ret := (some .int)) (by decide) rfl ?_
  intro p e s m args below meth c s₁ B hml hv
  obtain ⟨rfl, hP, hD0, hK⟩ := hv
  have hx := B.exec
  have hb := B.bytes
  have hr := B.returns
  have hts := atoms_spec (ws := wsX12_deny) B.pre
  have hown : s.vm.findClass RX12 = some m.cls := findClass_of_methodNamed B.named
  have hlocks := B.notSynchronized
  have hD := hD0.toAdr
  have hS : va_S (adr (wM cI cZ A0 ss tp fk fp ap sp tk vl (nI nc) tr la ma it sr bt nw dr pa im kp tc)) s.heap s.heap [] := va_S.rf
  generalize adr (wM cI cZ A0 ss tp fk fp ap sp tk vl (nI nc) tr la ma it sr bt nw dr pa im kp tc) = A at hD hS ⊢
  have hl := lv_entry ([.ref (A0 0), .int reader, .int deed]) (n := 4) (Nat.le_of_ble_eq_true rfl)
  rw [lg_entry_eq]
  generalize (lg_sl ([.ref (A0 0), .int reader, .int deed]) ++ List.replicate (4 - (lg_sl ([.ref (A0 0), .int reader, .int deed])).length) Slot.unset).toArray = ls at hl ⊢
  have hl : lv_has ls 4 [(0, .ref (A0 0)), (1, .int reader), (2, .int deed)] := hl
  refine lv_aload_n hx hb dX12_deny_0 rfl (lv_at hl 0 rfl) ?_
  refine lv_iload_n hx hb dX12_deny_1 rfl (lv_at hl 1 rfl) ?_
  refine b_call (va_runV (As := [.int reader]) (rest := []) ⟨hx, hb, hml, hown, hts⟩ (c_X12_isReader l D cI cZ cT A0 ss tp fk fp ap sp tk vl (nI nc) tr la ma it sr bt nw dr pa im kp tc reader) (cwV 1 hts gX12_deny_X12_isReader rfl rfl rfl (by decide +kernel) ⟨(Nat.le_of_ble_eq_true rfl), (Nat.le_of_ble_eq_true rfl)⟩) (b_pV hK hP [0, 1, 2, 3, 4, 5, 6, 7, 8, 9, 10, 11] rfl 0 rfl rfl) rfl rfl hl.1 rfl (lv_room (Nat.le_of_ble_eq_true rfl)) dX12_deny_2 ⟨Nat.zero_le _, Nat.zero_le _⟩).run ?_
  refine b_ifeq (tgt := 17) hx hb dX12_deny_5 (by decide) (fun c1 => ?_) (fun c1 => ?_)
  · refine lv_ldc (v := (-1000001)) hx hb hown (hts (.constant RX12 58 (-1000001)) (List.mem_of_getElem? (i := 1) rfl)) dX12_deny_17 ?_
    have E : m_deny nw pa nc reader deed = ((-1000001), nc, pa, nw) := (by first | (simp only [m_deny, upd, eq_false c1, bI, not_true_eq_false, not_false_eq_true, ite_true, ite_false, if_true, if_false, and_self, and_true, true_and, false_and, and_false, or_true, true_or, or_false, false_or, eq_self]; done) | (simp [m_deny, upd, eq_false c1, bI]; done))
    rw [E]
    exact b_retM hx hb hr hP hS rfl dX12_deny_19 hlocks
  · refine lv_iload_n hx hb dX12_deny_8 rfl (lv_at hl 2 rfl) ?_
    refine lv_iconst (v := 0) hx hb dX12_deny_9 (by decide) ?_
    refine lv_iconst (v := 5) hx hb dX12_deny_10 (by decide) ?_
    refine b_call (va_runS (As := [.int deed, .int 0, .int 5]) (rest := []) ⟨hx, hb, hml, hown, hts⟩ (c_X12_in l D cI cZ cT deed 0 5) (va_cwS 3 hts gX12_deny_X12_in rfl rfl rfl (by decide +kernel) ⟨(Nat.le_of_ble_eq_true rfl), (Nat.le_of_ble_eq_true rfl)⟩) (b_pS0 hK) rfl rfl hl.1 rfl (lv_room (Nat.le_of_ble_eq_true rfl)) dX12_deny_11 ⟨Nat.zero_le _, Nat.zero_le _⟩).run ?_
    refine b_ifne (tgt := 20) hx hb dX12_deny_14 (by decide) (fun c2 => ?_) (fun c2 => ?_)
    · obtain ⟨r, hh_r, rfl⟩ : ∃ r : Nat, r ≤ 5 ∧ reader = nI r := i_rd hW c1
      have hl : lv_has ls 4 [(0, .ref (A0 0)), (1, .int (nI (r))), (2, .int deed)] := hl
      have htr : tn (nI r) = r := tn_nI hh_r
      obtain ⟨dv, hh_dv, rfl⟩ : ∃ r : Nat, r ≤ 5 ∧ deed = nI r := i_nat 5 c2.1 c2.2 rfl (by decide)
      have hl : lv_has ls 4 [(0, .ref (A0 0)), (1, .int (nI (r))), (2, .int (nI (dv)))] := hl
      have htd : tn (nI dv) = dv := tn_nI hh_dv
      refine lv_iconst (v := (nI 4)) hx hb dX12_deny_20 (by decide) ?_
      refine lv_iconst (v := (nI 4)) hx hb dX12_deny_21 (by decide) ?_
      refine lv_iload_n hx hb dX12_deny_22 rfl (lv_at hl 1 rfl) ?_
      refine b_mul hx hb dX12_deny_23 ?_
      refine b_add hx hb dX12_deny_24 ?_
      refine lv_iconst (v := (nI 1)) hx hb dX12_deny_25 (by decide) ?_
      refine b_add hx hb dX12_deny_26 ?_
      refine lv_istore_n (lv' := [(3, .int (nI (4 + (4 * r) + 1))), (0, .ref (A0 0)), (1, .int (nI (r))), (2, .int (nI (dv)))]) hx hb dX12_deny_27 rfl hl (by decide) rfl (fun ls hl => ?_)
      refine lv_aload_n hx hb dX12_deny_28 rfl (lv_at hl 1 rfl) ?_
      refine va_get (D := D) (ci := 11) (v := .ref (A0 6)) (C := RX12) (T := TX12) (N := 21) hx hb hts u_X12_deny_X12 hown hK.1 hP 0 rfl rfl 13 (by decide) (hts (.fieldLink RX12 25 "NoticeWeekModel" "now" "[I") (List.mem_of_getElem? (i := 2) rfl)) (fun _ h9 => h9) rfl dX12_deny_29 ?_
      refine lv_iload_n hx hb dX12_deny_32 rfl (lv_at hl 0 rfl) ?_
      refine b_ald hx hb hK hP 6 rfl (by omega) (by decide) dX12_deny_33 ?_
      refine lv_iload_n hx hb dX12_deny_34 rfl (lv_at hl 3 rfl) ?_
      refine b_call (va_runS (As := [.int (nw (4 + (4 * r) + 1)), .int (nI (dv))]) (rest := []) ⟨hx, hb, hml, hown, hts⟩ (c_X12_has l D cI cZ cT (nw (4 + (4 * r) + 1)) dv) (va_cwS 2 hts gX12_deny_X12_has rfl rfl rfl (by decide +kernel) ⟨(Nat.le_of_ble_eq_true rfl), (Nat.le_of_ble_eq_true rfl)⟩) (b_pS0 hK) rfl rfl hl.1 rfl (lv_room (Nat.le_of_ble_eq_true rfl)) dX12_deny_35 ⟨Nat.zero_le _, Nat.zero_le _⟩).run ?_
      refine b_ifne (tgt := 44) hx hb dX12_deny_38 (by decide) (fun c3 => ?_) (fun c3 => ?_)
      · refine lv_aload_n hx hb dX12_deny_44 rfl (lv_at hl 1 rfl) ?_
        refine b_callM [0, 1, 2, 3, 4, 5, 6, 7, 8, 9, 10, 11] (va_runV (As := []) (rest := []) ⟨hx, hb, hml, hown, hts⟩ (c_X12_notes l D cI cZ cT A0 ss tp fk fp ap sp tk vl nc tr la ma it sr bt nw dr pa im kp tc hnc) (cwV 0 hts gX12_deny_X12_notes rfl rfl rfl (by decide +kernel) ⟨(Nat.le_of_ble_eq_true rfl), (Nat.le_of_ble_eq_true rfl)⟩) (b_pVM hK hP hD [0, 1, 2, 3, 4, 5, 6, 7, 8, 9, 10, 11] (by decide) rfl rfl 0 rfl rfl) rfl rfl hl.1 rfl (lv_room (Nat.le_of_ble_eq_true rfl)) dX12_deny_45 ⟨Nat.zero_le _, Nat.zero_le _⟩).run hP hD hS rfl (Nat.le_of_ble_eq_true rfl) (fun H locs hP hS => ?_)
        have hP : va_P D vwCl (wM cI cZ A0 ss tp fk fp ap sp tk vl (nI (m_notes nc nw pa).1) tr la ma it sr bt nw dr ((m_notes nc nw pa).2) im kp tc) H := hP
        generalize eq45 : m_notes nc nw pa = q45 at hP ⊢
        have hP : va_P D vwCl (wM cI cZ A0 ss tp fk fp ap sp tk vl (nI q45.1) tr la ma it sr bt nw dr q45.2 im kp tc) H := hP
        have hD : va_D A (wM cI cZ A0 ss tp fk fp ap sp tk vl (nI q45.1) tr la ma it sr bt nw dr q45.2 im kp tc) := hD.sameA [(A0 0), (A0 1), (A0 2), (A0 3), (A0 4), (A0 5), (A0 6), (A0 7), (A0 8), (A0 9), (A0 10), (A0 11)] rfl rfl
        refine lv_aload_n hx hb dX12_deny_48 rfl (lv_at hl 1 rfl) ?_
        refine va_get (D := D) (ci := 11) (v := .ref (A0 6)) (C := RX12) (T := TX12) (N := 21) hx hb hts u_X12_deny_X12 hown hK.1 hP 0 rfl rfl 13 (by decide) (hts (.fieldLink RX12 25 "NoticeWeekModel" "now" "[I") (List.mem_of_getElem? (i := 2) rfl)) (fun _ h9 => h9) rfl dX12_deny_49 ?_
        refine lv_iload_n hx hb dX12_deny_52 rfl (lv_at hl 0 rfl) ?_
        refine lv_dup2_11 hx hb dX12_deny_53 rfl rfl ?_
        refine b_ald hx hb hK hP 6 rfl (by omega) (by decide) dX12_deny_54 ?_
        refine lv_iconst (v := 1) hx hb dX12_deny_55 (by decide) ?_
        refine lv_iload_n hx hb dX12_deny_56 rfl (lv_at hl 3 rfl) ?_
        refine lv_ishl hx hb dX12_deny_57 ?_
        refine lv_iconst (v := (-1)) hx hb dX12_deny_58 (by decide) ?_
        refine lv_ixor hx hb dX12_deny_59 ?_
        refine lv_iand hx hb dX12_deny_60 ?_
        refine b_ast hx hb hK hP hD hS 6 rfl (by omega) (by decide) dX12_deny_61 (fun H locs hP hS => ?_)
        have hP : va_P D vwCl (wM cI cZ A0 ss tp fk fp ap sp tk vl (nI q45.1) tr la ma it sr bt (upd nw (4 + (4 * r) + 1) ((nw (4 + (4 * r) + 1)) &&& ((1 <<< ((nI (dv)) &&& 31)) ^^^ (-1)))) dr q45.2 im kp tc) H := hP
        have hD : va_D A (wM cI cZ A0 ss tp fk fp ap sp tk vl (nI q45.1) tr la ma it sr bt (upd nw (4 + (4 * r) + 1) ((nw (4 + (4 * r) + 1)) &&& ((1 <<< ((nI (dv)) &&& 31)) ^^^ (-1)))) dr q45.2 im kp tc) := hD.sameA [(A0 0), (A0 1), (A0 2), (A0 3), (A0 4), (A0 5), (A0 6), (A0 7), (A0 8), (A0 9), (A0 10), (A0 11)] rfl rfl
        refine lv_aload_n hx hb dX12_deny_62 rfl (lv_at hl 1 rfl) ?_
        refine va_get (D := D) (ci := 11) (v := .ref (A0 6)) (C := RX12) (T := TX12) (N := 21) hx hb hts u_X12_deny_X12 hown hK.1 hP 0 rfl rfl 13 (by decide) (hts (.fieldLink RX12 25 "NoticeWeekModel" "now" "[I") (List.mem_of_getElem? (i := 2) rfl)) (fun _ h9 => h9) rfl dX12_deny_63 ?_
        refine lv_iload_n hx hb dX12_deny_66 rfl (lv_at hl 0 rfl) ?_
        refine b_ald hx hb hK hP 6 rfl (by omega) (by decide) dX12_deny_67 ?_
        have E : m_deny nw pa nc (nI r) (nI dv) = (((upd nw (4 + (4 * r) + 1) ((nw (4 + (4 * r) + 1)) &&& ((1 <<< ((nI (dv)) &&& 31)) ^^^ (-1)))) (4 + (4 * r) + 1)), q45.1, q45.2, (upd nw (4 + (4 * r) + 1) ((nw (4 + (4 * r) + 1)) &&& ((1 <<< ((nI (dv)) &&& 31)) ^^^ (-1))))) := (by subst eq45; first | (simp only [m_deny, upd, eq_true c1, eq_true c2, eq_true c3, htr, htd, bI, not_true_eq_false, not_false_eq_true, ite_true, ite_false, if_true, if_false, and_self, and_true, true_and, false_and, and_false, or_true, true_or, or_false, false_or, eq_self]; done) | (simp [m_deny, upd, eq_true c1, eq_true c2, eq_true c3, htr, htd, bI]; done))
        rw [E]
        exact b_retM hx hb hr hP hS rfl dX12_deny_68 hlocks
      · refine lv_ldc (v := (-1000002)) hx hb hown (hts (.constant RX12 159 (-1000002)) (List.mem_of_getElem? (i := 3) rfl)) dX12_deny_41 ?_
        have E : m_deny nw pa nc (nI r) (nI dv) = ((-1000002), nc, pa, nw) := (by first | (simp only [m_deny, upd, eq_true c1, eq_true c2, eq_false c3, htr, htd, bI, not_true_eq_false, not_false_eq_true, ite_true, ite_false, if_true, if_false, and_self, and_true, true_and, false_and, and_false, or_true, true_or, or_false, false_or, eq_self]; done) | (simp [m_deny, upd, eq_true c1, eq_true c2, eq_false c3, htr, htd, bI]; done))
        rw [E]
        exact b_retM hx hb hr hP hS rfl dX12_deny_43 hlocks
    · refine lv_ldc (v := (-1000001)) hx hb hown (hts (.constant RX12 58 (-1000001)) (List.mem_of_getElem? (i := 1) rfl)) dX12_deny_17 ?_
      have E : m_deny nw pa nc reader deed = ((-1000001), nc, pa, nw) := (by first | (simp only [m_deny, upd, eq_true c1, eq_false c2, bI, not_true_eq_false, not_false_eq_true, ite_true, ite_false, if_true, if_false, and_self, and_true, true_and, false_and, and_false, or_true, true_or, or_false, false_or, eq_self]; done) | (simp [m_deny, upd, eq_true c1, eq_false c2, bI]; done))
      rw [E]
      exact b_retM hx hb hr hP hS rfl dX12_deny_19 hlocks
theorem u_X12_spare_X12 : ∀ w ∈ wsX120, w ∈ wsX12_spare := fun _ h => List.mem_cons_of_mem _ (List.mem_append_right _ h)
set_option maxHeartbeats 4000000 in
set_option maxRecDepth 100000 in
theorem c_X12_spare (l : Launch) (D : va_G) (cI cZ cT : ClassId) (A0 : Nat → Nat) (ss tp fk fp ap sp tk vl : Int32) (nc : Nat) (tr : Int32) (la ma it sr bt nw dr pa im kp tc : Nat → Int32) (reader x : Int32) (n : Nat) (hW : TK nw n) (hnc : nc ≤ 24) : Met l yX12_spare wsX12_spare ({ frames := 2, cells := 0, slots := 0, locals := 45 }) (pM D cI cZ cT [.ref (A0 0), .int reader, .int x] (wM cI cZ A0 ss tp fk fp ap sp tk vl (nI nc) tr la ma it sr bt nw dr pa im kp tc)) (qM D (some (.int ((m_spare nw pa nc reader x).1))) (wM cI cZ A0 ss tp fk fp ap sp tk vl (nI (m_spare nw pa nc reader x).2.1) tr la ma it sr bt ((m_spare nw pa nc reader x).2.2.2) dr ((m_spare nw pa nc reader x).2.2.1) im kp tc) (adr (wM cI cZ A0 ss tp fk fp ap sp tk vl (nI nc) tr la ma it sr bt nw dr pa im kp tc))) 0 0 (adr (wM cI cZ A0 ss tp fk fp ap sp tk vl (nI nc) tr la ma it sr bt nw dr pa im kp tc)) := by
  refine Met.ofW (cc := cX12_spare) (maxL := 4) (ret := (some .int)) (by decide) rfl ?_
  intro p e s m args below meth c s₁ B hml hv
  obtain ⟨rfl, hP, hD0, hK⟩ := hv
  have hx := B.exec
  have hb := B.bytes
  have hr := B.returns
  have hts := atoms_spec (ws := wsX12_spare) B.pre
  have hown : s.vm.findClass RX12 = some m.cls := findClass_of_methodNamed B.named
  have hlocks := B.notSynchronized
  have hD := hD0.toAdr
  have hS : va_S (adr (wM cI cZ A0 ss tp fk fp ap sp tk vl (nI nc) tr la ma it sr bt nw dr pa im kp tc)) s.heap s.heap [] := va_S.rf
  generalize adr (wM cI cZ A0 ss tp fk fp ap sp tk vl (nI nc) tr la ma it sr bt nw dr pa im kp tc) = A at hD hS ⊢
  have hl := lv_entry ([.ref (A0 0), .int reader, .int x]) (n := 4) (Nat.le_of_ble_eq_true rfl)
  rw [lg_entry_eq]
  generalize (lg_sl ([.ref (A0 0), .int reader, .int x]) ++ List.replicate (4 - (lg_sl ([.ref (A0 0), .int reader, .int x])).length) Slot.unset).toArray = ls at hl ⊢
  have hl : lv_has ls 4 [(0, .ref (A0 0)), (1, .int reader), (2, .int x)] := hl
  refine lv_aload_n hx hb dX12_spare_0 rfl (lv_at hl 0 rfl) ?_
  refine lv_iload_n hx hb dX12_spare_1 rfl (lv_at hl 1 rfl) ?_
  refine b_call (va_runV (As := [.int reader]) (rest := []) ⟨hx, hb, hml, hown, hts⟩ (c_X12_isReader l D cI cZ cT A0 ss tp fk fp ap sp tk vl (nI nc) tr la ma it sr bt nw dr pa im kp tc reader) (cwV 1 hts gX12_spare_X12_isReader rfl rfl rfl (by decide +kernel) ⟨(Nat.le_of_ble_eq_true rfl), (Nat.le_of_ble_eq_true rfl)⟩) (b_pV hK hP [0, 1, 2, 3, 4, 5, 6, 7, 8, 9, 10, 11] rfl 0 rfl rfl) rfl rfl hl.1 rfl (lv_room (Nat.le_of_ble_eq_true rfl)) dX12_spare_2 ⟨Nat.zero_le _, Nat.zero_le _⟩).run ?_
  refine b_ifeq (tgt := 18) hx hb dX12_spare_5 (by decide) (fun c1 => ?_) (fun c1 => ?_)
  · refine lv_ldc (v := (-1000001)) hx hb hown (hts (.constant RX12 58 (-1000001)) (List.mem_of_getElem? (i := 1) rfl)) dX12_spare_18 ?_
    have E : m_spare nw pa nc reader x = ((-1000001), nc, pa, nw) := (by first | (simp only [m_spare, spv, upd, eq_false c1, bI, not_true_eq_false, not_false_eq_true, ite_true, ite_false, if_true, if_false, and_self, and_true, true_and, false_and, and_false, or_true, true_or, or_false, false_or, eq_self]; done) | (simp [m_spare, spv, upd, eq_false c1, bI]; done))
    rw [E]
    exact b_retM hx hb hr hP hS rfl dX12_spare_20 hlocks
  · refine lv_iload_n hx hb dX12_spare_8 rfl (lv_at hl 2 rfl) ?_
    refine lv_iconst (v := 1) hx hb dX12_spare_9 (by decide) ?_
    refine lv_bipush (v := 60) hx hb dX12_spare_10 (by decide) ?_
    refine b_call (va_runS (As := [.int x, .int 1, .int 60]) (rest := []) ⟨hx, hb, hml, hown, hts⟩ (c_X12_in l D cI cZ cT x 1 60) (va_cwS 3 hts gX12_spare_X12_in rfl rfl rfl (by decide +kernel) ⟨(Nat.le_of_ble_eq_true rfl), (Nat.le_of_ble_eq_true rfl)⟩) (b_pS0 hK) rfl rfl hl.1 rfl (lv_room (Nat.le_of_ble_eq_true rfl)) dX12_spare_12 ⟨Nat.zero_le _, Nat.zero_le _⟩).run ?_
    refine b_ifne (tgt := 21) hx hb dX12_spare_15 (by decide) (fun c2 => ?_) (fun c2 => ?_)
    · obtain ⟨r, hh_r, rfl⟩ : ∃ r : Nat, r ≤ 5 ∧ reader = nI r := i_rd hW c1
      have hl : lv_has ls 4 [(0, .ref (A0 0)), (1, .int (nI (r))), (2, .int x)] := hl
      have htr : tn (nI r) = r := tn_nI hh_r
      refine lv_aload_n hx hb dX12_spare_21 rfl (lv_at hl 0 rfl) ?_
      refine lv_iload_n hx hb dX12_spare_22 rfl (lv_at hl 1 rfl) ?_
      refine b_call (va_runV (As := [.int (nI (r))]) (rest := []) ⟨hx, hb, hml, hown, hts⟩ (c_X12_lives l D cI cZ cT A0 ss tp fk fp ap sp tk vl (nI nc) tr la ma it sr bt nw dr pa im kp tc r (by omega)) (cwV 1 hts gX12_spare_X12_lives rfl rfl rfl (by decide +kernel) ⟨(Nat.le_of_ble_eq_true rfl), (Nat.le_of_ble_eq_true rfl)⟩) (b_pV hK hP [0, 1, 2, 3, 4, 5, 6, 7, 8, 9, 10, 11] rfl 0 rfl rfl) rfl rfl hl.1 rfl (lv_room (Nat.le_of_ble_eq_true rfl)) dX12_spare_23 ⟨Nat.zero_le _, Nat.zero_le _⟩).run ?_
      refine b_ifne (tgt := 32) hx hb dX12_spare_26 (by decide) (fun c3 => ?_) (fun c3 => ?_)
      · refine lv_aload_n hx hb dX12_spare_32 rfl (lv_at hl 0 rfl) ?_
        refine b_callM [0, 1, 2, 3, 4, 5, 6, 7, 8, 9, 10, 11] (va_runV (As := []) (rest := []) ⟨hx, hb, hml, hown, hts⟩ (c_X12_notes l D cI cZ cT A0 ss tp fk fp ap sp tk vl nc tr la ma it sr bt nw dr pa im kp tc hnc) (cwV 0 hts gX12_spare_X12_notes rfl rfl rfl (by decide +kernel) ⟨(Nat.le_of_ble_eq_true rfl), (Nat.le_of_ble_eq_true rfl)⟩) (b_pVM hK hP hD [0, 1, 2, 3, 4, 5, 6, 7, 8, 9, 10, 11] (by decide) rfl rfl 0 rfl rfl) rfl rfl hl.1 rfl (lv_room (Nat.le_of_ble_eq_true rfl)) dX12_spare_33 ⟨Nat.zero_le _, Nat.zero_le _⟩).run hP hD hS rfl (Nat.le_of_ble_eq_true rfl) (fun H locs hP hS => ?_)
        have hP : va_P D vwCl (wM cI cZ A0 ss tp fk fp ap sp tk vl (nI (m_notes nc nw pa).1) tr la ma it sr bt nw dr ((m_notes nc nw pa).2) im kp tc) H := hP
        generalize eq33 : m_notes nc nw pa = q33 at hP ⊢
        have hP : va_P D vwCl (wM cI cZ A0 ss tp fk fp ap sp tk vl (nI q33.1) tr la ma it sr bt nw dr q33.2 im kp tc) H := hP
        have hD : va_D A (wM cI cZ A0 ss tp fk fp ap sp tk vl (nI q33.1) tr la ma it sr bt nw dr q33.2 im kp tc) := hD.sameA [(A0 0), (A0 1), (A0 2), (A0 3), (A0 4), (A0 5), (A0 6), (A0 7), (A0 8), (A0 9), (A0 10), (A0 11)] rfl rfl
        refine lv_iconst (v := (nI 4)) hx hb dX12_spare_36 (by decide) ?_
        refine lv_iconst (v := (nI 4)) hx hb dX12_spare_37 (by decide) ?_
        refine lv_iload_n hx hb dX12_spare_38 rfl (lv_at hl 1 rfl) ?_
        refine b_mul hx hb dX12_spare_39 ?_
        refine b_add hx hb dX12_spare_40 ?_
        refine lv_iconst (v := (nI 3)) hx hb dX12_spare_41 (by decide) ?_
        refine b_add hx hb dX12_spare_42 ?_
        refine lv_istore_n (lv' := [(3, .int (nI (4 + (4 * r) + 3))), (0, .ref (A0 0)), (1, .int (nI (r))), (2, .int x)]) hx hb dX12_spare_43 rfl hl (by decide) rfl (fun ls hl => ?_)
        refine lv_aload_n hx hb dX12_spare_44 rfl (lv_at hl 1 rfl) ?_
        refine va_get (D := D) (ci := 11) (v := .ref (A0 6)) (C := RX12) (T := TX12) (N := 21) hx hb hts u_X12_spare_X12 hown hK.1 hP 0 rfl rfl 13 (by decide) (hts (.fieldLink RX12 25 "NoticeWeekModel" "now" "[I") (List.mem_of_getElem? (i := 3) rfl)) (fun _ h9 => h9) rfl dX12_spare_45 ?_
        refine lv_iload_n hx hb dX12_spare_48 rfl (lv_at hl 0 rfl) ?_
        refine b_join (jpc := 75) (rest' := [.int (nI (4 + (4 * r) + 3)), .ref (A0 6)]) (P := fun v : Int32 => v = ((if 60 ≤ (nw (4 + (4 * r) + 3)) + x then 60 else (nw (4 + (4 * r) + 3)) + x) : Int32)) (fun v4 ev4 => ?_) (fun K5 => ?_)
        · subst ev4
          refine b_ast hx hb hK hP hD hS 6 rfl (by omega) (by decide) dX12_spare_75 (fun H locs hP hS => ?_)
          have hP : va_P D vwCl (wM cI cZ A0 ss tp fk fp ap sp tk vl (nI q33.1) tr la ma it sr bt (upd nw (4 + (4 * r) + 3) (if 60 ≤ (nw (4 + (4 * r) + 3)) + x then 60 else (nw (4 + (4 * r) + 3)) + x)) dr q33.2 im kp tc) H := hP
          have hD : va_D A (wM cI cZ A0 ss tp fk fp ap sp tk vl (nI q33.1) tr la ma it sr bt (upd nw (4 + (4 * r) + 3) (if 60 ≤ (nw (4 + (4 * r) + 3)) + x then 60 else (nw (4 + (4 * r) + 3)) + x)) dr q33.2 im kp tc) := hD.sameA [(A0 0), (A0 1), (A0 2), (A0 3), (A0 4), (A0 5), (A0 6), (A0 7), (A0 8), (A0 9), (A0 10), (A0 11)] rfl rfl
          refine lv_aload_n hx hb dX12_spare_76 rfl (lv_at hl 1 rfl) ?_
          refine va_get (D := D) (ci := 11) (v := .ref (A0 6)) (C := RX12) (T := TX12) (N := 21) hx hb hts u_X12_spare_X12 hown hK.1 hP 0 rfl rfl 13 (by decide) (hts (.fieldLink RX12 25 "NoticeWeekModel" "now" "[I") (List.mem_of_getElem? (i := 3) rfl)) (fun _ h9 => h9) rfl dX12_spare_77 ?_
          refine lv_iload_n hx hb dX12_spare_80 rfl (lv_at hl 0 rfl) ?_
          refine b_ald hx hb hK hP 6 rfl (by omega) (by decide) dX12_spare_81 ?_
          have E : m_spare nw pa nc (nI r) x = (((upd nw (4 + (4 * r) + 3) (if 60 ≤ (nw (4 + (4 * r) + 3)) + x then 60 else (nw (4 + (4 * r) + 3)) + x)) (4 + (4 * r) + 3)), q33.1, q33.2, (upd nw (4 + (4 * r) + 3) (if 60 ≤ (nw (4 + (4 * r) + 3)) + x then 60 else (nw (4 + (4 * r) + 3)) + x))) := (by subst eq33; first | (simp only [m_spare, spv, upd, eq_true c1, eq_true c2, eq_true c3, htr, bI, not_true_eq_false, not_false_eq_true, ite_true, ite_false, if_true, if_false, and_self, and_true, true_and, false_and, and_false, or_true, true_or, or_false, false_or, eq_self]; done) | (simp [m_spare, spv, upd, eq_true c1, eq_true c2, eq_true c3, htr, bI]; done))
          rw [E]
          exact b_retM hx hb hr hP hS rfl dX12_spare_82 hlocks
        · refine lv_aload_n hx hb dX12_spare_49 rfl (lv_at hl 1 rfl) ?_
          refine va_get (D := D) (ci := 11) (v := .ref (A0 6)) (C := RX12) (T := TX12) (N := 21) hx hb hts u_X12_spare_X12 hown hK.1 hP 0 rfl rfl 13 (by decide) (hts (.fieldLink RX12 25 "NoticeWeekModel" "now" "[I") (List.mem_of_getElem? (i := 3) rfl)) (fun _ h9 => h9) rfl dX12_spare_50 ?_
          refine lv_iload_n hx hb dX12_spare_53 rfl (lv_at hl 0 rfl) ?_
          refine b_ald hx hb hK hP 6 rfl (by omega) (by decide) dX12_spare_54 ?_
          refine lv_iload_n hx hb dX12_spare_55 rfl (lv_at hl 3 rfl) ?_
          refine lv_iadd hx hb dX12_spare_56 ?_
          refine lv_bipush (v := 60) hx hb dX12_spare_57 (by decide) ?_
          refine lv_icmp_ge (tgt := 73) hx hb dX12_spare_59 (by decide) (fun c6 => ?_) (fun c6 => ?_)
          · refine lv_bipush (v := 60) hx hb dX12_spare_73 (by decide) ?_
            exact K5 _ (by first | with_reducible rfl | (simp only [bI, eq_true c1, eq_true c2, eq_true c3, eq_true c6, not_true_eq_false, not_false_eq_true, ite_true, ite_false, if_true, if_false, and_self, and_true, true_and, false_and, and_false, or_true, true_or, or_false, false_or]; done) | (simp [bI, eq_true c1, eq_true c2, eq_true c3, eq_true c6]; done) | omega)
          · refine lv_aload_n hx hb dX12_spare_62 rfl (lv_at hl 1 rfl) ?_
            refine va_get (D := D) (ci := 11) (v := .ref (A0 6)) (C := RX12) (T := TX12) (N := 21) hx hb hts u_X12_spare_X12 hown hK.1 hP 0 rfl rfl 13 (by decide) (hts (.fieldLink RX12 25 "NoticeWeekModel" "now" "[I") (List.mem_of_getElem? (i := 3) rfl)) (fun _ h9 => h9) rfl dX12_spare_63 ?_
            refine lv_iload_n hx hb dX12_spare_66 rfl (lv_at hl 0 rfl) ?_
            refine b_ald hx hb hK hP 6 rfl (by omega) (by decide) dX12_spare_67 ?_
            refine lv_iload_n hx hb dX12_spare_68 rfl (lv_at hl 3 rfl) ?_
            refine lv_iadd hx hb dX12_spare_69 ?_
            refine lv_goto (tgt := 75) hx hb dX12_spare_70 (by decide) ?_
            exact K5 _ (by first | with_reducible rfl | (simp only [bI, eq_true c1, eq_true c2, eq_true c3, eq_false c6, not_true_eq_false, not_false_eq_true, ite_true, ite_false, if_true, if_false, and_self, and_true, true_and, false_and, and_false, or_true, true_or, or_false, false_or]; done) | (simp [bI, eq_true c1, eq_true c2, eq_true c3, eq_false c6]; done) | omega)
      · refine lv_ldc (v := (-1000002)) hx hb hown (hts (.constant RX12 159 (-1000002)) (List.mem_of_getElem? (i := 2) rfl)) dX12_spare_29 ?_
        have E : m_spare nw pa nc (nI r) x = ((-1000002), nc, pa, nw) := (by first | (simp only [m_spare, spv, upd, eq_true c1, eq_true c2, eq_false c3, htr, bI, not_true_eq_false, not_false_eq_true, ite_true, ite_false, if_true, if_false, and_self, and_true, true_and, false_and, and_false, or_true, true_or, or_false, false_or, eq_self]; done) | (simp [m_spare, spv, upd, eq_true c1, eq_true c2, eq_false c3, htr, bI]; done))
        rw [E]
        exact b_retM hx hb hr hP hS rfl dX12_spare_31 hlocks
    · refine lv_ldc (v := (-1000001)) hx hb hown (hts (.constant RX12 58 (-1000001)) (List.mem_of_getElem? (i := 1) rfl)) dX12_spare_18 ?_
      have E : m_spare nw pa nc reader x = ((-1000001), nc, pa, nw) := (by first | (simp only [m_spare, spv, upd, eq_true c1, eq_false c2, bI, not_true_eq_false, not_false_eq_true, ite_true, ite_false, if_true, if_false, and_self, and_true, true_and, false_and, and_false, or_true, true_or, or_false, false_or, eq_self]; done) | (simp [m_spare, spv, upd, eq_true c1, eq_false c2, bI]; done))
      rw [E]
      exact b_retM hx hb hr hP hS rfl dX12_spare_20 hlocks
theorem u_X12_undo_X12 : ∀ w ∈ wsX120, w ∈ wsX12_undo := fun _ h => List.mem_cons_of_mem _ (List.mem_append_right _ h)
set_option maxHeartbeats 4000000 in
set_option maxRecDepth 100000 in
theorem c_X12_undo (l : Launch) (D : va_G) (cI cZ cT : ClassId) (A0 : Nat → Nat) (ss tp fk fp ap sp tk vl : Int32) (nc : Nat) (tr : Int32) (la ma it sr bt nw dr pa im kp tc : Nat → Int32) (hnc : nc ≤ 24) : Met l yX12_undo wsX12_undo ({ frames := 1, cells := 0, slots := 0, locals := 24 }) (pM D cI cZ cT [.ref (A0 0)] (wM cI cZ A0 ss tp fk fp ap sp tk vl (nI nc) tr la ma it sr bt nw dr pa im kp tc)) (qM D (some (.int ((m_undo nw pa nc).1))) (wM cI cZ A0 ss tp fk fp ap sp tk vl (nI (m_undo nw pa nc).2.1) tr la ma it sr bt ((m_undo nw pa nc).2.2) dr pa im kp tc) (adr (wM cI cZ A0 ss tp fk fp ap sp tk vl (nI nc) tr la ma it sr bt nw dr pa im kp tc))) 0 0 (adr (wM cI cZ A0 ss tp fk fp ap sp tk vl (nI nc) tr la ma it sr bt nw dr pa im kp tc)) := by
  refine Met.ofW (cc := cX12_undo) (maxL := 1) (ret := (some .int)) (by decide) rfl ?_
  intro p e s m args below meth c s₁ B hml hv
  obtain ⟨rfl, hP, hD0, hK⟩ := hv
  have hx := B.exec
  have hb := B.bytes
  have hr := B.returns
  have hts := atoms_spec (ws := wsX12_undo) B.pre
  have hown : s.vm.findClass RX12 = some m.cls := findClass_of_methodNamed B.named
  have hlocks := B.notSynchronized
  have hD := hD0.toAdr
  have hS : va_S (adr (wM cI cZ A0 ss tp fk fp ap sp tk vl (nI nc) tr la ma it sr bt nw dr pa im kp tc)) s.heap s.heap [] := va_S.rf
  generalize adr (wM cI cZ A0 ss tp fk fp ap sp tk vl (nI nc) tr la ma it sr bt nw dr pa im kp tc) = A at hD hS ⊢
  have hl := lv_entry ([.ref (A0 0)]) (n := 1) (Nat.le_of_ble_eq_true rfl)
  rw [lg_entry_eq]
  generalize (lg_sl ([.ref (A0 0)]) ++ List.replicate (1 - (lg_sl ([.ref (A0 0)])).length) Slot.unset).toArray = ls at hl ⊢
  have hl : lv_has ls 1 [(0, .ref (A0 0))] := hl
  refine lv_aload_n hx hb dX12_undo_0 rfl (lv_at hl 0 rfl) ?_
  refine va_get (D := D) (ci := 11) (v := .int (nI (nc))) (C := RX12) (T := TX12) (N := 21) hx hb hts u_X12_undo_X12 hown hK.1 hP 0 rfl rfl 16 (by decide) (hts (.fieldLink RX12 129 "NoticeWeekModel" "acts" "I") (List.mem_of_getElem? (i := 1) rfl)) (fun _ h9 => h9) rfl dX12_undo_1 ?_
  refine lv_if_ne (tgt := 10) hx hb dX12_undo_4 (by decide) (fun c1 => ?_) (fun c1 => ?_)
  · have h1nc : 1 ≤ nc := by rcases Nat.eq_zero_or_pos nc with z | z; exact absurd (by rw [z]; rfl) c1; exact z
    refine lv_aload_n hx hb dX12_undo_10 rfl (lv_at hl 0 rfl) ?_
    refine lv_dup hx hb dX12_undo_11 rfl ?_
    refine va_get (D := D) (ci := 11) (v := .int (nI (nc))) (C := RX12) (T := TX12) (N := 21) hx hb hts u_X12_undo_X12 hown hK.1 hP 0 rfl rfl 16 (by decide) (hts (.fieldLink RX12 129 "NoticeWeekModel" "acts" "I") (List.mem_of_getElem? (i := 1) rfl)) (fun _ h9 => h9) rfl dX12_undo_12 ?_
    refine lv_iconst (v := (nI 1)) hx hb dX12_undo_15 (by decide) ?_
    refine b_sub hx hb (by omega) dX12_undo_16 ?_
    refine b_put (C := RX12) (T := TX12) (N := 21) hx hb hts u_X12_undo_X12 tyX12 tyX12_ok nmX12 hown hK hP hD hS 0 rfl rfl 16 (by decide) (hts (.fieldLink RX12 129 "NoticeWeekModel" "acts" "I") (List.mem_of_getElem? (i := 1) rfl)) rfl (by decide +kernel) (Nat.le_of_ble_eq_true rfl) dX12_undo_17 (fun H locs hP hS => ?_)
    have hP : va_P D vwCl (wM cI cZ A0 ss tp fk fp ap sp tk vl (nI (nc - 1)) tr la ma it sr bt nw dr pa im kp tc) H := hP
    have hD : va_D A (wM cI cZ A0 ss tp fk fp ap sp tk vl (nI (nc - 1)) tr la ma it sr bt nw dr pa im kp tc) := hD.sameA [(A0 0), (A0 1), (A0 2), (A0 3), (A0 4), (A0 5), (A0 6), (A0 7), (A0 8), (A0 9), (A0 10), (A0 11)] rfl rfl
    refine lv_aload_n hx hb dX12_undo_20 rfl (lv_at hl 0 rfl) ?_
    refine va_get (D := D) (ci := 11) (v := .ref (A0 8)) (C := RX12) (T := TX12) (N := 21) hx hb hts u_X12_undo_X12 hown hK.1 hP 0 rfl rfl 15 (by decide) (hts (.fieldLink RX12 31 "NoticeWeekModel" "past" "[I") (List.mem_of_getElem? (i := 3) rfl)) (fun _ h9 => h9) rfl dX12_undo_21 ?_
    refine lv_bipush (v := (nI 28)) hx hb dX12_undo_24 (by decide) ?_
    refine lv_aload_n hx hb dX12_undo_26 rfl (lv_at hl 0 rfl) ?_
    refine va_get (D := D) (ci := 11) (v := .int (nI (nc - 1))) (C := RX12) (T := TX12) (N := 21) hx hb hts u_X12_undo_X12 hown hK.1 hP 0 rfl rfl 16 (by decide) (hts (.fieldLink RX12 129 "NoticeWeekModel" "acts" "I") (List.mem_of_getElem? (i := 1) rfl)) (fun _ h9 => h9) rfl dX12_undo_27 ?_
    refine b_mul hx hb dX12_undo_30 ?_
    refine lv_aload_n hx hb dX12_undo_31 rfl (lv_at hl 0 rfl) ?_
    refine va_get (D := D) (ci := 11) (v := .ref (A0 6)) (C := RX12) (T := TX12) (N := 21) hx hb hts u_X12_undo_X12 hown hK.1 hP 0 rfl rfl 13 (by decide) (hts (.fieldLink RX12 25 "NoticeWeekModel" "now" "[I") (List.mem_of_getElem? (i := 4) rfl)) (fun _ h9 => h9) rfl dX12_undo_32 ?_
    refine lv_iconst (v := (nI 0)) hx hb dX12_undo_35 (by decide) ?_
    refine b_callM [0, 1, 2, 3, 4, 5, 6, 7, 8, 9, 10, 11] (va_runS (As := [.ref (A0 8), .int (nI (28 * (nc - 1))), .ref (A0 6), .int (nI 0)]) (rest := []) ⟨hx, hb, hml, hown, hts⟩ (c_X12_copies_pn l D cI cZ cT A0 ss tp fk fp ap sp tk vl (nI (nc - 1)) tr la ma it sr bt nw dr pa im kp tc (28 * (nc - 1)) 0 (by omega) (by omega)) (va_cwS 4 hts gX12_undo_X12_copies rfl rfl rfl (by decide +kernel) ⟨(Nat.le_of_ble_eq_true rfl), (Nat.le_of_ble_eq_true rfl)⟩) (b_pSM hK hP hD [0, 1, 2, 3, 4, 5, 6, 7, 8, 9, 10, 11] (by decide) rfl rfl) rfl rfl hl.1 rfl (lv_room (Nat.le_of_ble_eq_true rfl)) dX12_undo_36 ⟨Nat.zero_le _, Nat.zero_le _⟩).run hP hD hS rfl (Nat.le_of_ble_eq_true rfl) (fun H locs hP hS => ?_)
    have hP : va_P D vwCl (wM cI cZ A0 ss tp fk fp ap sp tk vl (nI (nc - 1)) tr la ma it sr bt (cpy pa (28 * (nc - 1)) nw 0 28) dr pa im kp tc) H := hP
    have hD : va_D A (wM cI cZ A0 ss tp fk fp ap sp tk vl (nI (nc - 1)) tr la ma it sr bt (cpy pa (28 * (nc - 1)) nw 0 28) dr pa im kp tc) := hD.sameA [(A0 0), (A0 1), (A0 2), (A0 3), (A0 4), (A0 5), (A0 6), (A0 7), (A0 8), (A0 9), (A0 10), (A0 11)] rfl rfl
    refine lv_aload_n hx hb dX12_undo_39 rfl (lv_at hl 0 rfl) ?_
    refine va_get (D := D) (ci := 11) (v := .int (nI (nc - 1))) (C := RX12) (T := TX12) (N := 21) hx hb hts u_X12_undo_X12 hown hK.1 hP 0 rfl rfl 16 (by decide) (hts (.fieldLink RX12 129 "NoticeWeekModel" "acts" "I") (List.mem_of_getElem? (i := 1) rfl)) (fun _ h9 => h9) rfl dX12_undo_40 ?_
    have E : m_undo nw pa nc = ((nI (nc - 1)), nc - 1, (cpy pa (28 * (nc - 1)) nw 0 28)) := (by first | (simp only [m_undo, eq_false c1, bI, not_true_eq_false, not_false_eq_true, ite_true, ite_false, if_true, if_false, and_self, and_true, true_and, false_and, and_false, or_true, true_or, or_false, false_or, eq_self]; done) | (simp [m_undo, eq_false c1, bI]; done))
    rw [E]
    exact b_retM hx hb hr hP hS rfl dX12_undo_43 hlocks
  · refine lv_ldc (v := (-1000002)) hx hb hown (hts (.constant RX12 159 (-1000002)) (List.mem_of_getElem? (i := 2) rfl)) dX12_undo_7 ?_
    have E : m_undo nw pa nc = ((-1000002), nc, nw) := (by first | (simp only [m_undo, eq_true c1, bI, not_true_eq_false, not_false_eq_true, ite_true, ite_false, if_true, if_false, and_self, and_true, true_and, false_and, and_false, or_true, true_or, or_false, false_or, eq_self]; done) | (simp [m_undo, eq_true c1, bI]; done))
    rw [E]
    exact b_retM hx hb hr hP hS rfl dX12_undo_9 hlocks
theorem u_X12_reader_X12 : ∀ w ∈ wsX120, w ∈ wsX12_reader := fun _ h => List.mem_cons_of_mem _ (List.mem_append_right _ h)
set_option maxHeartbeats 4000000 in
set_option maxRecDepth 100000 in
theorem c_X12_reader (l : Launch) (D : va_G) (cI cZ cT : ClassId) (A0 : Nat → Nat) (ss tp fk fp ap sp tk vl ac tr : Int32) (la ma it sr bt nw dr pa im kp tc : Nat → Int32) (reader what : Int32) (n : Nat) (hW : TK nw n) : Met l yX12_reader wsX12_reader ({ frames := 6, cells := 0, slots := 0, locals := 140 }) (pR D cI cZ cT [.ref (A0 0), .int reader, .int what] (wM cI cZ A0 ss tp fk fp ap sp tk vl ac tr la ma it sr bt nw dr pa im kp tc)) (QcRead (m_reader nw reader what)) 0 0 (fun _ => False) := by
  refine Met.ofW (cc := cX12_reader) (maxL := 4) (ret := (some .int)) (by decide) rfl ?_
  intro p e s m args below meth c s₁ B hml hv
  obtain ⟨rfl, hP, hK⟩ := hv
  have hx := B.exec
  have hb := B.bytes
  have hr := B.returns
  have hts := atoms_spec (ws := wsX12_reader) B.pre
  have hown : s.vm.findClass RX12 = some m.cls := findClass_of_methodNamed B.named
  have hlocks := B.notSynchronized
  have hl := lv_entry ([.ref (A0 0), .int reader, .int what]) (n := 4) (Nat.le_of_ble_eq_true rfl)
  rw [lg_entry_eq]
  generalize (lg_sl ([.ref (A0 0), .int reader, .int what]) ++ List.replicate (4 - (lg_sl ([.ref (A0 0), .int reader, .int what])).length) Slot.unset).toArray = ls at hl ⊢
  have hl : lv_has ls 4 [(0, .ref (A0 0)), (1, .int reader), (2, .int what)] := hl
  refine lv_aload_n hx hb dX12_reader_0 rfl (lv_at hl 0 rfl) ?_
  refine lv_iload_n hx hb dX12_reader_1 rfl (lv_at hl 1 rfl) ?_
  refine b_call (va_runV (As := [.int reader]) (rest := []) ⟨hx, hb, hml, hown, hts⟩ (c_X12_isReader l D cI cZ cT A0 ss tp fk fp ap sp tk vl ac tr la ma it sr bt nw dr pa im kp tc reader) (cwV 1 hts gX12_reader_X12_isReader rfl rfl rfl (by decide +kernel) ⟨(Nat.le_of_ble_eq_true rfl), (Nat.le_of_ble_eq_true rfl)⟩) (b_pV hK hP [0, 1, 2, 3, 4, 5, 6, 7, 8, 9, 10, 11] rfl 0 rfl rfl) rfl rfl hl.1 rfl (lv_room (Nat.le_of_ble_eq_true rfl)) dX12_reader_2 ⟨Nat.zero_le _, Nat.zero_le _⟩).run ?_
  refine b_ifne (tgt := 11) hx hb dX12_reader_5 (by decide) (fun c1 => ?_) (fun c1 => ?_)
  · obtain ⟨r, hh_r, rfl⟩ : ∃ r : Nat, r ≤ 5 ∧ reader = nI r := i_rd hW c1
    have hl : lv_has ls 4 [(0, .ref (A0 0)), (1, .int (nI (r))), (2, .int what)] := hl
    have htr : tn (nI r) = r := tn_nI hh_r
    refine lv_iconst (v := (nI 4)) hx hb dX12_reader_11 (by decide) ?_
    refine lv_iconst (v := (nI 4)) hx hb dX12_reader_12 (by decide) ?_
    refine lv_iload_n hx hb dX12_reader_13 rfl (lv_at hl 1 rfl) ?_
    refine b_mul hx hb dX12_reader_14 ?_
    refine b_add hx hb dX12_reader_15 ?_
    refine lv_istore_n (lv' := [(3, .int (nI (4 + (4 * r)))), (0, .ref (A0 0)), (1, .int (nI (r))), (2, .int what)]) hx hb dX12_reader_16 rfl hl (by decide) rfl (fun ls hl => ?_)
    refine lv_iload_n hx hb dX12_reader_17 rfl (lv_at hl 3 rfl) ?_
    by_cases c2 : what = 0
    · refine lv_tableIn (tgt := 52) hx hb dX12_reader_18 (by rw [c2]; decide) (by rw [c2]; decide) (off := 34) (by rw [c2]; decide) (by decide) ?_
      refine lv_aload_n hx hb dX12_reader_52 rfl (lv_at hl 1 rfl) ?_
      refine va_get (D := D) (ci := 11) (v := .ref (A0 6)) (C := RX12) (T := TX12) (N := 21) hx hb hts u_X12_reader_X12 hown hK.1 hP 0 rfl rfl 13 (by decide) (hts (.fieldLink RX12 25 "NoticeWeekModel" "now" "[I") (List.mem_of_getElem? (i := 2) rfl)) (fun _ h9 => h9) rfl dX12_reader_53 ?_
      refine lv_iload_n hx hb dX12_reader_56 rfl (lv_at hl 0 rfl) ?_
      refine lv_iconst (v := (nI 1)) hx hb dX12_reader_57 (by decide) ?_
      refine b_add hx hb dX12_reader_58 ?_
      refine b_ald hx hb hK hP 6 rfl (by omega) (by decide) dX12_reader_59 ?_
      exact b_ret hx hb hr (by first | (simp only [m_reader, eq_true c1, eq_true c2, htr, bI, not_true_eq_false, not_false_eq_true, ite_true, ite_false, if_true, if_false, and_self, and_true, true_and, false_and, and_false, or_true, true_or, or_false, false_or, eq_self]; done) | (simp [m_reader, eq_true c1, eq_true c2, htr, bI]; done)) dX12_reader_60 hlocks
    by_cases c3 : what = 1
    · refine lv_tableIn (tgt := 61) hx hb dX12_reader_18 (by rw [c3]; decide) (by rw [c3]; decide) (off := 43) (by rw [c3]; decide) (by decide) ?_
      refine lv_aload_n hx hb dX12_reader_61 rfl (lv_at hl 1 rfl) ?_
      refine va_get (D := D) (ci := 11) (v := .ref (A0 6)) (C := RX12) (T := TX12) (N := 21) hx hb hts u_X12_reader_X12 hown hK.1 hP 0 rfl rfl 13 (by decide) (hts (.fieldLink RX12 25 "NoticeWeekModel" "now" "[I") (List.mem_of_getElem? (i := 2) rfl)) (fun _ h9 => h9) rfl dX12_reader_62 ?_
      refine lv_iload_n hx hb dX12_reader_65 rfl (lv_at hl 0 rfl) ?_
      refine lv_iconst (v := (nI 2)) hx hb dX12_reader_66 (by decide) ?_
      refine b_add hx hb dX12_reader_67 ?_
      refine b_ald hx hb hK hP 6 rfl (by omega) (by decide) dX12_reader_68 ?_
      exact b_ret hx hb hr (by first | (simp only [m_reader, eq_true c1, eq_false c2, eq_true c3, htr, bI, not_true_eq_false, not_false_eq_true, ite_true, ite_false, if_true, if_false, and_self, and_true, true_and, false_and, and_false, or_true, true_or, or_false, false_or, eq_self]; done) | (simp [m_reader, eq_true c1, eq_false c2, eq_true c3, htr, bI]; done)) dX12_reader_69 hlocks
    by_cases c4 : what = 2
    · refine lv_tableIn (tgt := 70) hx hb dX12_reader_18 (by rw [c4]; decide) (by rw [c4]; decide) (off := 52) (by rw [c4]; decide) (by decide) ?_
      refine lv_aload_n hx hb dX12_reader_70 rfl (lv_at hl 1 rfl) ?_
      refine va_get (D := D) (ci := 11) (v := .ref (A0 6)) (C := RX12) (T := TX12) (N := 21) hx hb hts u_X12_reader_X12 hown hK.1 hP 0 rfl rfl 13 (by decide) (hts (.fieldLink RX12 25 "NoticeWeekModel" "now" "[I") (List.mem_of_getElem? (i := 2) rfl)) (fun _ h9 => h9) rfl dX12_reader_71 ?_
      refine lv_iload_n hx hb dX12_reader_74 rfl (lv_at hl 0 rfl) ?_
      refine lv_iconst (v := (nI 3)) hx hb dX12_reader_75 (by decide) ?_
      refine b_add hx hb dX12_reader_76 ?_
      refine b_ald hx hb hK hP 6 rfl (by omega) (by decide) dX12_reader_77 ?_
      exact b_ret hx hb hr (by first | (simp only [m_reader, eq_true c1, eq_false c2, eq_false c3, eq_true c4, htr, bI, not_true_eq_false, not_false_eq_true, ite_true, ite_false, if_true, if_false, and_self, and_true, true_and, false_and, and_false, or_true, true_or, or_false, false_or, eq_self]; done) | (simp [m_reader, eq_true c1, eq_false c2, eq_false c3, eq_true c4, htr, bI]; done)) dX12_reader_78 hlocks
    by_cases c5 : what = 3
    · refine lv_tableIn (tgt := 79) hx hb dX12_reader_18 (by rw [c5]; decide) (by rw [c5]; decide) (off := 61) (by rw [c5]; decide) (by decide) ?_
      refine lv_aload_n hx hb dX12_reader_79 rfl (lv_at hl 1 rfl) ?_
      refine lv_iload_n hx hb dX12_reader_80 rfl (lv_at hl 2 rfl) ?_
      refine lv_iconst (v := (nI 0)) hx hb dX12_reader_81 (by decide) ?_
      refine b_call (va_runV (As := [.int (nI (r)), .int (nI 0)]) (rest := []) ⟨hx, hb, hml, hown, hts⟩ (c_X12_falseIn l D cI cZ cT A0 ss tp fk fp ap sp tk vl ac tr la ma it sr bt nw dr pa im kp tc r 0 n (by omega) (by omega) hW) (cwV 2 hts gX12_reader_X12_falseIn rfl rfl rfl (by decide +kernel) ⟨(Nat.le_of_ble_eq_true rfl), (Nat.le_of_ble_eq_true rfl)⟩) (b_pV hK hP [0, 1, 2, 3, 4, 5, 6, 7, 8, 9, 10, 11] rfl 0 rfl rfl) rfl rfl hl.1 rfl (lv_room (Nat.le_of_ble_eq_true rfl)) dX12_reader_82 ⟨Nat.zero_le _, Nat.zero_le _⟩).run ?_
      exact b_ret hx hb hr (by first | (simp only [m_reader, eq_true c1, eq_false c2, eq_false c3, eq_false c4, eq_true c5, htr, bI, not_true_eq_false, not_false_eq_true, ite_true, ite_false, if_true, if_false, and_self, and_true, true_and, false_and, and_false, or_true, true_or, or_false, false_or, eq_self]; done) | (simp [m_reader, eq_true c1, eq_false c2, eq_false c3, eq_false c4, eq_true c5, htr, bI]; done)) dX12_reader_85 hlocks
    by_cases c6 : what = 4
    · refine lv_tableIn (tgt := 86) hx hb dX12_reader_18 (by rw [c6]; decide) (by rw [c6]; decide) (off := 68) (by rw [c6]; decide) (by decide) ?_
      refine lv_aload_n hx hb dX12_reader_86 rfl (lv_at hl 1 rfl) ?_
      refine lv_iload_n hx hb dX12_reader_87 rfl (lv_at hl 2 rfl) ?_
      refine lv_iconst (v := (nI 1)) hx hb dX12_reader_88 (by decide) ?_
      refine b_call (va_runV (As := [.int (nI (r)), .int (nI 1)]) (rest := []) ⟨hx, hb, hml, hown, hts⟩ (c_X12_deedsIn l D cI cZ cT A0 ss tp fk fp ap sp tk vl ac tr la ma it sr bt nw dr pa im kp tc r 1 n (by omega) (by omega) hW) (cwV 2 hts gX12_reader_X12_deedsIn rfl rfl rfl (by decide +kernel) ⟨(Nat.le_of_ble_eq_true rfl), (Nat.le_of_ble_eq_true rfl)⟩) (b_pV hK hP [0, 1, 2, 3, 4, 5, 6, 7, 8, 9, 10, 11] rfl 0 rfl rfl) rfl rfl hl.1 rfl (lv_room (Nat.le_of_ble_eq_true rfl)) dX12_reader_89 ⟨Nat.zero_le _, Nat.zero_le _⟩).run ?_
      refine lv_aload_n hx hb dX12_reader_92 rfl (lv_at hl 1 rfl) ?_
      refine va_get (D := D) (ci := 11) (v := .ref (A0 6)) (C := RX12) (T := TX12) (N := 21) hx hb hts u_X12_reader_X12 hown hK.1 hP 0 rfl rfl 13 (by decide) (hts (.fieldLink RX12 25 "NoticeWeekModel" "now" "[I") (List.mem_of_getElem? (i := 2) rfl)) (fun _ h9 => h9) rfl dX12_reader_93 ?_
      refine lv_iload_n hx hb dX12_reader_96 rfl (lv_at hl 0 rfl) ?_
      refine lv_iconst (v := (nI 1)) hx hb dX12_reader_97 (by decide) ?_
      refine b_add hx hb dX12_reader_98 ?_
      refine b_ald hx hb hK hP 6 rfl (by omega) (by decide) dX12_reader_99 ?_
      refine lv_iconst (v := (-1)) hx hb dX12_reader_100 (by decide) ?_
      refine lv_ixor hx hb dX12_reader_101 ?_
      refine lv_iand hx hb dX12_reader_102 ?_
      exact b_ret hx hb hr (by first | (simp only [m_reader, eq_true c1, eq_false c2, eq_false c3, eq_false c4, eq_false c5, eq_true c6, htr, bI, not_true_eq_false, not_false_eq_true, ite_true, ite_false, if_true, if_false, and_self, and_true, true_and, false_and, and_false, or_true, true_or, or_false, false_or, eq_self]; done) | (simp [m_reader, eq_true c1, eq_false c2, eq_false c3, eq_false c4, eq_false c5, eq_true c6, htr, bI]; done)) dX12_reader_103 hlocks
    refine lv_tableOut (tgt := 104) hx hb dX12_reader_18 (sw_out0_4 c2 c3 c4 c5 c6) (by decide) ?_
    refine lv_ldc (v := (-1000001)) hx hb hown (hts (.constant RX12 58 (-1000001)) (List.mem_of_getElem? (i := 1) rfl)) dX12_reader_104 ?_
    exact b_ret hx hb hr (by first | (simp only [m_reader, eq_true c1, eq_false c2, eq_false c3, eq_false c4, eq_false c5, eq_false c6, htr, bI, not_true_eq_false, not_false_eq_true, ite_true, ite_false, if_true, if_false, and_self, and_true, true_and, false_and, and_false, or_true, true_or, or_false, false_or, eq_self]; done) | (simp [m_reader, eq_true c1, eq_false c2, eq_false c3, eq_false c4, eq_false c5, eq_false c6, htr, bI]; done)) dX12_reader_106 hlocks
  · refine lv_ldc (v := (-1000001)) hx hb hown (hts (.constant RX12 58 (-1000001)) (List.mem_of_getElem? (i := 1) rfl)) dX12_reader_8 ?_
    exact b_ret hx hb hr (by first | (simp only [m_reader, eq_false c1, bI, not_true_eq_false, not_false_eq_true, ite_true, ite_false, if_true, if_false, and_self, and_true, true_and, false_and, and_false, or_true, true_or, or_false, false_or, eq_self]; done) | (simp [m_reader, eq_false c1, bI]; done)) dX12_reader_10 hlocks
set_option maxHeartbeats 4000000 in
set_option maxRecDepth 100000 in
theorem c_X12_deeds (l : Launch) (D : va_G) (cI cZ cT : ClassId) (A0 : Nat → Nat) (ss tp fk fp ap sp tk vl ac tr : Int32) (la ma it sr bt nw dr pa im kp tc : Nat → Int32) (reader d : Int32) (n : Nat) (hW : TK nw n) : Met l yX12_deeds wsX12_deeds ({ frames := 5, cells := 0, slots := 0, locals := 118 }) (pR D cI cZ cT [.ref (A0 0), .int reader, .int d] (wM cI cZ A0 ss tp fk fp ap sp tk vl ac tr la ma it sr bt nw dr pa im kp tc)) (QcRead (m_deeds nw reader d)) 0 0 (fun _ => False) := by
  refine Met.ofW (cc := cX12_deeds) (maxL := 3) (ret := (some .int)) (by decide) rfl ?_
  intro p e s m args below meth c s₁ B hml hv
  obtain ⟨rfl, hP, hK⟩ := hv
  have hx := B.exec
  have hb := B.bytes
  have hr := B.returns
  have hts := atoms_spec (ws := wsX12_deeds) B.pre
  have hown : s.vm.findClass RX12 = some m.cls := findClass_of_methodNamed B.named
  have hlocks := B.notSynchronized
  have hl := lv_entry ([.ref (A0 0), .int reader, .int d]) (n := 3) (Nat.le_of_ble_eq_true rfl)
  rw [lg_entry_eq]
  generalize (lg_sl ([.ref (A0 0), .int reader, .int d]) ++ List.replicate (3 - (lg_sl ([.ref (A0 0), .int reader, .int d])).length) Slot.unset).toArray = ls at hl ⊢
  have hl : lv_has ls 3 [(0, .ref (A0 0)), (1, .int reader), (2, .int d)] := hl
  refine lv_aload_n hx hb dX12_deeds_0 rfl (lv_at hl 0 rfl) ?_
  refine lv_iload_n hx hb dX12_deeds_1 rfl (lv_at hl 1 rfl) ?_
  refine b_call (va_runV (As := [.int reader]) (rest := []) ⟨hx, hb, hml, hown, hts⟩ (c_X12_isReader l D cI cZ cT A0 ss tp fk fp ap sp tk vl ac tr la ma it sr bt nw dr pa im kp tc reader) (cwV 1 hts gX12_deeds_X12_isReader rfl rfl rfl (by decide +kernel) ⟨(Nat.le_of_ble_eq_true rfl), (Nat.le_of_ble_eq_true rfl)⟩) (b_pV hK hP [0, 1, 2, 3, 4, 5, 6, 7, 8, 9, 10, 11] rfl 0 rfl rfl) rfl rfl hl.1 rfl (lv_room (Nat.le_of_ble_eq_true rfl)) dX12_deeds_2 ⟨Nat.zero_le _, Nat.zero_le _⟩).run ?_
  refine b_ifeq (tgt := 24) hx hb dX12_deeds_5 (by decide) (fun c1 => ?_) (fun c1 => ?_)
  · refine lv_ldc (v := (-1000001)) hx hb hown (hts (.constant RX12 58 (-1000001)) (List.mem_of_getElem? (i := 1) rfl)) dX12_deeds_24 ?_
    exact b_ret hx hb hr (by first | (simp only [m_deeds, eq_false c1, bI, not_true_eq_false, not_false_eq_true, ite_true, ite_false, if_true, if_false, and_self, and_true, true_and, false_and, and_false, or_true, true_or, or_false, false_or, eq_self]; done) | (simp [m_deeds, eq_false c1, bI]; done)) dX12_deeds_26 hlocks
  · refine lv_iload_n hx hb dX12_deeds_8 rfl (lv_at hl 2 rfl) ?_
    refine b_call (va_runS (As := [.int d]) (rest := []) ⟨hx, hb, hml, hown, hts⟩ (c_X12_isFar l D cI cZ cT d) (va_cwS 1 hts gX12_deeds_X12_isFar rfl rfl rfl (by decide +kernel) ⟨(Nat.le_of_ble_eq_true rfl), (Nat.le_of_ble_eq_true rfl)⟩) (b_pS0 hK) rfl rfl hl.1 rfl (lv_room (Nat.le_of_ble_eq_true rfl)) dX12_deeds_9 ⟨Nat.zero_le _, Nat.zero_le _⟩).run ?_
    refine b_ifeq (tgt := 24) hx hb dX12_deeds_12 (by decide) (fun c2 => ?_) (fun c2 => ?_)
    · refine lv_ldc (v := (-1000001)) hx hb hown (hts (.constant RX12 58 (-1000001)) (List.mem_of_getElem? (i := 1) rfl)) dX12_deeds_24 ?_
      exact b_ret hx hb hr (by first | (simp only [m_deeds, eq_true c1, eq_false c2, bI, not_true_eq_false, not_false_eq_true, ite_true, ite_false, if_true, if_false, and_self, and_true, true_and, false_and, and_false, or_true, true_or, or_false, false_or, eq_self]; done) | (simp [m_deeds, eq_true c1, eq_false c2, bI]; done)) dX12_deeds_26 hlocks
    · obtain ⟨r, hh_r, rfl⟩ : ∃ r : Nat, r ≤ 5 ∧ reader = nI r := i_rd hW c1
      have hl : lv_has ls 3 [(0, .ref (A0 0)), (1, .int (nI (r))), (2, .int d)] := hl
      have htr : tn (nI r) = r := tn_nI hh_r
      obtain ⟨dv, hh_dv, rfl⟩ : ∃ r : Nat, r ≤ 60 ∧ d = nI r := i_nat 60 c2.1 c2.2 rfl (by decide)
      have hl : lv_has ls 3 [(0, .ref (A0 0)), (1, .int (nI (r))), (2, .int (nI (dv)))] := hl
      have htd : tn (nI dv) = dv := tn_nI hh_dv
      refine lv_aload_n hx hb dX12_deeds_15 rfl (lv_at hl 0 rfl) ?_
      refine lv_iload_n hx hb dX12_deeds_16 rfl (lv_at hl 1 rfl) ?_
      refine lv_iload_n hx hb dX12_deeds_17 rfl (lv_at hl 2 rfl) ?_
      refine b_call (va_runV (As := [.int (nI (r)), .int (nI (dv))]) (rest := []) ⟨hx, hb, hml, hown, hts⟩ (c_X12_deedsIn l D cI cZ cT A0 ss tp fk fp ap sp tk vl ac tr la ma it sr bt nw dr pa im kp tc r dv n (by omega) (by omega) hW) (cwV 2 hts gX12_deeds_X12_deedsIn rfl rfl rfl (by decide +kernel) ⟨(Nat.le_of_ble_eq_true rfl), (Nat.le_of_ble_eq_true rfl)⟩) (b_pV hK hP [0, 1, 2, 3, 4, 5, 6, 7, 8, 9, 10, 11] rfl 0 rfl rfl) rfl rfl hl.1 rfl (lv_room (Nat.le_of_ble_eq_true rfl)) dX12_deeds_18 ⟨Nat.zero_le _, Nat.zero_le _⟩).run ?_
      refine lv_goto (tgt := 26) hx hb dX12_deeds_21 (by decide) ?_
      exact b_ret hx hb hr (by first | (simp only [m_deeds, eq_true c1, eq_true c2, htr, htd, bI, not_true_eq_false, not_false_eq_true, ite_true, ite_false, if_true, if_false, and_self, and_true, true_and, false_and, and_false, or_true, true_or, or_false, false_or, eq_self]; done) | (simp [m_deeds, eq_true c1, eq_true c2, htr, htd, bI]; done)) dX12_deeds_26 hlocks
set_option maxHeartbeats 4000000 in
set_option maxRecDepth 100000 in
theorem c_X12_lines (l : Launch) (D : va_G) (cI cZ cT : ClassId) (A0 : Nat → Nat) (ss tp fk fp ap sp tk vl ac tr : Int32) (la ma it sr bt nw dr pa im kp tc : Nat → Int32) (reader d : Int32) (n : Nat) (hW : TK nw n) : Met l yX12_lines wsX12_lines ({ frames := 6, cells := 0, slots := 0, locals := 140 }) (pR D cI cZ cT [.ref (A0 0), .int reader, .int d] (wM cI cZ A0 ss tp fk fp ap sp tk vl ac tr la ma it sr bt nw dr pa im kp tc)) (QcRead (m_lines nw reader d)) 0 0 (fun _ => False) := by
  refine Met.ofW (cc := cX12_lines) (maxL := 3) (ret := (some .int)) (by decide) rfl ?_
  intro p e s m args below meth c s₁ B hml hv
  obtain ⟨rfl, hP, hK⟩ := hv
  have hx := B.exec
  have hb := B.bytes
  have hr := B.returns
  have hts := atoms_spec (ws := wsX12_lines) B.pre
  have hown : s.vm.findClass RX12 = some m.cls := findClass_of_methodNamed B.named
  have hlocks := B.notSynchronized
  have hl := lv_entry ([.ref (A0 0), .int reader, .int d]) (n := 3) (Nat.le_of_ble_eq_true rfl)
  rw [lg_entry_eq]
  generalize (lg_sl ([.ref (A0 0), .int reader, .int d]) ++ List.replicate (3 - (lg_sl ([.ref (A0 0), .int reader, .int d])).length) Slot.unset).toArray = ls at hl ⊢
  have hl : lv_has ls 3 [(0, .ref (A0 0)), (1, .int reader), (2, .int d)] := hl
  refine lv_aload_n hx hb dX12_lines_0 rfl (lv_at hl 0 rfl) ?_
  refine lv_iload_n hx hb dX12_lines_1 rfl (lv_at hl 1 rfl) ?_
  refine b_call (va_runV (As := [.int reader]) (rest := []) ⟨hx, hb, hml, hown, hts⟩ (c_X12_isReader l D cI cZ cT A0 ss tp fk fp ap sp tk vl ac tr la ma it sr bt nw dr pa im kp tc reader) (cwV 1 hts gX12_lines_X12_isReader rfl rfl rfl (by decide +kernel) ⟨(Nat.le_of_ble_eq_true rfl), (Nat.le_of_ble_eq_true rfl)⟩) (b_pV hK hP [0, 1, 2, 3, 4, 5, 6, 7, 8, 9, 10, 11] rfl 0 rfl rfl) rfl rfl hl.1 rfl (lv_room (Nat.le_of_ble_eq_true rfl)) dX12_lines_2 ⟨Nat.zero_le _, Nat.zero_le _⟩).run ?_
  refine b_ifeq (tgt := 24) hx hb dX12_lines_5 (by decide) (fun c1 => ?_) (fun c1 => ?_)
  · refine lv_ldc (v := (-1000001)) hx hb hown (hts (.constant RX12 58 (-1000001)) (List.mem_of_getElem? (i := 1) rfl)) dX12_lines_24 ?_
    exact b_ret hx hb hr (by first | (simp only [m_lines, eq_false c1, bI, not_true_eq_false, not_false_eq_true, ite_true, ite_false, if_true, if_false, and_self, and_true, true_and, false_and, and_false, or_true, true_or, or_false, false_or, eq_self]; done) | (simp [m_lines, eq_false c1, bI]; done)) dX12_lines_26 hlocks
  · refine lv_iload_n hx hb dX12_lines_8 rfl (lv_at hl 2 rfl) ?_
    refine b_call (va_runS (As := [.int d]) (rest := []) ⟨hx, hb, hml, hown, hts⟩ (c_X12_isFar l D cI cZ cT d) (va_cwS 1 hts gX12_lines_X12_isFar rfl rfl rfl (by decide +kernel) ⟨(Nat.le_of_ble_eq_true rfl), (Nat.le_of_ble_eq_true rfl)⟩) (b_pS0 hK) rfl rfl hl.1 rfl (lv_room (Nat.le_of_ble_eq_true rfl)) dX12_lines_9 ⟨Nat.zero_le _, Nat.zero_le _⟩).run ?_
    refine b_ifeq (tgt := 24) hx hb dX12_lines_12 (by decide) (fun c2 => ?_) (fun c2 => ?_)
    · refine lv_ldc (v := (-1000001)) hx hb hown (hts (.constant RX12 58 (-1000001)) (List.mem_of_getElem? (i := 1) rfl)) dX12_lines_24 ?_
      exact b_ret hx hb hr (by first | (simp only [m_lines, eq_true c1, eq_false c2, bI, not_true_eq_false, not_false_eq_true, ite_true, ite_false, if_true, if_false, and_self, and_true, true_and, false_and, and_false, or_true, true_or, or_false, false_or, eq_self]; done) | (simp [m_lines, eq_true c1, eq_false c2, bI]; done)) dX12_lines_26 hlocks
    · obtain ⟨r, hh_r, rfl⟩ : ∃ r : Nat, r ≤ 5 ∧ reader = nI r := i_rd hW c1
      have hl : lv_has ls 3 [(0, .ref (A0 0)), (1, .int (nI (r))), (2, .int d)] := hl
      have htr : tn (nI r) = r := tn_nI hh_r
      obtain ⟨dv, hh_dv, rfl⟩ : ∃ r : Nat, r ≤ 60 ∧ d = nI r := i_nat 60 c2.1 c2.2 rfl (by decide)
      have hl : lv_has ls 3 [(0, .ref (A0 0)), (1, .int (nI (r))), (2, .int (nI (dv)))] := hl
      have htd : tn (nI dv) = dv := tn_nI hh_dv
      refine lv_aload_n hx hb dX12_lines_15 rfl (lv_at hl 0 rfl) ?_
      refine lv_iload_n hx hb dX12_lines_16 rfl (lv_at hl 1 rfl) ?_
      refine lv_iload_n hx hb dX12_lines_17 rfl (lv_at hl 2 rfl) ?_
      refine b_call (va_runV (As := [.int (nI (r)), .int (nI (dv))]) (rest := []) ⟨hx, hb, hml, hown, hts⟩ (c_X12_falseIn l D cI cZ cT A0 ss tp fk fp ap sp tk vl ac tr la ma it sr bt nw dr pa im kp tc r dv n (by omega) (by omega) hW) (cwV 2 hts gX12_lines_X12_falseIn rfl rfl rfl (by decide +kernel) ⟨(Nat.le_of_ble_eq_true rfl), (Nat.le_of_ble_eq_true rfl)⟩) (b_pV hK hP [0, 1, 2, 3, 4, 5, 6, 7, 8, 9, 10, 11] rfl 0 rfl rfl) rfl rfl hl.1 rfl (lv_room (Nat.le_of_ble_eq_true rfl)) dX12_lines_18 ⟨Nat.zero_le _, Nat.zero_le _⟩).run ?_
      refine lv_goto (tgt := 26) hx hb dX12_lines_21 (by decide) ?_
      exact b_ret hx hb hr (by first | (simp only [m_lines, eq_true c1, eq_true c2, htr, htd, bI, not_true_eq_false, not_false_eq_true, ite_true, ite_false, if_true, if_false, and_self, and_true, true_and, false_and, and_false, or_true, true_or, or_false, false_or, eq_self]; done) | (simp [m_lines, eq_true c1, eq_true c2, htr, htd, bI]; done)) dX12_lines_26 hlocks
set_option maxHeartbeats 4000000 in
set_option maxRecDepth 100000 in
theorem c_X12_ends (l : Launch) (D : va_G) (cI cZ cT : ClassId) (A0 : Nat → Nat) (ss tp fk fp ap sp tk vl ac tr : Int32) (la ma it sr bt nw dr pa im kp tc : Nat → Int32) (reader : Int32) (n : Nat) (hW : TK nw n) : Met l yX12_ends wsX12_ends ({ frames := 6, cells := 0, slots := 0, locals := 140 }) (pR D cI cZ cT [.ref (A0 0), .int reader] (wM cI cZ A0 ss tp fk fp ap sp tk vl ac tr la ma it sr bt nw dr pa im kp tc)) (QcRead (m_ends nw reader)) 0 0 (fun _ => False) := by
  refine Met.ofW (cc := cX12_ends) (maxL := 2) (ret := (some .int)) (by decide) rfl ?_
  intro p e s m args below meth c s₁ B hml hv
  obtain ⟨rfl, hP, hK⟩ := hv
  have hx := B.exec
  have hb := B.bytes
  have hr := B.returns
  have hts := atoms_spec (ws := wsX12_ends) B.pre
  have hown : s.vm.findClass RX12 = some m.cls := findClass_of_methodNamed B.named
  have hlocks := B.notSynchronized
  have hl := lv_entry ([.ref (A0 0), .int reader]) (n := 2) (Nat.le_of_ble_eq_true rfl)
  rw [lg_entry_eq]
  generalize (lg_sl ([.ref (A0 0), .int reader]) ++ List.replicate (2 - (lg_sl ([.ref (A0 0), .int reader])).length) Slot.unset).toArray = ls at hl ⊢
  have hl : lv_has ls 2 [(0, .ref (A0 0)), (1, .int reader)] := hl
  refine lv_aload_n hx hb dX12_ends_0 rfl (lv_at hl 0 rfl) ?_
  refine lv_iload_n hx hb dX12_ends_1 rfl (lv_at hl 1 rfl) ?_
  refine b_call (va_runV (As := [.int reader]) (rest := []) ⟨hx, hb, hml, hown, hts⟩ (c_X12_isReader l D cI cZ cT A0 ss tp fk fp ap sp tk vl ac tr la ma it sr bt nw dr pa im kp tc reader) (cwV 1 hts gX12_ends_X12_isReader rfl rfl rfl (by decide +kernel) ⟨(Nat.le_of_ble_eq_true rfl), (Nat.le_of_ble_eq_true rfl)⟩) (b_pV hK hP [0, 1, 2, 3, 4, 5, 6, 7, 8, 9, 10, 11] rfl 0 rfl rfl) rfl rfl hl.1 rfl (lv_room (Nat.le_of_ble_eq_true rfl)) dX12_ends_2 ⟨Nat.zero_le _, Nat.zero_le _⟩).run ?_
  refine b_ifeq (tgt := 18) hx hb dX12_ends_5 (by decide) (fun c1 => ?_) (fun c1 => ?_)
  · refine lv_ldc (v := (-1000001)) hx hb hown (hts (.constant RX12 58 (-1000001)) (List.mem_of_getElem? (i := 1) rfl)) dX12_ends_18 ?_
    exact b_ret hx hb hr (by first | (simp only [m_ends, eq_false c1, bI, not_true_eq_false, not_false_eq_true, ite_true, ite_false, if_true, if_false, and_self, and_true, true_and, false_and, and_false, or_true, true_or, or_false, false_or, eq_self]; done) | (simp [m_ends, eq_false c1, bI]; done)) dX12_ends_20 hlocks
  · obtain ⟨r, hh_r, rfl⟩ : ∃ r : Nat, r ≤ 5 ∧ reader = nI r := i_rd hW c1
    have hl : lv_has ls 2 [(0, .ref (A0 0)), (1, .int (nI (r)))] := hl
    have htr : tn (nI r) = r := tn_nI hh_r
    refine lv_aload_n hx hb dX12_ends_8 rfl (lv_at hl 0 rfl) ?_
    refine lv_iload_n hx hb dX12_ends_9 rfl (lv_at hl 1 rfl) ?_
    refine lv_bipush (v := (nI 60)) hx hb dX12_ends_10 (by decide) ?_
    refine b_call (va_runV (As := [.int (nI (r)), .int (nI 60)]) (rest := []) ⟨hx, hb, hml, hown, hts⟩ (c_X12_falseIn l D cI cZ cT A0 ss tp fk fp ap sp tk vl ac tr la ma it sr bt nw dr pa im kp tc r 60 n (by omega) (by omega) hW) (cwV 2 hts gX12_ends_X12_falseIn rfl rfl rfl (by decide +kernel) ⟨(Nat.le_of_ble_eq_true rfl), (Nat.le_of_ble_eq_true rfl)⟩) (b_pV hK hP [0, 1, 2, 3, 4, 5, 6, 7, 8, 9, 10, 11] rfl 0 rfl rfl) rfl rfl hl.1 rfl (lv_room (Nat.le_of_ble_eq_true rfl)) dX12_ends_12 ⟨Nat.zero_le _, Nat.zero_le _⟩).run ?_
    refine lv_goto (tgt := 20) hx hb dX12_ends_15 (by decide) ?_
    exact b_ret hx hb hr (by first | (simp only [m_ends, eq_true c1, htr, bI, not_true_eq_false, not_false_eq_true, ite_true, ite_false, if_true, if_false, and_self, and_true, true_and, false_and, and_false, or_true, true_or, or_false, false_or, eq_self]; done) | (simp [m_ends, eq_true c1, htr, bI]; done)) dX12_ends_20 hlocks
theorem u_X12_dead_X12 : ∀ w ∈ wsX120, w ∈ wsX12_dead := fun _ h => List.mem_cons_of_mem _ (List.mem_append_right _ h)
set_option maxHeartbeats 4000000 in
set_option maxRecDepth 100000 in
theorem c_X12_dead (l : Launch) (D : va_G) (cI cZ cT : ClassId) (A0 : Nat → Nat) (ss tp fk fp ap sp tk vl ac tr : Int32) (la ma it sr bt nw dr pa im kp tc : Nat → Int32) (d : Int32) (n : Nat) (hW : TK nw n) : Met l yX12_dead wsX12_dead ({ frames := 2, cells := 0, slots := 0, locals := 42 }) (pR D cI cZ cT [.ref (A0 0), .int d] (wM cI cZ A0 ss tp fk fp ap sp tk vl ac tr la ma it sr bt nw dr pa im kp tc)) (QcRead (m_dead nw n d)) 0 0 (fun _ => False) := by
  refine Met.ofW (cc := cX12_dead) (maxL := 4) (ret := (some .int)) (by decide) rfl ?_
  intro p e s m args below meth c s₁ B hml hv
  obtain ⟨rfl, hP, hK⟩ := hv
  have hx := B.exec
  have hb := B.bytes
  have hr := B.returns
  have hts := atoms_spec (ws := wsX12_dead) B.pre
  have hown : s.vm.findClass RX12 = some m.cls := findClass_of_methodNamed B.named
  have hlocks := B.notSynchronized
  have hl := lv_entry ([.ref (A0 0), .int d]) (n := 4) (Nat.le_of_ble_eq_true rfl)
  rw [lg_entry_eq]
  generalize (lg_sl ([.ref (A0 0), .int d]) ++ List.replicate (4 - (lg_sl ([.ref (A0 0), .int d])).length) Slot.unset).toArray = ls at hl ⊢
  have hl : lv_has ls 4 [(0, .ref (A0 0)), (1, .int d)] := hl
  have hn6 := hW.1
  refine lv_aload_n hx hb dX12_dead_0 rfl (lv_at hl 0 rfl) ?_
  refine b_call (va_runV (As := []) (rest := []) ⟨hx, hb, hml, hown, hts⟩ (c_X12_isTown l D cI cZ cT A0 ss tp fk fp ap sp tk vl ac tr la ma it sr bt nw dr pa im kp tc) (cwV 0 hts gX12_dead_X12_isTown rfl rfl rfl (by decide +kernel) ⟨(Nat.le_of_ble_eq_true rfl), (Nat.le_of_ble_eq_true rfl)⟩) (b_pV hK hP [0, 1, 2, 3, 4, 5, 6, 7, 8, 9, 10, 11] rfl 0 rfl rfl) rfl rfl hl.1 rfl (lv_room (Nat.le_of_ble_eq_true rfl)) dX12_dead_1 ⟨Nat.zero_le _, Nat.zero_le _⟩).run ?_
  refine b_ifne (tgt := 10) hx hb dX12_dead_4 (by decide) (fun c1 => ?_) (fun c1 => ?_)
  · refine lv_iload_n hx hb dX12_dead_10 rfl (lv_at hl 1 rfl) ?_
    refine b_call (va_runS (As := [.int d]) (rest := []) ⟨hx, hb, hml, hown, hts⟩ (c_X12_isFar l D cI cZ cT d) (va_cwS 1 hts gX12_dead_X12_isFar rfl rfl rfl (by decide +kernel) ⟨(Nat.le_of_ble_eq_true rfl), (Nat.le_of_ble_eq_true rfl)⟩) (b_pS0 hK) rfl rfl hl.1 rfl (lv_room (Nat.le_of_ble_eq_true rfl)) dX12_dead_11 ⟨Nat.zero_le _, Nat.zero_le _⟩).run ?_
    refine b_ifne (tgt := 20) hx hb dX12_dead_14 (by decide) (fun c2 => ?_) (fun c2 => ?_)
    · refine lv_iconst (v := 0) hx hb dX12_dead_20 (by decide) ?_
      refine lv_istore_n (lv' := [(2, .int 0), (0, .ref (A0 0)), (1, .int d)]) hx hb dX12_dead_21 rfl hl (by decide) rfl (fun ls hl => ?_)
      refine lv_iconst (v := (nI 0)) hx hb dX12_dead_22 (by decide) ?_
      refine lv_istore_n (lv' := [(3, .int (nI 0)), (2, .int 0), (0, .ref (A0 0)), (1, .int d)]) hx hb dX12_dead_23 rfl hl (by decide) rfl (fun ls hl => ?_)
      refine b_loopR (N := n) (I := fun k ls => lv_has ls 4 [(3, .int (nI (k))), (2, .int (deF nw d k)), (0, .ref (A0 0)), (1, .int d)]) (fun k hk ih3 ls hI => ?_) 0 (by omega) (lv_sub hl [0, 1, 2, 3] rfl)
      have hl := hI
      have hl : lv_has ls 4 [(3, .int (nI (k))), (2, .int (deF nw d k)), (0, .ref (A0 0)), (1, .int d)] := hl
      refine lv_iload_n hx hb dX12_dead_24 rfl (lv_at hl 0 rfl) ?_
      refine lv_aload_n hx hb dX12_dead_25 rfl (lv_at hl 2 rfl) ?_
      refine va_get (D := D) (ci := 11) (v := .ref (A0 6)) (C := RX12) (T := TX12) (N := 21) hx hb hts u_X12_dead_X12 hown hK.1 hP 0 rfl rfl 13 (by decide) (hts (.fieldLink RX12 25 "NoticeWeekModel" "now" "[I") (List.mem_of_getElem? (i := 3) rfl)) (fun _ h9 => h9) rfl dX12_dead_26 ?_
      refine lv_iconst (v := (nI 3)) hx hb dX12_dead_29 (by decide) ?_
      refine b_ald hx hb hK hP 6 rfl (by omega) (by decide) dX12_dead_30 ?_
      rw [hW.2.1]
      refine b_ge (tgt := 66) hx hb (by omega) (by omega) dX12_dead_31 (by decide) (fun c4 => ?_) (fun c4 => ?_)
      · refine lv_iload_n hx hb dX12_dead_66 rfl (lv_at hl 1 rfl) ?_
        exact b_ret hx hb hr (by rw [show n = k by omega]; simp only [m_dead, eq_true c1, eq_true c2, not_true_eq_false, not_false_eq_true, if_false, if_true, ite_true, ite_false]) dX12_dead_67 hlocks
      · refine lv_iload_n hx hb dX12_dead_34 rfl (lv_at hl 1 rfl) ?_
        refine b_join (jpc := 58) (rest' := [.int (deF nw d k)]) (P := fun v : Int32 => v = ((if d < (nw (4 + (4 * k) + 3)) then 0 else 1 <<< (nI k &&& 31)) : Int32)) (fun v5 ev5 => ?_) (fun K6 => ?_)
        · subst ev5
          refine lv_ior hx hb dX12_dead_58 ?_
          refine lv_topi (fun x7 ex7 => ?_)
          refine lv_istore_n (lv' := [(2, .int x7), (3, .int (nI (k))), (0, .ref (A0 0)), (1, .int d)]) hx hb dX12_dead_59 rfl hl (by decide) rfl (fun ls hl => ?_)
          refine lv_iinc (v := (nI (k + 1))) (lv' := [(3, .int (nI (k + 1))), (2, .int x7), (0, .ref (A0 0)), (1, .int d)]) hx hb dX12_dead_60 hl (k := 1) rfl (nI_add _ _) (by decide) rfl (fun ls hl => ?_)
          refine lv_goto (tgt := 24) hx hb dX12_dead_63 (by decide) ?_
          try subst ex7
          exact ih3 (by omega) ls (lv_sub hl [0, 1, 2, 3] rfl)
        · refine lv_aload_n hx hb dX12_dead_35 rfl (lv_at hl 2 rfl) ?_
          refine va_get (D := D) (ci := 11) (v := .ref (A0 6)) (C := RX12) (T := TX12) (N := 21) hx hb hts u_X12_dead_X12 hown hK.1 hP 0 rfl rfl 13 (by decide) (hts (.fieldLink RX12 25 "NoticeWeekModel" "now" "[I") (List.mem_of_getElem? (i := 3) rfl)) (fun _ h9 => h9) rfl dX12_dead_36 ?_
          refine lv_iconst (v := (nI 4)) hx hb dX12_dead_39 (by decide) ?_
          refine lv_iconst (v := (nI 4)) hx hb dX12_dead_40 (by decide) ?_
          refine lv_iload_n hx hb dX12_dead_41 rfl (lv_at hl 0 rfl) ?_
          refine b_mul hx hb dX12_dead_42 ?_
          refine b_add hx hb dX12_dead_43 ?_
          refine lv_iconst (v := (nI 3)) hx hb dX12_dead_44 (by decide) ?_
          refine b_add hx hb dX12_dead_45 ?_
          refine b_ald hx hb hK hP 6 rfl (by omega) (by decide) dX12_dead_46 ?_
          refine lv_iload_n hx hb dX12_dead_47 rfl (lv_at hl 3 rfl) ?_
          refine lv_icmp_gt (tgt := 57) hx hb dX12_dead_48 (by decide) (fun c8 => ?_) (fun c8 => ?_)
          · refine lv_iconst (v := 0) hx hb dX12_dead_57 (by decide) ?_
            exact K6 _ (by first | with_reducible rfl | (simp only [bI, eq_true c1, eq_true c2, eq_true c4, eq_true c8, not_true_eq_false, not_false_eq_true, ite_true, ite_false, if_true, if_false, and_self, and_true, true_and, false_and, and_false, or_true, true_or, or_false, false_or]; done) | (simp [bI, eq_true c1, eq_true c2, eq_true c4, eq_true c8]; done) | omega)
          · refine lv_iconst (v := 1) hx hb dX12_dead_51 (by decide) ?_
            refine lv_iload_n hx hb dX12_dead_52 rfl (lv_at hl 0 rfl) ?_
            refine lv_ishl hx hb dX12_dead_53 ?_
            refine lv_goto (tgt := 58) hx hb dX12_dead_54 (by decide) ?_
            exact K6 _ (by first | with_reducible rfl | (simp only [bI, eq_true c1, eq_true c2, eq_true c4, eq_false c8, not_true_eq_false, not_false_eq_true, ite_true, ite_false, if_true, if_false, and_self, and_true, true_and, false_and, and_false, or_true, true_or, or_false, false_or]; done) | (simp [bI, eq_true c1, eq_true c2, eq_true c4, eq_false c8]; done) | omega)
    · refine lv_ldc (v := (-1000001)) hx hb hown (hts (.constant RX12 58 (-1000001)) (List.mem_of_getElem? (i := 2) rfl)) dX12_dead_17 ?_
      exact b_ret hx hb hr (by first | (simp only [m_dead, eq_true c1, eq_false c2, bI, not_true_eq_false, not_false_eq_true, ite_true, ite_false, if_true, if_false, and_self, and_true, true_and, false_and, and_false, or_true, true_or, or_false, false_or, eq_self]; done) | (simp [m_dead, eq_true c1, eq_false c2, bI]; done)) dX12_dead_19 hlocks
  · refine lv_ldc (v := (-1000002)) hx hb hown (hts (.constant RX12 159 (-1000002)) (List.mem_of_getElem? (i := 1) rfl)) dX12_dead_7 ?_
    exact b_ret hx hb hr (by first | (simp only [m_dead, eq_false c1, bI, not_true_eq_false, not_false_eq_true, ite_true, ite_false, if_true, if_false, and_self, and_true, true_and, false_and, and_false, or_true, true_or, or_false, false_or, eq_self]; done) | (simp [m_dead, eq_false c1, bI]; done)) dX12_dead_9 hlocks
theorem u_X12_fault_X12 : ∀ w ∈ wsX120, w ∈ wsX12_fault := fun _ h => List.mem_cons_of_mem _ (List.mem_append_right _ h)
set_option maxHeartbeats 4000000 in
set_option maxRecDepth 100000 in
theorem c_X12_fault (l : Launch) (D : va_G) (cI cZ cT : ClassId) (A0 : Nat → Nat) (ss tp fk fp ap sp tk vl ac tr : Int32) (la ma it sr bt nw dr pa im kp tc : Nat → Int32)  : Met l yX12_fault wsX12_fault ({ frames := 0, cells := 0, slots := 0, locals := 0 }) (pR D cI cZ cT [.ref (A0 0)] (wM cI cZ A0 ss tp fk fp ap sp tk vl ac tr la ma it sr bt nw dr pa im kp tc)) (QcRead fk) 0 0 (fun _ => False) := by
  refine Met.ofW (cc := cX12_fault) (maxL := 1) (ret := (some .int)) (by decide) rfl ?_
  intro p e s m args below meth c s₁ B hml hv
  obtain ⟨rfl, hP, hK⟩ := hv
  have hx := B.exec
  have hb := B.bytes
  have hr := B.returns
  have hts := atoms_spec (ws := wsX12_fault) B.pre
  have hown : s.vm.findClass RX12 = some m.cls := findClass_of_methodNamed B.named
  have hlocks := B.notSynchronized
  have hl := lv_entry ([.ref (A0 0)]) (n := 1) (Nat.le_of_ble_eq_true rfl)
  rw [lg_entry_eq]
  generalize (lg_sl ([.ref (A0 0)]) ++ List.replicate (1 - (lg_sl ([.ref (A0 0)])).length) Slot.unset).toArray = ls at hl ⊢
  have hl : lv_has ls 1 [(0, .ref (A0 0))] := hl
  refine lv_aload_n hx hb dX12_fault_0 rfl (lv_at hl 0 rfl) ?_
  refine va_get (D := D) (ci := 11) (v := .int fk) (C := RX12) (T := TX12) (N := 21) hx hb hts u_X12_fault_X12 hown hK.1 hP 0 rfl rfl 7 (by decide) (hts (.fieldLink RX12 102 "NoticeWeekModel" "faultKind" "I") (List.mem_of_getElem? (i := 1) rfl)) (fun _ h9 => h9) rfl dX12_fault_1 ?_
  exact b_ret hx hb hr (by first | with_reducible rfl | (simp only [bI, not_true_eq_false, not_false_eq_true, ite_true, ite_false, if_true, if_false, and_self, and_true, true_and, false_and, and_false, or_true, true_or, or_false, false_or]; done) | (simp [bI]; done) | omega) dX12_fault_4 hlocks
theorem u_X12_status_X12 : ∀ w ∈ wsX120, w ∈ wsX12_status := fun _ h => List.mem_cons_of_mem _ (List.mem_append_right _ h)
set_option maxHeartbeats 4000000 in
set_option maxRecDepth 100000 in
theorem c_X12_status (l : Launch) (D : va_G) (cI cZ cT : ClassId) (A0 : Nat → Nat) (ss tp fk fp ap sp tk vl ac tr : Int32) (la ma it sr bt nw dr pa im kp tc : Nat → Int32)  : Met l yX12_status wsX12_status ({ frames := 0, cells := 0, slots := 0, locals := 0 }) (pR D cI cZ cT [.ref (A0 0)] (wM cI cZ A0 ss tp fk fp ap sp tk vl ac tr la ma it sr bt nw dr pa im kp tc)) (QcRead ss) 0 0 (fun _ => False) := by
  refine Met.ofW (cc := cX12_status) (maxL := 1) (ret := (some .int)) (by decide) rfl ?_
  intro p e s m args below meth c s₁ B hml hv
  obtain ⟨rfl, hP, hK⟩ := hv
  have hx := B.exec
  have hb := B.bytes
  have hr := B.returns
  have hts := atoms_spec (ws := wsX12_status) B.pre
  have hown : s.vm.findClass RX12 = some m.cls := findClass_of_methodNamed B.named
  have hlocks := B.notSynchronized
  have hl := lv_entry ([.ref (A0 0)]) (n := 1) (Nat.le_of_ble_eq_true rfl)
  rw [lg_entry_eq]
  generalize (lg_sl ([.ref (A0 0)]) ++ List.replicate (1 - (lg_sl ([.ref (A0 0)])).length) Slot.unset).toArray = ls at hl ⊢
  have hl : lv_has ls 1 [(0, .ref (A0 0))] := hl
  refine lv_aload_n hx hb dX12_status_0 rfl (lv_at hl 0 rfl) ?_
  refine va_get (D := D) (ci := 11) (v := .int ss) (C := RX12) (T := TX12) (N := 21) hx hb hts u_X12_status_X12 hown hK.1 hP 0 rfl rfl 4 (by decide) (hts (.fieldLink RX12 45 "NoticeWeekModel" "status" "I") (List.mem_of_getElem? (i := 1) rfl)) (fun _ h9 => h9) rfl dX12_status_1 ?_
  exact b_ret hx hb hr (by first | with_reducible rfl | (simp only [bI, not_true_eq_false, not_false_eq_true, ite_true, ite_false, if_true, if_false, and_self, and_true, true_and, false_and, and_false, or_true, true_or, or_false, false_or]; done) | (simp [bI]; done) | omega) dX12_status_4 hlocks
