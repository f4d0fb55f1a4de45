/-! CLASS: small ones -/
def bc1 (x : Int32) : Int32 := x - (ush x 1 &&& 1431655765)
def bc2 (x : Int32) : Int32 := (x &&& 858993459) + (ush x 2 &&& 858993459)
def bc3 (x : Int32) : Int32 := (x + ush x 4) &&& 252645135
def bc4 (x : Int32) : Int32 := x + ush x 8
def bc5 (x : Int32) : Int32 := x + ush x 16
def bc32 (x : Int32) : Int32 := bc5 (bc4 (bc3 (bc2 (bc1 x)))) &&& 63
def keptf (lane v : Int32) : Int32 := if lane = 0 then v.toInt8.toInt32 else if lane = 1 then v.toInt16.toInt32 else v
def tellb (it co : Nat → Int32) (b n : Nat) : Bool := itr (fun k x => x && decide (it (b + k) = co k)) n true
theorem tellb_t {it co : Nat → Int32} {b k : Nat} (h : tellb it co b k = true) (q : it (b + k) = co k) : tellb it co b (k + 1) = true := by
  show (tellb it co b k && decide (it (b + k) = co k)) = true
  rw [h, decide_eq_true q]; rfl
theorem tellb_f {it co : Nat → Int32} {b k : Nat} (q : ¬ it (b + k) = co k) (n : Nat) : ¬ tellb it co b (k + 1 + n) = true := by
  induction n with
  | zero =>
    show ¬ (tellb it co b k && decide (it (b + k) = co k)) = true
    rw [decide_eq_false q, Bool.and_false]; decide
  | succ n ih =>
    show ¬ (tellb it co b (k + 1 + n) && _) = true
    intro z; exact ih (Bool.and_eq_true_iff.mp z).1
theorem tellb_x {it co : Nat → Int32} {b k n : Nat} (hk : k < n) (q : ¬ it (b + k) = co k) : (0 : Int32) = bI (tellb it co b n = true) := by
  have h := tellb_f q (n - (k + 1))
  rw [show k + 1 + (n - (k + 1)) = n by omega] at h
  unfold bI; rw [if_neg h]
def prF (la : Nat → Int32) (k : Nat) : Int32 := itr (fun j x => if la j = -1 then x else x + 1) k 0
def t_num (zr : Nat) (zn : Nat → Int32) (i : Int32) : Int32 := if i < 0 then -1000000 else if nI zr ≤ i then -1000000 else zn (tn i)
theorem i_ltN {i : Int32} {n m : Nat} (hm : m ≤ 900) (hn : n ≤ m + 1) (h0 : ¬ i < 0) (h : ¬ nI n ≤ i) : ∃ r : Nat, r ≤ m ∧ i = nI r := by
  obtain ⟨j, hj, rfl⟩ := nI_of h0
  rw [i_le, nI_toInt (by omega), nI_toInt hj] at h
  exact ⟨j, by omega, rfl⟩
def tenF (k : Nat) : Nat := itr (fun _ x => x * 10) k 1
set_option maxHeartbeats 4000000 in
set_option maxRecDepth 100000 in
theorem c_J6_bitCount_0f7a4 (l : Launch) (D : va_G) (cI cZ cT : ClassId) (x : Int32)  : Met l yJ6_bitCount_0f7a4 wsJ6_bitCount_0f7a4 ({ frames := 0, cells := 0, slots := 0, locals := 0 }) (pR D cI cZ cT [.int x] ([])) (QcRead (bc32 x)) 0 0 (fun _ => False) := by
  refine Met.ofW (cc := cJ6_bitCount_0f7a4) (maxL := 1) (ret := (some .int)) (by decide) rfl ?_
  intro p e s m args below meth c s₁ B hml hv
  obtain ⟨rfl, hP, hK⟩ := hv
  have hx := B.exec
  have hb := B.bytes
  have hr := B.returns
  have hts := atoms_spec (ws := wsJ6_bitCount_0f7a4) B.pre
  have hown : s.vm.findClass RJ6 = some m.cls := findClass_of_methodNamed B.named
  have hlocks := B.notSynchronized
  have hl := lv_entry ([.int x]) (n := 1) (Nat.le_of_ble_eq_true rfl)
  rw [lg_entry_eq]
  generalize (lg_sl ([.int x]) ++ List.replicate (1 - (lg_sl ([.int x])).length) Slot.unset).toArray = ls at hl ⊢
  have hl : lv_has ls 1 [(0, .int x)] := hl
  refine lv_iload_n hx hb dJ6_bitCount_0f7a4_0 rfl (lv_at hl 0 rfl) ?_
  refine lv_iload_n hx hb dJ6_bitCount_0f7a4_1 rfl (lv_at hl 0 rfl) ?_
  refine lv_iconst (v := 1) hx hb dJ6_bitCount_0f7a4_2 (by decide) ?_
  refine lv_iushr (v := ush x 1) hx hb dJ6_bitCount_0f7a4_3 rfl ?_
  refine lv_ldcw (v := 1431655765) hx hb hown (hts (.constant RJ6 265 1431655765) (List.mem_of_getElem? (i := 1) rfl)) dJ6_bitCount_0f7a4_4 ?_
  refine lv_iand hx hb dJ6_bitCount_0f7a4_7 ?_
  refine lv_isub hx hb dJ6_bitCount_0f7a4_8 ?_
  refine lv_topi (fun x1 ex1 => ?_)
  refine lv_istore_n (lv' := [(0, .int x1)]) hx hb dJ6_bitCount_0f7a4_9 rfl hl (by decide) rfl (fun ls hl => ?_)
  refine lv_iload_n hx hb dJ6_bitCount_0f7a4_10 rfl (lv_at hl 0 rfl) ?_
  refine lv_ldcw (v := 858993459) hx hb hown (hts (.constant RJ6 266 858993459) (List.mem_of_getElem? (i := 2) rfl)) dJ6_bitCount_0f7a4_11 ?_
  refine lv_iand hx hb dJ6_bitCount_0f7a4_14 ?_
  refine lv_iload_n hx hb dJ6_bitCount_0f7a4_15 rfl (lv_at hl 0 rfl) ?_
  refine lv_iconst (v := 2) hx hb dJ6_bitCount_0f7a4_16 (by decide) ?_
  refine lv_iushr (v := ush x1 2) hx hb dJ6_bitCount_0f7a4_17 rfl ?_
  refine lv_ldcw (v := 858993459) hx hb hown (hts (.constant RJ6 266 858993459) (List.mem_of_getElem? (i := 2) rfl)) dJ6_bitCount_0f7a4_18 ?_
  refine lv_iand hx hb dJ6_bitCount_0f7a4_21 ?_
  refine lv_iadd hx hb dJ6_bitCount_0f7a4_22 ?_
  refine lv_topi (fun x2 ex2 => ?_)
  refine lv_istore_n (lv' := [(0, .int x2)]) hx hb dJ6_bitCount_0f7a4_23 rfl hl (by decide) rfl (fun ls hl => ?_)
  refine lv_iload_n hx hb dJ6_bitCount_0f7a4_24 rfl (lv_at hl 0 rfl) ?_
  refine lv_iload_n hx hb dJ6_bitCount_0f7a4_25 rfl (lv_at hl 0 rfl) ?_
  refine lv_iconst (v := 4) hx hb dJ6_bitCount_0f7a4_26 (by decide) ?_
  refine lv_iushr (v := ush x2 4) hx hb dJ6_bitCount_0f7a4_27 rfl ?_
  refine lv_iadd hx hb dJ6_bitCount_0f7a4_28 ?_
  refine lv_ldcw (v := 252645135) hx hb hown (hts (.constant RJ6 267 252645135) (List.mem_of_getElem? (i := 3) rfl)) dJ6_bitCount_0f7a4_29 ?_
  refine lv_iand hx hb dJ6_bitCount_0f7a4_32 ?_
  refine lv_topi (fun x3 ex3 => ?_)
  refine lv_istore_n (lv' := [(0, .int x3)]) hx hb dJ6_bitCount_0f7a4_33 rfl hl (by decide) rfl (fun ls hl => ?_)
  refine lv_iload_n hx hb dJ6_bitCount_0f7a4_34 rfl (lv_at hl 0 rfl) ?_
  refine lv_iload_n hx hb dJ6_bitCount_0f7a4_35 rfl (lv_at hl 0 rfl) ?_
  refine lv_bipush (v := 8) hx hb dJ6_bitCount_0f7a4_36 (by decide) ?_
  refine lv_iushr (v := ush x3 8) hx hb dJ6_bitCount_0f7a4_38 rfl ?_
  refine lv_iadd hx hb dJ6_bitCount_0f7a4_39 ?_
  refine lv_topi (fun x4 ex4 => ?_)
  refine lv_istore_n (lv' := [(0, .int x4)]) hx hb dJ6_bitCount_0f7a4_40 rfl hl (by decide) rfl (fun ls hl => ?_)
  refine lv_iload_n hx hb dJ6_bitCount_0f7a4_41 rfl (lv_at hl 0 rfl) ?_
  refine lv_iload_n hx hb dJ6_bitCount_0f7a4_42 rfl (lv_at hl 0 rfl) ?_
  refine lv_bipush (v := 16) hx hb dJ6_bitCount_0f7a4_43 (by decide) ?_
  refine lv_iushr (v := ush x4 16) hx hb dJ6_bitCount_0f7a4_45 rfl ?_
  refine lv_iadd hx hb dJ6_bitCount_0f7a4_46 ?_
  refine lv_topi (fun x5 ex5 => ?_)
  refine lv_istore_n (lv' := [(0, .int x5)]) hx hb dJ6_bitCount_0f7a4_47 rfl hl (by decide) rfl (fun ls hl => ?_)
  refine lv_iload_n hx hb dJ6_bitCount_0f7a4_48 rfl (lv_at hl 0 rfl) ?_
  refine lv_bipush (v := 63) hx hb dJ6_bitCount_0f7a4_49 (by decide) ?_
  refine lv_iand hx hb dJ6_bitCount_0f7a4_51 ?_
  exact b_ret hx hb hr (by subst ex5; subst ex4; subst ex3; subst ex2; subst ex1; rfl) dJ6_bitCount_0f7a4_52 hlocks
set_option maxHeartbeats 4000000 in
set_option maxRecDepth 100000 in
theorem c_X11_least (l : Launch) (D : va_G) (cI cZ cT : ClassId) (x : Int32)  : Met l yX11_least wsX11_least ({ frames := 0, cells := 0, slots := 0, locals := 0 }) (pR D cI cZ cT [.int x] ([])) (QcRead (x &&& (-x))) 0 0 (fun _ => False) := by
  refine Met.ofW (cc := cX11_least) (maxL := 1) (ret := (some .int)) (by decide) rfl ?_
  intro p e s m args below meth c s₁ B hml hv
  obtain ⟨rfl, hP, hK⟩ := hv
  have hx := B.exec
  have hb := B.bytes
  have hr := B.returns
  have hts := atoms_spec (ws := wsX11_least) B.pre
  have hown : s.vm.findClass RX11 = some m.cls := findClass_of_methodNamed B.named
  have hlocks := B.notSynchronized
  have hl := lv_entry ([.int x]) (n := 1) (Nat.le_of_ble_eq_true rfl)
  rw [lg_entry_eq]
  generalize (lg_sl ([.int x]) ++ List.replicate (1 - (lg_sl ([.int x])).length) Slot.unset).toArray = ls at hl ⊢
  have hl : lv_has ls 1 [(0, .int x)] := hl
  refine lv_iload_n hx hb dX11_least_0 rfl (lv_at hl 0 rfl) ?_
  refine lv_iload_n hx hb dX11_least_1 rfl (lv_at hl 0 rfl) ?_
  refine lv_ineg hx hb dX11_least_2 ?_
  refine lv_iand hx hb dX11_least_3 ?_
  exact b_ret hx hb hr (by first | with_reducible rfl | (simp only [bI, not_true_eq_false, not_false_eq_true, ite_true, ite_false, if_true, if_false, and_self, and_true, true_and, false_and, and_false, or_true, true_or, or_false, false_or]; done) | (simp [bI]; done) | omega) dX11_least_4 hlocks
set_option maxHeartbeats 4000000 in
set_option maxRecDepth 100000 in
theorem c_X11_falseLines (l : Launch) (D : va_G) (cI cZ cT : ClassId) (x y : Int32)  : Met l yX11_falseLines wsX11_falseLines ({ frames := 1, cells := 0, slots := 0, locals := 20 }) (pR D cI cZ cT [.int x, .int y] ([])) (QcRead (bc32 (x ^^^ y))) 0 0 (fun _ => False) := by
  refine Met.ofW (cc := cX11_falseLines) (maxL := 2) (ret := (some .int)) (by decide) rfl ?_
  intro p e s m args below meth c s₁ B hml hv
  obtain ⟨rfl, hP, hK⟩ := hv
  have hx := B.exec
  have hb := B.bytes
  have hr := B.returns
  have hts := atoms_spec (ws := wsX11_falseLines) B.pre
  have hown : s.vm.findClass RX11 = some m.cls := findClass_of_methodNamed B.named
  have hlocks := B.notSynchronized
  have hl := lv_entry ([.int x, .int y]) (n := 2) (Nat.le_of_ble_eq_true rfl)
  rw [lg_entry_eq]
  generalize (lg_sl ([.int x, .int y]) ++ List.replicate (2 - (lg_sl ([.int x, .int y])).length) Slot.unset).toArray = ls at hl ⊢
  have hl : lv_has ls 2 [(0, .int x), (1, .int y)] := hl
  refine lv_iload_n hx hb dX11_falseLines_0 rfl (lv_at hl 0 rfl) ?_
  refine lv_iload_n hx hb dX11_falseLines_1 rfl (lv_at hl 1 rfl) ?_
  refine lv_ixor hx hb dX11_falseLines_2 ?_
  refine b_call (va_runS (As := [.int (x ^^^ y)]) (rest := []) ⟨hx, hb, hml, hown, hts⟩ (c_J6_bitCount_0f7a4 l D cI cZ cT (x ^^^ y)) (va_cwS 1 hts gX11_falseLines_J6_bitCount_0f7a4 rfl rfl rfl (by decide +kernel) ⟨(Nat.le_of_ble_eq_true rfl), (Nat.le_of_ble_eq_true rfl)⟩) (b_pS0 hK) rfl rfl hl.1 rfl (lv_room (Nat.le_of_ble_eq_true rfl)) dX11_falseLines_3 ⟨Nat.zero_le _, Nat.zero_le _⟩).run ?_
  exact b_ret hx hb hr (by first | with_reducible rfl | (simp only [bI, not_true_eq_false, not_false_eq_true, ite_true, ite_false, if_true, if_false, and_self, and_true, true_and, false_and, and_false, or_true, true_or, or_false, false_or]; done) | (simp [bI]; done) | omega) dX11_falseLines_6 hlocks
set_option maxHeartbeats 4000000 in
set_option maxRecDepth 100000 in
theorem c_X11_isChoice (l : Launch) (D : va_G) (cI cZ cT : ClassId) (x : Int32)  : Met l yX11_isChoice wsX11_isChoice ({ frames := 0, cells := 0, slots := 0, locals := 0 }) (pR D cI cZ cT [.int x] ([])) (QcRead (bI (x = 0 ∨ x = 1))) 0 0 (fun _ => False) := by
  refine Met.ofW (cc := cX11_isChoice) (maxL := 1) (ret := (some .boolean)) (by decide) rfl ?_
  intro p e s m args below meth c s₁ B hml hv
  obtain ⟨rfl, hP, hK⟩ := hv
  have hx := B.exec
  have hb := B.bytes
  have hr := B.returns
  have hts := atoms_spec (ws := wsX11_isChoice) B.pre
  have hown : s.vm.findClass RX11 = some m.cls := findClass_of_methodNamed B.named
  have hlocks := B.notSynchronized
  have hl := lv_entry ([.int x]) (n := 1) (Nat.le_of_ble_eq_true rfl)
  rw [lg_entry_eq]
  generalize (lg_sl ([.int x]) ++ List.replicate (1 - (lg_sl ([.int x])).length) Slot.unset).toArray = ls at hl ⊢
  have hl : lv_has ls 1 [(0, .int x)] := hl
  refine lv_iload_n hx hb dX11_isChoice_0 rfl (lv_at hl 0 rfl) ?_
  refine lv_if_eq (tgt := 9) hx hb dX11_isChoice_1 (by decide) (fun c1 => ?_) (fun c1 => ?_)
  · refine lv_iconst (v := 1) hx hb dX11_isChoice_9 (by decide) ?_
    refine lv_goto (tgt := 14) hx hb dX11_isChoice_10 (by decide) ?_
    exact b_zret hx hb hr (by first | with_reducible rfl | (simp only [bI, eq_true c1, not_true_eq_false, not_false_eq_true, ite_true, ite_false, if_true, if_false, and_self, and_true, true_and, false_and, and_false, or_true, true_or, or_false, false_or]; done) | (simp [bI, eq_true c1]; done) | omega) dX11_isChoice_14 hlocks
  · refine lv_iload_n hx hb dX11_isChoice_4 rfl (lv_at hl 0 rfl) ?_
    refine lv_iconst (v := 1) hx hb dX11_isChoice_5 (by decide) ?_
    refine lv_icmp_ne (tgt := 13) hx hb dX11_isChoice_6 (by decide) (fun c2 => ?_) (fun c2 => ?_)
    · refine lv_iconst (v := 0) hx hb dX11_isChoice_13 (by decide) ?_
      exact b_zret hx hb hr (by first | with_reducible rfl | (simp only [bI, eq_false c1, eq_false c2, not_true_eq_false, not_false_eq_true, ite_true, ite_false, if_true, if_false, and_self, and_true, true_and, false_and, and_false, or_true, true_or, or_false, false_or]; done) | (simp [bI, eq_false c1, eq_false c2]; done) | omega) dX11_isChoice_14 hlocks
    · refine lv_iconst (v := 1) hx hb dX11_isChoice_9 (by decide) ?_
      refine lv_goto (tgt := 14) hx hb dX11_isChoice_10 (by decide) ?_
      exact b_zret hx hb hr (by first | with_reducible rfl | (simp only [bI, eq_false c1, eq_true c2, not_true_eq_false, not_false_eq_true, ite_true, ite_false, if_true, if_false, and_self, and_true, true_and, false_and, and_false, or_true, true_or, or_false, false_or]; done) | (simp [bI, eq_false c1, eq_true c2]; done) | omega) dX11_isChoice_14 hlocks
set_option maxHeartbeats 4000000 in
set_option maxRecDepth 100000 in
theorem c_X11_isImage (l : Launch) (D : va_G) (cI cZ cT : ClassId) (x : Int32)  : Met l yX11_isImage wsX11_isImage ({ frames := 0, cells := 0, slots := 0, locals := 0 }) (pR D cI cZ cT [.int x] ([])) (QcRead (bI (¬ x < 0 ∧ ¬ 2 ≤ x))) 0 0 (fun _ => False) := by
  refine Met.ofW (cc := cX11_isImage) (maxL := 1) (ret := (some .boolean)) (by decide) rfl ?_
  intro p e s m args below meth c s₁ B hml hv
  obtain ⟨rfl, hP, hK⟩ := hv
  have hx := B.exec
  have hb := B.bytes
  have hr := B.returns
  have hts := atoms_spec (ws := wsX11_isImage) B.pre
  have hown : s.vm.findClass RX11 = some m.cls := findClass_of_methodNamed B.named
  have hlocks := B.notSynchronized
  have hl := lv_entry ([.int x]) (n := 1) (Nat.le_of_ble_eq_true rfl)
  rw [lg_entry_eq]
  generalize (lg_sl ([.int x]) ++ List.replicate (1 - (lg_sl ([.int x])).length) Slot.unset).toArray = ls at hl ⊢
  have hl : lv_has ls 1 [(0, .int x)] := hl
  refine lv_iload_n hx hb dX11_isImage_0 rfl (lv_at hl 0 rfl) ?_
  refine lv_if_lt (tgt := 13) hx hb dX11_isImage_1 (by decide) (fun c1 => ?_) (fun c1 => ?_)
  · refine lv_iconst (v := 0) hx hb dX11_isImage_13 (by decide) ?_
    exact b_zret hx hb hr (by first | with_reducible rfl | (simp only [bI, eq_true c1, not_true_eq_false, not_false_eq_true, ite_true, ite_false, if_true, if_false, and_self, and_true, true_and, false_and, and_false, or_true, true_or, or_false, false_or]; done) | (simp [bI, eq_true c1]; done) | omega) dX11_isImage_14 hlocks
  · refine lv_iload_n hx hb dX11_isImage_4 rfl (lv_at hl 0 rfl) ?_
    refine lv_iconst (v := 2) hx hb dX11_isImage_5 (by decide) ?_
    refine lv_icmp_ge (tgt := 13) hx hb dX11_isImage_6 (by decide) (fun c2 => ?_) (fun c2 => ?_)
    · refine lv_iconst (v := 0) hx hb dX11_isImage_13 (by decide) ?_
      exact b_zret hx hb hr (by first | with_reducible rfl | (simp only [bI, eq_false c1, eq_true c2, not_true_eq_false, not_false_eq_true, ite_true, ite_false, if_true, if_false, and_self, and_true, true_and, false_and, and_false, or_true, true_or, or_false, false_or]; done) | (simp [bI, eq_false c1, eq_true c2]; done) | omega) dX11_isImage_14 hlocks
    · refine lv_iconst (v := 1) hx hb dX11_isImage_9 (by decide) ?_
      refine lv_goto (tgt := 14) hx hb dX11_isImage_10 (by decide) ?_
      exact b_zret hx hb hr (by first | with_reducible rfl | (simp only [bI, eq_false c1, eq_false c2, not_true_eq_false, not_false_eq_true, ite_true, ite_false, if_true, if_false, and_self, and_true, true_and, false_and, and_false, or_true, true_or, or_false, false_or]; done) | (simp [bI, eq_false c1, eq_false c2]; done) | omega) dX11_isImage_14 hlocks
set_option maxHeartbeats 4000000 in
set_option maxRecDepth 100000 in
theorem c_X11_isSetOfDeeds (l : Launch) (D : va_G) (cI cZ cT : ClassId) (x : Int32)  : Met l yX11_isSetOfDeeds wsX11_isSetOfDeeds ({ frames := 0, cells := 0, slots := 0, locals := 0 }) (pR D cI cZ cT [.int x] ([])) (QcRead (bI (¬ x < 0 ∧ ¬ 63 < x))) 0 0 (fun _ => False) := by
  refine Met.ofW (cc := cX11_isSetOfDeeds) (maxL := 1) (ret := (some .boolean)) (by decide) rfl ?_
  intro p e s m args below meth c s₁ B hml hv
  obtain ⟨rfl, hP, hK⟩ := hv
  have hx := B.exec
  have hb := B.bytes
  have hr := B.returns
  have hts := atoms_spec (ws := wsX11_isSetOfDeeds) B.pre
  have hown : s.vm.findClass RX11 = some m.cls := findClass_of_methodNamed B.named
  have hlocks := B.notSynchronized
  have hl := lv_entry ([.int x]) (n := 1) (Nat.le_of_ble_eq_true rfl)
  rw [lg_entry_eq]
  generalize (lg_sl ([.int x]) ++ List.replicate (1 - (lg_sl ([.int x])).length) Slot.unset).toArray = ls at hl ⊢
  have hl : lv_has ls 1 [(0, .int x)] := hl
  refine lv_iload_n hx hb dX11_isSetOfDeeds_0 rfl (lv_at hl 0 rfl) ?_
  refine lv_if_lt (tgt := 14) hx hb dX11_isSetOfDeeds_1 (by decide) (fun c1 => ?_) (fun c1 => ?_)
  · refine lv_iconst (v := 0) hx hb dX11_isSetOfDeeds_14 (by decide) ?_
    exact b_zret hx hb hr (by first | with_reducible rfl | (simp only [bI, eq_true c1, not_true_eq_false, not_false_eq_true, ite_true, ite_false, if_true, if_false, and_self, and_true, true_and, false_and, and_false, or_true, true_or, or_false, false_or]; done) | (simp [bI, eq_true c1]; done) | omega) dX11_isSetOfDeeds_15 hlocks
  · refine lv_iload_n hx hb dX11_isSetOfDeeds_4 rfl (lv_at hl 0 rfl) ?_
    refine lv_bipush (v := 63) hx hb dX11_isSetOfDeeds_5 (by decide) ?_
    refine lv_icmp_gt (tgt := 14) hx hb dX11_isSetOfDeeds_7 (by decide) (fun c2 => ?_) (fun c2 => ?_)
    · refine lv_iconst (v := 0) hx hb dX11_isSetOfDeeds_14 (by decide) ?_
      exact b_zret hx hb hr (by first | with_reducible rfl | (simp only [bI, eq_false c1, eq_true c2, not_true_eq_false, not_false_eq_true, ite_true, ite_false, if_true, if_false, and_self, and_true, true_and, false_and, and_false, or_true, true_or, or_false, false_or]; done) | (simp [bI, eq_false c1, eq_true c2]; done) | omega) dX11_isSetOfDeeds_15 hlocks
    · refine lv_iconst (v := 1) hx hb dX11_isSetOfDeeds_10 (by decide) ?_
      refine lv_goto (tgt := 15) hx hb dX11_isSetOfDeeds_11 (by decide) ?_
      exact b_zret hx hb hr (by first | with_reducible rfl | (simp only [bI, eq_false c1, eq_false c2, not_true_eq_false, not_false_eq_true, ite_true, ite_false, if_true, if_false, and_self, and_true, true_and, false_and, and_false, or_true, true_or, or_false, false_or]; done) | (simp [bI, eq_false c1, eq_false c2]; done) | omega) dX11_isSetOfDeeds_15 hlocks
set_option maxHeartbeats 4000000 in
set_option maxRecDepth 100000 in
theorem c_X11_isDaysAhead (l : Launch) (D : va_G) (cI cZ cT : ClassId) (x : Int32)  : Met l yX11_isDaysAhead wsX11_isDaysAhead ({ frames := 0, cells := 0, slots := 0, locals := 0 }) (pR D cI cZ cT [.int x] ([])) (QcRead (bI (¬ x < 0 ∧ ¬ 60 < x))) 0 0 (fun _ => False) := by
  refine Met.ofW (cc := cX11_isDaysAhead) (maxL := 1) (ret := (some .boolean)) (by decide) rfl ?_
  intro p e s m args below meth c s₁ B hml hv
  obtain ⟨rfl, hP, hK⟩ := hv
  have hx := B.exec
  have hb := B.bytes
  have hr := B.returns
  have hts := atoms_spec (ws := wsX11_isDaysAhead) B.pre
  have hown : s.vm.findClass RX11 = some m.cls := findClass_of_methodNamed B.named
  have hlocks := B.notSynchronized
  have hl := lv_entry ([.int x]) (n := 1) (Nat.le_of_ble_eq_true rfl)
  rw [lg_entry_eq]
  generalize (lg_sl ([.int x]) ++ List.replicate (1 - (lg_sl ([.int x])).length) Slot.unset).toArray = ls at hl ⊢
  have hl : lv_has ls 1 [(0, .int x)] := hl
  refine lv_iload_n hx hb dX11_isDaysAhead_0 rfl (lv_at hl 0 rfl) ?_
  refine lv_if_lt (tgt := 14) hx hb dX11_isDaysAhead_1 (by decide) (fun c1 => ?_) (fun c1 => ?_)
  · refine lv_iconst (v := 0) hx hb dX11_isDaysAhead_14 (by decide) ?_
    exact b_zret hx hb hr (by first | with_reducible rfl | (simp only [bI, eq_true c1, not_true_eq_false, not_false_eq_true, ite_true, ite_false, if_true, if_false, and_self, and_true, true_and, false_and, and_false, or_true, true_or, or_false, false_or]; done) | (simp [bI, eq_true c1]; done) | omega) dX11_isDaysAhead_15 hlocks
  · refine lv_iload_n hx hb dX11_isDaysAhead_4 rfl (lv_at hl 0 rfl) ?_
    refine lv_bipush (v := 60) hx hb dX11_isDaysAhead_5 (by decide) ?_
    refine lv_icmp_gt (tgt := 14) hx hb dX11_isDaysAhead_7 (by decide) (fun c2 => ?_) (fun c2 => ?_)
    · refine lv_iconst (v := 0) hx hb dX11_isDaysAhead_14 (by decide) ?_
      exact b_zret hx hb hr (by first | with_reducible rfl | (simp only [bI, eq_false c1, eq_true c2, not_true_eq_false, not_false_eq_true, ite_true, ite_false, if_true, if_false, and_self, and_true, true_and, false_and, and_false, or_true, true_or, or_false, false_or]; done) | (simp [bI, eq_false c1, eq_true c2]; done) | omega) dX11_isDaysAhead_15 hlocks
    · refine lv_iconst (v := 1) hx hb dX11_isDaysAhead_10 (by decide) ?_
      refine lv_goto (tgt := 15) hx hb dX11_isDaysAhead_11 (by decide) ?_
      exact b_zret hx hb hr (by first | with_reducible rfl | (simp only [bI, eq_false c1, eq_false c2, not_true_eq_false, not_false_eq_true, ite_true, ite_false, if_true, if_false, and_self, and_true, true_and, false_and, and_false, or_true, true_or, or_false, false_or]; done) | (simp [bI, eq_false c1, eq_false c2]; done) | omega) dX11_isDaysAhead_15 hlocks
set_option maxHeartbeats 4000000 in
set_option maxRecDepth 100000 in
theorem c_X11_isToldDays (l : Launch) (D : va_G) (cI cZ cT : ClassId) (x : Int32)  : Met l yX11_isToldDays wsX11_isToldDays ({ frames := 0, cells := 0, slots := 0, locals := 0 }) (pR D cI cZ cT [.int x] ([])) (QcRead (bI (¬ x < 1 ∧ ¬ 16 < x))) 0 0 (fun _ => False) := by
  refine Met.ofW (cc := cX11_isToldDays) (maxL := 1) (ret := (some .boolean)) (by decide) rfl ?_
  intro p e s m args below meth c s₁ B hml hv
  obtain ⟨rfl, hP, hK⟩ := hv
  have hx := B.exec
  have hb := B.bytes
  have hr := B.returns
  have hts := atoms_spec (ws := wsX11_isToldDays) B.pre
  have hown : s.vm.findClass RX11 = some m.cls := findClass_of_methodNamed B.named
  have hlocks := B.notSynchronized
  have hl := lv_entry ([.int x]) (n := 1) (Nat.le_of_ble_eq_true rfl)
  rw [lg_entry_eq]
  generalize (lg_sl ([.int x]) ++ List.replicate (1 - (lg_sl ([.int x])).length) Slot.unset).toArray = ls at hl ⊢
  have hl : lv_has ls 1 [(0, .int x)] := hl
  refine lv_iload_n hx hb dX11_isToldDays_0 rfl (lv_at hl 0 rfl) ?_
  refine lv_iconst (v := 1) hx hb dX11_isToldDays_1 (by decide) ?_
  refine lv_icmp_lt (tgt := 15) hx hb dX11_isToldDays_2 (by decide) (fun c1 => ?_) (fun c1 => ?_)
  · refine lv_iconst (v := 0) hx hb dX11_isToldDays_15 (by decide) ?_
    exact b_zret hx hb hr (by first | with_reducible rfl | (simp only [bI, eq_true c1, not_true_eq_false, not_false_eq_true, ite_true, ite_false, if_true, if_false, and_self, and_true, true_and, false_and, and_false, or_true, true_or, or_false, false_or]; done) | (simp [bI, eq_true c1]; done) | omega) dX11_isToldDays_16 hlocks
  · refine lv_iload_n hx hb dX11_isToldDays_5 rfl (lv_at hl 0 rfl) ?_
    refine lv_bipush (v := 16) hx hb dX11_isToldDays_6 (by decide) ?_
    refine lv_icmp_gt (tgt := 15) hx hb dX11_isToldDays_8 (by decide) (fun c2 => ?_) (fun c2 => ?_)
    · refine lv_iconst (v := 0) hx hb dX11_isToldDays_15 (by decide) ?_
      exact b_zret hx hb hr (by first | with_reducible rfl | (simp only [bI, eq_false c1, eq_true c2, not_true_eq_false, not_false_eq_true, ite_true, ite_false, if_true, if_false, and_self, and_true, true_and, false_and, and_false, or_true, true_or, or_false, false_or]; done) | (simp [bI, eq_false c1, eq_true c2]; done) | omega) dX11_isToldDays_16 hlocks
    · refine lv_iconst (v := 1) hx hb dX11_isToldDays_11 (by decide) ?_
      refine lv_goto (tgt := 16) hx hb dX11_isToldDays_12 (by decide) ?_
      exact b_zret hx hb hr (by first | with_reducible rfl | (simp only [bI, eq_false c1, eq_false c2, not_true_eq_false, not_false_eq_true, ite_true, ite_false, if_true, if_false, and_self, and_true, true_and, false_and, and_false, or_true, true_or, or_false, false_or]; done) | (simp [bI, eq_false c1, eq_false c2]; done) | omega) dX11_isToldDays_16 hlocks
set_option maxHeartbeats 4000000 in
set_option maxRecDepth 100000 in
theorem c_X11_tenToThe (l : Launch) (D : va_G) (cI cZ cT : ClassId) (x : Nat) (hx6 : x ≤ 6) : Met l yX11_tenToThe wsX11_tenToThe ({ frames := 0, cells := 0, slots := 0, locals := 0 }) (pR D cI cZ cT [.int (nI (x))] ([])) (QcRead (nI (tenF x))) 0 0 (fun _ => False) := by
  refine Met.ofW (cc := cX11_tenToThe) (maxL := 3) (ret := (some .int)) (by decide) rfl ?_
  intro p e s m args below meth c s₁ B hml hv
  obtain ⟨rfl, hP, hK⟩ := hv
  have hx := B.exec
  have hb := B.bytes
  have hr := B.returns
  have hts := atoms_spec (ws := wsX11_tenToThe) B.pre
  have hown : s.vm.findClass RX11 = some m.cls := findClass_of_methodNamed B.named
  have hlocks := B.notSynchronized
  have hl := lv_entry ([.int (nI (x))]) (n := 3) (Nat.le_of_ble_eq_true rfl)
  rw [lg_entry_eq]
  generalize (lg_sl ([.int (nI (x))]) ++ List.replicate (3 - (lg_sl ([.int (nI (x))])).length) Slot.unset).toArray = ls at hl ⊢
  have hl : lv_has ls 3 [(0, .int (nI (x)))] := hl
  refine lv_iconst (v := (nI 1)) hx hb dX11_tenToThe_0 (by decide) ?_
  refine lv_istore_n (lv' := [(1, .int (nI 1)), (0, .int (nI (x)))]) hx hb dX11_tenToThe_1 rfl hl (by decide) rfl (fun ls hl => ?_)
  refine lv_iconst (v := (nI 0)) hx hb dX11_tenToThe_2 (by decide) ?_
  refine lv_istore_n (lv' := [(2, .int (nI 0)), (1, .int (nI 1)), (0, .int (nI (x)))]) hx hb dX11_tenToThe_3 rfl hl (by decide) rfl (fun ls hl => ?_)
  refine b_loopR (N := x) (I := fun k ls => lv_has ls 3 [(2, .int (nI (k))), (1, .int (nI (tenF k))), (0, .int (nI (x)))]) (fun k hk ih1 ls hI => ?_) 0 (by omega) (lv_sub hl [0, 1, 2] rfl)
  have hl := hI
  have hl : lv_has ls 3 [(2, .int (nI (k))), (1, .int (nI (tenF k))), (0, .int (nI (x)))] := hl
  refine lv_iload_n hx hb dX11_tenToThe_4 rfl (lv_at hl 0 rfl) ?_
  refine lv_iload_n hx hb dX11_tenToThe_5 rfl (lv_at hl 2 rfl) ?_
  refine b_ge (tgt := 20) hx hb (by omega) (by omega) dX11_tenToThe_6 (by decide) (fun c2 => ?_) (fun c2 => ?_)
  · have h_k : x = k := by omega
    subst h_k
    refine lv_iload_n hx hb dX11_tenToThe_20 rfl (lv_at hl 1 rfl) ?_
    exact b_ret hx hb hr rfl dX11_tenToThe_21 hlocks
  · refine lv_iload_n hx hb dX11_tenToThe_9 rfl (lv_at hl 1 rfl) ?_
    refine lv_bipush (v := (nI 10)) hx hb dX11_tenToThe_10 (by decide) ?_
    refine b_mul hx hb dX11_tenToThe_12 ?_
    refine lv_istore_n (lv' := [(1, .int (nI ((tenF k) * 10))), (2, .int (nI (k))), (0, .int (nI (x)))]) hx hb dX11_tenToThe_13 rfl hl (by decide) rfl (fun ls hl => ?_)
    refine lv_iinc (v := (nI (k + 1))) (lv' := [(2, .int (nI (k + 1))), (1, .int (nI ((tenF k) * 10))), (0, .int (nI (x)))]) hx hb dX11_tenToThe_14 hl (k := 1) rfl (nI_add _ _) (by decide) rfl (fun ls hl => ?_)
    refine lv_goto (tgt := 4) hx hb dX11_tenToThe_17 (by decide) ?_
    exact ih1 (by omega) ls (lv_sub hl [0, 1, 2] rfl)
set_option maxHeartbeats 4000000 in
set_option maxRecDepth 100000 in
theorem c_X4_isRow (l : Launch) (D : va_G) (cI cZ cT : ClassId) (x : Int32)  : Met l yX4_isRow wsX4_isRow ({ frames := 0, cells := 0, slots := 0, locals := 0 }) (pR D cI cZ cT [.int x] ([])) (QcRead (bI (¬ x < 0 ∧ ¬ 8 ≤ x))) 0 0 (fun _ => False) := by
  refine Met.ofW (cc := cX4_isRow) (maxL := 1) (ret := (some .boolean)) (by decide) rfl ?_
  intro p e s m args below meth c s₁ B hml hv
  obtain ⟨rfl, hP, hK⟩ := hv
  have hx := B.exec
  have hb := B.bytes
  have hr := B.returns
  have hts := atoms_spec (ws := wsX4_isRow) B.pre
  have hown : s.vm.findClass RX4 = some m.cls := findClass_of_methodNamed B.named
  have hlocks := B.notSynchronized
  have hl := lv_entry ([.int x]) (n := 1) (Nat.le_of_ble_eq_true rfl)
  rw [lg_entry_eq]
  generalize (lg_sl ([.int x]) ++ List.replicate (1 - (lg_sl ([.int x])).length) Slot.unset).toArray = ls at hl ⊢
  have hl : lv_has ls 1 [(0, .int x)] := hl
  refine lv_iload_n hx hb dX4_isRow_0 rfl (lv_at hl 0 rfl) ?_
  refine lv_if_lt (tgt := 14) hx hb dX4_isRow_1 (by decide) (fun c1 => ?_) (fun c1 => ?_)
  · refine lv_iconst (v := 0) hx hb dX4_isRow_14 (by decide) ?_
    exact b_zret hx hb hr (by first | with_reducible rfl | (simp only [bI, eq_true c1, not_true_eq_false, not_false_eq_true, ite_true, ite_false, if_true, if_false, and_self, and_true, true_and, false_and, and_false, or_true, true_or, or_false, false_or]; done) | (simp [bI, eq_true c1]; done) | omega) dX4_isRow_15 hlocks
  · refine lv_iload_n hx hb dX4_isRow_4 rfl (lv_at hl 0 rfl) ?_
    refine lv_bipush (v := 8) hx hb dX4_isRow_5 (by decide) ?_
    refine lv_icmp_ge (tgt := 14) hx hb dX4_isRow_7 (by decide) (fun c2 => ?_) (fun c2 => ?_)
    · refine lv_iconst (v := 0) hx hb dX4_isRow_14 (by decide) ?_
      exact b_zret hx hb hr (by first | with_reducible rfl | (simp only [bI, eq_false c1, eq_true c2, not_true_eq_false, not_false_eq_true, ite_true, ite_false, if_true, if_false, and_self, and_true, true_and, false_and, and_false, or_true, true_or, or_false, false_or]; done) | (simp [bI, eq_false c1, eq_true c2]; done) | omega) dX4_isRow_15 hlocks
    · refine lv_iconst (v := 1) hx hb dX4_isRow_10 (by decide) ?_
      refine lv_goto (tgt := 15) hx hb dX4_isRow_11 (by decide) ?_
      exact b_zret hx hb hr (by first | with_reducible rfl | (simp only [bI, eq_false c1, eq_false c2, not_true_eq_false, not_false_eq_true, ite_true, ite_false, if_true, if_false, and_self, and_true, true_and, false_and, and_false, or_true, true_or, or_false, false_or]; done) | (simp [bI, eq_false c1, eq_false c2]; done) | omega) dX4_isRow_15 hlocks
set_option maxHeartbeats 4000000 in
set_option maxRecDepth 100000 in
theorem c_X4_isLane (l : Launch) (D : va_G) (cI cZ cT : ClassId) (x : Int32)  : Met l yX4_isLane wsX4_isLane ({ frames := 0, cells := 0, slots := 0, locals := 0 }) (pR D cI cZ cT [.int x] ([])) (QcRead (bI (¬ x < 0 ∧ ¬ 2 < x))) 0 0 (fun _ => False) := by
  refine Met.ofW (cc := cX4_isLane) (maxL := 1) (ret := (some .boolean)) (by decide) rfl ?_
  intro p e s m args below meth c s₁ B hml hv
  obtain ⟨rfl, hP, hK⟩ := hv
  have hx := B.exec
  have hb := B.bytes
  have hr := B.returns
  have hts := atoms_spec (ws := wsX4_isLane) B.pre
  have hown : s.vm.findClass RX4 = some m.cls := findClass_of_methodNamed B.named
  have hlocks := B.notSynchronized
  have hl := lv_entry ([.int x]) (n := 1) (Nat.le_of_ble_eq_true rfl)
  rw [lg_entry_eq]
  generalize (lg_sl ([.int x]) ++ List.replicate (1 - (lg_sl ([.int x])).length) Slot.unset).toArray = ls at hl ⊢
  have hl : lv_has ls 1 [(0, .int x)] := hl
  refine lv_iload_n hx hb dX4_isLane_0 rfl (lv_at hl 0 rfl) ?_
  refine lv_if_lt (tgt := 13) hx hb dX4_isLane_1 (by decide) (fun c1 => ?_) (fun c1 => ?_)
  · refine lv_iconst (v := 0) hx hb dX4_isLane_13 (by decide) ?_
    exact b_zret hx hb hr (by first | with_reducible rfl | (simp only [bI, eq_true c1, not_true_eq_false, not_false_eq_true, ite_true, ite_false, if_true, if_false, and_self, and_true, true_and, false_and, and_false, or_true, true_or, or_false, false_or]; done) | (simp [bI, eq_true c1]; done) | omega) dX4_isLane_14 hlocks
  · refine lv_iload_n hx hb dX4_isLane_4 rfl (lv_at hl 0 rfl) ?_
    refine lv_iconst (v := 2) hx hb dX4_isLane_5 (by decide) ?_
    refine lv_icmp_gt (tgt := 13) hx hb dX4_isLane_6 (by decide) (fun c2 => ?_) (fun c2 => ?_)
    · refine lv_iconst (v := 0) hx hb dX4_isLane_13 (by decide) ?_
      exact b_zret hx hb hr (by first | with_reducible rfl | (simp only [bI, eq_false c1, eq_true c2, not_true_eq_false, not_false_eq_true, ite_true, ite_false, if_true, if_false, and_self, and_true, true_and, false_and, and_false, or_true, true_or, or_false, false_or]; done) | (simp [bI, eq_false c1, eq_true c2]; done) | omega) dX4_isLane_14 hlocks
    · refine lv_iconst (v := 1) hx hb dX4_isLane_9 (by decide) ?_
      refine lv_goto (tgt := 14) hx hb dX4_isLane_10 (by decide) ?_
      exact b_zret hx hb hr (by first | with_reducible rfl | (simp only [bI, eq_false c1, eq_false c2, not_true_eq_false, not_false_eq_true, ite_true, ite_false, if_true, if_false, and_self, and_true, true_and, false_and, and_false, or_true, true_or, or_false, false_or]; done) | (simp [bI, eq_false c1, eq_false c2]; done) | omega) dX4_isLane_14 hlocks
theorem u_X4_isMissing_X4 : ∀ w ∈ wsX40, w ∈ wsX4_isMissing := fun _ h => List.mem_cons_of_mem _ (List.mem_append_right _ h)
set_option maxHeartbeats 4000000 in
set_option maxRecDepth 100000 in
theorem c_X4_isMissing (l : Launch) (D : va_G) (cI cZ cT : ClassId) (ra : Nat → Nat) (it la sz : Nat → Int32) (r : Nat) (hr_ : r ≤ 7) : Met l yX4_isMissing wsX4_isMissing ({ frames := 0, cells := 0, slots := 0, locals := 0 }) (pR D cI cZ cT [.ref (ra 0), .int (nI (r))] (wRows cI ra it la sz)) (QcRead (bI (la r = -1))) 0 0 (fun _ => False) := by
  refine Met.ofW (cc := cX4_isMissing) (maxL := 2) (ret := (some .boolean)) (by decide) rfl ?_
  intro p e s m args below meth c s₁ B hml hv
  obtain ⟨rfl, hP, hK⟩ := hv
  have hx := B.exec
  have hb := B.bytes
  have hr := B.returns
  have hts := atoms_spec (ws := wsX4_isMissing) B.pre
  have hown : s.vm.findClass RX4 = some m.cls := findClass_of_methodNamed B.named
  have hlocks := B.notSynchronized
  have hl := lv_entry ([.ref (ra 0), .int (nI (r))]) (n := 2) (Nat.le_of_ble_eq_true rfl)
  rw [lg_entry_eq]
  generalize (lg_sl ([.ref (ra 0), .int (nI (r))]) ++ List.replicate (2 - (lg_sl ([.ref (ra 0), .int (nI (r))])).length) Slot.unset).toArray = ls at hl ⊢
  have hl : lv_has ls 2 [(0, .ref (ra 0)), (1, .int (nI (r)))] := hl
  refine lv_aload_n hx hb dX4_isMissing_0 rfl (lv_at hl 0 rfl) ?_
  refine va_get (D := D) (ci := 4) (v := .ref (ra 2)) (C := RX4) (T := TX4) (N := 3) hx hb hts u_X4_isMissing_X4 hown hK.1 hP 0 rfl rfl 1 (by decide) (hts (.fieldLink RX4 13 "NoticeWeek$Rows" "lanes" "[I") (List.mem_of_getElem? (i := 1) rfl)) (fun _ h9 => h9) rfl dX4_isMissing_1 ?_
  refine lv_iload_n hx hb dX4_isMissing_4 rfl (lv_at hl 1 rfl) ?_
  refine b_ald hx hb hK hP 2 rfl (by omega) (by decide) dX4_isMissing_5 ?_
  refine lv_iconst (v := (-1)) hx hb dX4_isMissing_6 (by decide) ?_
  refine lv_icmp_ne (tgt := 14) hx hb dX4_isMissing_7 (by decide) (fun c1 => ?_) (fun c1 => ?_)
  · refine lv_iconst (v := 0) hx hb dX4_isMissing_14 (by decide) ?_
    exact b_zret hx hb hr (by first | with_reducible rfl | (simp only [bI, eq_false c1, not_true_eq_false, not_false_eq_true, ite_true, ite_false, if_true, if_false, and_self, and_true, true_and, false_and, and_false, or_true, true_or, or_false, false_or]; done) | (simp [bI, eq_false c1]; done) | omega) dX4_isMissing_15 hlocks
  · refine lv_iconst (v := 1) hx hb dX4_isMissing_10 (by decide) ?_
    refine lv_goto (tgt := 15) hx hb dX4_isMissing_11 (by decide) ?_
    exact b_zret hx hb hr (by first | with_reducible rfl | (simp only [bI, eq_true c1, not_true_eq_false, not_false_eq_true, ite_true, ite_false, if_true, if_false, and_self, and_true, true_and, false_and, and_false, or_true, true_or, or_false, false_or]; done) | (simp [bI, eq_true c1]; done) | omega) dX4_isMissing_15 hlocks
theorem u_X4_laneOf_X4 : ∀ w ∈ wsX40, w ∈ wsX4_laneOf := fun _ h => List.mem_cons_of_mem _ (List.mem_append_right _ h)
set_option maxHeartbeats 4000000 in
set_option maxRecDepth 100000 in
theorem c_X4_laneOf (l : Launch) (D : va_G) (cI cZ cT : ClassId) (ra : Nat → Nat) (it la sz : Nat → Int32) (r : Nat) (hr_ : r ≤ 7) : Met l yX4_laneOf wsX4_laneOf ({ frames := 0, cells := 0, slots := 0, locals := 0 }) (pR D cI cZ cT [.ref (ra 0), .int (nI (r))] (wRows cI ra it la sz)) (QcRead (la r)) 0 0 (fun _ => False) := by
  refine Met.ofW (cc := cX4_laneOf) (maxL := 2) (ret := (some .int)) (by decide) rfl ?_
  intro p e s m args below meth c s₁ B hml hv
  obtain ⟨rfl, hP, hK⟩ := hv
  have hx := B.exec
  have hb := B.bytes
  have hr := B.returns
  have hts := atoms_spec (ws := wsX4_laneOf) B.pre
  have hown : s.vm.findClass RX4 = some m.cls := findClass_of_methodNamed B.named
  have hlocks := B.notSynchronized
  have hl := lv_entry ([.ref (ra 0), .int (nI (r))]) (n := 2) (Nat.le_of_ble_eq_true rfl)
  rw [lg_entry_eq]
  generalize (lg_sl ([.ref (ra 0), .int (nI (r))]) ++ List.replicate (2 - (lg_sl ([.ref (ra 0), .int (nI (r))])).length) Slot.unset).toArray = ls at hl ⊢
  have hl : lv_has ls 2 [(0, .ref (ra 0)), (1, .int (nI (r)))] := hl
  refine lv_aload_n hx hb dX4_laneOf_0 rfl (lv_at hl 0 rfl) ?_
  refine va_get (D := D) (ci := 4) (v := .ref (ra 2)) (C := RX4) (T := TX4) (N := 3) hx hb hts u_X4_laneOf_X4 hown hK.1 hP 0 rfl rfl 1 (by decide) (hts (.fieldLink RX4 13 "NoticeWeek$Rows" "lanes" "[I") (List.mem_of_getElem? (i := 1) rfl)) (fun _ h9 => h9) rfl dX4_laneOf_1 ?_
  refine lv_iload_n hx hb dX4_laneOf_4 rfl (lv_at hl 1 rfl) ?_
  refine b_ald hx hb hK hP 2 rfl (by omega) (by decide) dX4_laneOf_5 ?_
  exact b_ret hx hb hr (by first | with_reducible rfl | (simp only [bI, not_true_eq_false, not_false_eq_true, ite_true, ite_false, if_true, if_false, and_self, and_true, true_and, false_and, and_false, or_true, true_or, or_false, false_or]; done) | (simp [bI]; done) | omega) dX4_laneOf_6 hlocks
theorem u_X4_sizeOf_X4 : ∀ w ∈ wsX40, w ∈ wsX4_sizeOf := fun _ h => List.mem_cons_of_mem _ (List.mem_append_right _ h)
set_option maxHeartbeats 4000000 in
set_option maxRecDepth 100000 in
theorem c_X4_sizeOf (l : Launch) (D : va_G) (cI cZ cT : ClassId) (ra : Nat → Nat) (it la sz : Nat → Int32) (r : Nat) (hr_ : r ≤ 7) : Met l yX4_sizeOf wsX4_sizeOf ({ frames := 0, cells := 0, slots := 0, locals := 0 }) (pR D cI cZ cT [.ref (ra 0), .int (nI (r))] (wRows cI ra it la sz)) (QcRead (sz r)) 0 0 (fun _ => False) := by
  refine Met.ofW (cc := cX4_sizeOf) (maxL := 2) (ret := (some .int)) (by decide) rfl ?_
  intro p e s m args below meth c s₁ B hml hv
  obtain ⟨rfl, hP, hK⟩ := hv
  have hx := B.exec
  have hb := B.bytes
  have hr := B.returns
  have hts := atoms_spec (ws := wsX4_sizeOf) B.pre
  have hown : s.vm.findClass RX4 = some m.cls := findClass_of_methodNamed B.named
  have hlocks := B.notSynchronized
  have hl := lv_entry ([.ref (ra 0), .int (nI (r))]) (n := 2) (Nat.le_of_ble_eq_true rfl)
  rw [lg_entry_eq]
  generalize (lg_sl ([.ref (ra 0), .int (nI (r))]) ++ List.replicate (2 - (lg_sl ([.ref (ra 0), .int (nI (r))])).length) Slot.unset).toArray = ls at hl ⊢
  have hl : lv_has ls 2 [(0, .ref (ra 0)), (1, .int (nI (r)))] := hl
  refine lv_aload_n hx hb dX4_sizeOf_0 rfl (lv_at hl 0 rfl) ?_
  refine va_get (D := D) (ci := 4) (v := .ref (ra 3)) (C := RX4) (T := TX4) (N := 3) hx hb hts u_X4_sizeOf_X4 hown hK.1 hP 0 rfl rfl 2 (by decide) (hts (.fieldLink RX4 16 "NoticeWeek$Rows" "sizes" "[I") (List.mem_of_getElem? (i := 1) rfl)) (fun _ h9 => h9) rfl dX4_sizeOf_1 ?_
  refine lv_iload_n hx hb dX4_sizeOf_4 rfl (lv_at hl 1 rfl) ?_
  refine b_ald hx hb hK hP 3 rfl (by omega) (by decide) dX4_sizeOf_5 ?_
  exact b_ret hx hb hr (by first | with_reducible rfl | (simp only [bI, not_true_eq_false, not_false_eq_true, ite_true, ite_false, if_true, if_false, and_self, and_true, true_and, false_and, and_false, or_true, true_or, or_false, false_or]; done) | (simp [bI]; done) | omega) dX4_sizeOf_6 hlocks
theorem u_X4_hasPlaces_X4 : ∀ w ∈ wsX40, w ∈ wsX4_hasPlaces := fun _ h => List.mem_cons_of_mem _ (List.mem_append_right _ h)
set_option maxHeartbeats 4000000 in
set_option maxRecDepth 100000 in
theorem c_X4_hasPlaces (l : Launch) (D : va_G) (cI cZ cT : ClassId) (ra : Nat → Nat) (it la sz : Nat → Int32) (r : Nat) (i x : Int32) (hr_ : r ≤ 7) : Met l yX4_hasPlaces wsX4_hasPlaces ({ frames := 0, cells := 0, slots := 0, locals := 0 }) (pR D cI cZ cT [.ref (ra 0), .int (nI (r)), .int i, .int x] (wRows cI ra it la sz)) (QcRead (bI (¬ i < 0 ∧ ¬ x < 0 ∧ ¬ sz r < x ∧ ¬ sz r - x < i))) 0 0 (fun _ => False) := by
  refine Met.ofW (cc := cX4_hasPlaces) (maxL := 4) (ret := (some .boolean)) (by decide) rfl ?_
  intro p e s m args below meth c s₁ B hml hv
  obtain ⟨rfl, hP, hK⟩ := hv
  have hx := B.exec
  have hb := B.bytes
  have hr := B.returns
  have hts := atoms_spec (ws := wsX4_hasPlaces) B.pre
  have hown : s.vm.findClass RX4 = some m.cls := findClass_of_methodNamed B.named
  have hlocks := B.notSynchronized
  have hl := lv_entry ([.ref (ra 0), .int (nI (r)), .int i, .int x]) (n := 4) (Nat.le_of_ble_eq_true rfl)
  rw [lg_entry_eq]
  generalize (lg_sl ([.ref (ra 0), .int (nI (r)), .int i, .int x]) ++ List.replicate (4 - (lg_sl ([.ref (ra 0), .int (nI (r)), .int i, .int x])).length) Slot.unset).toArray = ls at hl ⊢
  have hl : lv_has ls 4 [(0, .ref (ra 0)), (1, .int (nI (r))), (2, .int i), (3, .int x)] := hl
  refine lv_iload_n hx hb dX4_hasPlaces_0 rfl (lv_at hl 2 rfl) ?_
  refine lv_if_lt (tgt := 34) hx hb dX4_hasPlaces_1 (by decide) (fun c1 => ?_) (fun c1 => ?_)
  · refine lv_iconst (v := 0) hx hb dX4_hasPlaces_34 (by decide) ?_
    exact b_zret hx hb hr (by first | with_reducible rfl | (simp only [bI, eq_true c1, not_true_eq_false, not_false_eq_true, ite_true, ite_false, if_true, if_false, and_self, and_true, true_and, false_and, and_false, or_true, true_or, or_false, false_or]; done) | (simp [bI, eq_true c1]; done) | omega) dX4_hasPlaces_35 hlocks
  · refine lv_iload_n hx hb dX4_hasPlaces_4 rfl (lv_at hl 3 rfl) ?_
    refine lv_if_lt (tgt := 34) hx hb dX4_hasPlaces_5 (by decide) (fun c2 => ?_) (fun c2 => ?_)
    · refine lv_iconst (v := 0) hx hb dX4_hasPlaces_34 (by decide) ?_
      exact b_zret hx hb hr (by first | with_reducible rfl | (simp only [bI, eq_false c1, eq_true c2, not_true_eq_false, not_false_eq_true, ite_true, ite_false, if_true, if_false, and_self, and_true, true_and, false_and, and_false, or_true, true_or, or_false, false_or]; done) | (simp [bI, eq_false c1, eq_true c2]; done) | omega) dX4_hasPlaces_35 hlocks
    · refine lv_iload_n hx hb dX4_hasPlaces_8 rfl (lv_at hl 3 rfl) ?_
      refine lv_aload_n hx hb dX4_hasPlaces_9 rfl (lv_at hl 0 rfl) ?_
      refine va_get (D := D) (ci := 4) (v := .ref (ra 3)) (C := RX4) (T := TX4) (N := 3) hx hb hts u_X4_hasPlaces_X4 hown hK.1 hP 0 rfl rfl 2 (by decide) (hts (.fieldLink RX4 16 "NoticeWeek$Rows" "sizes" "[I") (List.mem_of_getElem? (i := 1) rfl)) (fun _ h9 => h9) rfl dX4_hasPlaces_10 ?_
      refine lv_iload_n hx hb dX4_hasPlaces_13 rfl (lv_at hl 1 rfl) ?_
      refine b_ald hx hb hK hP 3 rfl (by omega) (by decide) dX4_hasPlaces_14 ?_
      refine lv_icmp_gt (tgt := 34) hx hb dX4_hasPlaces_15 (by decide) (fun c3 => ?_) (fun c3 => ?_)
      · refine lv_iconst (v := 0) hx hb dX4_hasPlaces_34 (by decide) ?_
        exact b_zret hx hb hr (by first | with_reducible rfl | (simp only [bI, eq_false c1, eq_false c2, eq_true c3, not_true_eq_false, not_false_eq_true, ite_true, ite_false, if_true, if_false, and_self, and_true, true_and, false_and, and_false, or_true, true_or, or_false, false_or]; done) | (simp [bI, eq_false c1, eq_false c2, eq_true c3]; done) | omega) dX4_hasPlaces_35 hlocks
      · refine lv_iload_n hx hb dX4_hasPlaces_18 rfl (lv_at hl 2 rfl) ?_
        refine lv_aload_n hx hb dX4_hasPlaces_19 rfl (lv_at hl 0 rfl) ?_
        refine va_get (D := D) (ci := 4) (v := .ref (ra 3)) (C := RX4) (T := TX4) (N := 3) hx hb hts u_X4_hasPlaces_X4 hown hK.1 hP 0 rfl rfl 2 (by decide) (hts (.fieldLink RX4 16 "NoticeWeek$Rows" "sizes" "[I") (List.mem_of_getElem? (i := 1) rfl)) (fun _ h9 => h9) rfl dX4_hasPlaces_20 ?_
        refine lv_iload_n hx hb dX4_hasPlaces_23 rfl (lv_at hl 1 rfl) ?_
        refine b_ald hx hb hK hP 3 rfl (by omega) (by decide) dX4_hasPlaces_24 ?_
        refine lv_iload_n hx hb dX4_hasPlaces_25 rfl (lv_at hl 3 rfl) ?_
        refine lv_isub hx hb dX4_hasPlaces_26 ?_
        refine lv_icmp_gt (tgt := 34) hx hb dX4_hasPlaces_27 (by decide) (fun c4 => ?_) (fun c4 => ?_)
        · refine lv_iconst (v := 0) hx hb dX4_hasPlaces_34 (by decide) ?_
          exact b_zret hx hb hr (by first | with_reducible rfl | (simp only [bI, eq_false c1, eq_false c2, eq_false c3, eq_true c4, not_true_eq_false, not_false_eq_true, ite_true, ite_false, if_true, if_false, and_self, and_true, true_and, false_and, and_false, or_true, true_or, or_false, false_or]; done) | (simp [bI, eq_false c1, eq_false c2, eq_false c3, eq_true c4]; done) | omega) dX4_hasPlaces_35 hlocks
        · refine lv_iconst (v := 1) hx hb dX4_hasPlaces_30 (by decide) ?_
          refine lv_goto (tgt := 35) hx hb dX4_hasPlaces_31 (by decide) ?_
          exact b_zret hx hb hr (by first | with_reducible rfl | (simp only [bI, eq_false c1, eq_false c2, eq_false c3, eq_false c4, not_true_eq_false, not_false_eq_true, ite_true, ite_false, if_true, if_false, and_self, and_true, true_and, false_and, and_false, or_true, true_or, or_false, false_or]; done) | (simp [bI, eq_false c1, eq_false c2, eq_false c3, eq_false c4]; done) | omega) dX4_hasPlaces_35 hlocks
theorem u_X4_make_X4 : ∀ w ∈ wsX40, w ∈ wsX4_make := fun _ h => List.mem_cons_of_mem _ (List.mem_append_right _ h)
set_option maxHeartbeats 4000000 in
set_option maxRecDepth 100000 in
theorem c_X4_make (l : Launch) (D : va_G) (cI cZ cT : ClassId) (ra : Nat → Nat) (it la sz : Nat → Int32) (r : Nat) (lane : Int32) (x : Nat) (hr_ : r ≤ 7) (hx40 : x ≤ 40) : Met l yX4_make wsX4_make ({ frames := 0, cells := 0, slots := 0, locals := 0 }) (pM D cI cZ cT [.ref (ra 0), .int (nI (r)), .int lane, .int (nI (x))] (wRows cI ra it la sz)) (qM D none (wRows cI ra (itr (fun j f => upd f (r * 40 + j) 0) x it) (upd la r lane) (upd sz r (nI x))) (adr (wRows cI ra it la sz))) 0 0 (adr (wRows cI ra it la sz)) := by
  refine Met.ofW (cc := cX4_make) (maxL := 5) (ret := none) (by decide) rfl ?_
  intro p e s m args below meth c s₁ B hml hv
  obtain ⟨rfl, hP, hD0, hK⟩ := hv
  have hx := B.exec
  have hb := B.bytes
  have hr := B.returns
  have hts := atoms_spec (ws := wsX4_make) B.pre
  have hown : s.vm.findClass RX4 = some m.cls := findClass_of_methodNamed B.named
  have hlocks := B.notSynchronized
  have hD := hD0.toAdr
  have hS : va_S (adr (wRows cI ra it la sz)) s.heap s.heap [] := va_S.rf
  generalize adr (wRows cI ra it la sz) = A at hD hS ⊢
  have hl := lv_entry ([.ref (ra 0), .int (nI (r)), .int lane, .int (nI (x))]) (n := 5) (Nat.le_of_ble_eq_true rfl)
  rw [lg_entry_eq]
  generalize (lg_sl ([.ref (ra 0), .int (nI (r)), .int lane, .int (nI (x))]) ++ List.replicate (5 - (lg_sl ([.ref (ra 0), .int (nI (r)), .int lane, .int (nI (x))])).length) Slot.unset).toArray = ls at hl ⊢
  have hl : lv_has ls 5 [(0, .ref (ra 0)), (1, .int (nI (r))), (2, .int lane), (3, .int (nI (x)))] := hl
  refine lv_aload_n hx hb dX4_make_0 rfl (lv_at hl 0 rfl) ?_
  refine va_get (D := D) (ci := 4) (v := .ref (ra 2)) (C := RX4) (T := TX4) (N := 3) hx hb hts u_X4_make_X4 hown hK.1 hP 0 rfl rfl 1 (by decide) (hts (.fieldLink RX4 13 "NoticeWeek$Rows" "lanes" "[I") (List.mem_of_getElem? (i := 1) rfl)) (fun _ h9 => h9) rfl dX4_make_1 ?_
  refine lv_iload_n hx hb dX4_make_4 rfl (lv_at hl 1 rfl) ?_
  refine lv_iload_n hx hb dX4_make_5 rfl (lv_at hl 2 rfl) ?_
  refine b_ast hx hb hK hP hD hS 2 rfl (by omega) (by decide) dX4_make_6 (fun H locs hP hS => ?_)
  have hP : va_P D vwCl (wRows cI ra it (upd la r lane) sz) H := hP
  have hD : va_D A (wRows cI ra it (upd la r lane) sz) := hD.sameA [(ra 0), (ra 1), (ra 2), (ra 3)] rfl rfl
  refine lv_aload_n hx hb dX4_make_7 rfl (lv_at hl 0 rfl) ?_
  refine va_get (D := D) (ci := 4) (v := .ref (ra 3)) (C := RX4) (T := TX4) (N := 3) hx hb hts u_X4_make_X4 hown hK.1 hP 0 rfl rfl 2 (by decide) (hts (.fieldLink RX4 16 "NoticeWeek$Rows" "sizes" "[I") (List.mem_of_getElem? (i := 2) rfl)) (fun _ h9 => h9) rfl dX4_make_8 ?_
  refine lv_iload_n hx hb dX4_make_11 rfl (lv_at hl 1 rfl) ?_
  refine lv_iload_n hx hb dX4_make_12 rfl (lv_at hl 3 rfl) ?_
  refine b_ast hx hb hK hP hD hS 3 rfl (by omega) (by decide) dX4_make_13 (fun H locs hP hS => ?_)
  have hP : va_P D vwCl (wRows cI ra it (upd la r lane) (upd sz r (nI (x)))) H := hP
  have hD : va_D A (wRows cI ra it (upd la r lane) (upd sz r (nI (x)))) := hD.sameA [(ra 0), (ra 1), (ra 2), (ra 3)] rfl rfl
  refine lv_iconst (v := (nI 0)) hx hb dX4_make_14 (by decide) ?_
  refine lv_istore (lv' := [(4, .int (nI 0)), (0, .ref (ra 0)), (1, .int (nI (r))), (2, .int lane), (3, .int (nI (x)))]) hx hb dX4_make_15 hl (by decide) rfl (fun ls hl => ?_)
  refine b_loopM (N := x) (I := fun k ls H locs => lv_has ls 5 [(4, .int (nI (k))), (0, .ref (ra 0)), (1, .int (nI (r))), (3, .int (nI (x)))] ∧ va_P D vwCl (wRows cI ra (itr (fun j f => upd f (r * 40 + j) 0) k it) (upd la r lane) (upd sz r (nI x))) H ∧ va_S A s.heap H locs) (fun k hk ih1 ls H locs hI => ?_) 0 (by omega) ⟨lv_sub hl [0, 1, 2, 4] rfl, hP, hS⟩
  obtain ⟨hl, hP, hS⟩ := hI
  have hl : lv_has ls 5 [(4, .int (nI (k))), (0, .ref (ra 0)), (1, .int (nI (r))), (3, .int (nI (x)))] := hl
  have hP : va_P D vwCl (wRows cI ra (itr (fun j f => upd f (r * 40 + j) 0) k it) (upd la r lane) (upd sz r (nI x))) H := hP
  have hD : va_D A (wRows cI ra (itr (fun j f => upd f (r * 40 + j) 0) k it) (upd la r lane) (upd sz r (nI x))) := hD.sameA [(ra 0), (ra 1), (ra 2), (ra 3)] rfl rfl
  refine lv_iload hx hb dX4_make_17 (lv_at hl 0 rfl) ?_
  refine lv_iload_n hx hb dX4_make_19 rfl (lv_at hl 3 rfl) ?_
  refine b_ge (tgt := 42) hx hb (by omega) (by omega) dX4_make_20 (by decide) (fun c2 => ?_) (fun c2 => ?_)
  · have h_k : x = k := by omega
    subst h_k
    exact b_vretM hx hb hr hP hS dX4_make_42 hlocks
  · refine lv_aload_n hx hb dX4_make_23 rfl (lv_at hl 1 rfl) ?_
    refine va_get (D := D) (ci := 4) (v := .ref (ra 1)) (C := RX4) (T := TX4) (N := 3) hx hb hts u_X4_make_X4 hown hK.1 hP 0 rfl rfl 0 (by decide) (hts (.fieldLink RX4 9 "NoticeWeek$Rows" "items" "[I") (List.mem_of_getElem? (i := 3) rfl)) (fun _ h9 => h9) rfl dX4_make_24 ?_
    refine lv_iload_n hx hb dX4_make_27 rfl (lv_at hl 2 rfl) ?_
    refine lv_bipush (v := (nI 40)) hx hb dX4_make_28 (by decide) ?_
    refine b_mul hx hb dX4_make_30 ?_
    refine lv_iload hx hb dX4_make_31 (lv_at hl 0 rfl) ?_
    refine b_add hx hb dX4_make_33 ?_
    refine lv_iconst (v := 0) hx hb dX4_make_34 (by decide) ?_
    refine b_ast hx hb hK hP hD hS 1 rfl (by omega) (by decide) dX4_make_35 (fun H locs hP hS => ?_)
    have hP : va_P D vwCl (wRows cI ra (upd (itr (fun j f => upd f (r * 40 + j) 0) k it) (r * 40 + k) 0) (upd la r lane) (upd sz r (nI x))) H := hP
    have hD : va_D A (wRows cI ra (upd (itr (fun j f => upd f (r * 40 + j) 0) k it) (r * 40 + k) 0) (upd la r lane) (upd sz r (nI x))) := hD.sameA [(ra 0), (ra 1), (ra 2), (ra 3)] rfl rfl
    refine lv_iinc (v := (nI (k + 1))) (lv' := [(4, .int (nI (k + 1))), (0, .ref (ra 0)), (1, .int (nI (r))), (3, .int (nI (x)))]) hx hb dX4_make_36 hl (k := 0) rfl (nI_add _ _) (by decide) rfl (fun ls hl => ?_)
    refine lv_goto (tgt := 17) hx hb dX4_make_39 (by decide) ?_
    exact ih1 (by omega) ls H locs ⟨lv_sub hl [0, 1, 2, 3] rfl, hP, hS⟩
theorem u_X4_lose_X4 : ∀ w ∈ wsX40, w ∈ wsX4_lose := fun _ h => List.mem_cons_of_mem _ (List.mem_append_right _ h)
set_option maxHeartbeats 4000000 in
set_option maxRecDepth 100000 in
theorem c_X4_lose (l : Launch) (D : va_G) (cI cZ cT : ClassId) (ra : Nat → Nat) (it la sz : Nat → Int32) (r : Nat) (hr_ : r ≤ 7) : Met l yX4_lose wsX4_lose ({ frames := 0, cells := 0, slots := 0, locals := 0 }) (pM D cI cZ cT [.ref (ra 0), .int (nI (r))] (wRows cI ra it la sz)) (qM D none (wRows cI ra it (upd la r (-1)) (upd sz r 0)) (adr (wRows cI ra it la sz))) 0 0 (adr (wRows cI ra it la sz)) := by
  refine Met.ofW (cc := cX4_lose) (maxL := 2) (ret := none) (by decide) rfl ?_
  intro p e s m args below meth c s₁ B hml hv
  obtain ⟨rfl, hP, hD0, hK⟩ := hv
  have hx := B.exec
  have hb := B.bytes
  have hr := B.returns
  have hts := atoms_spec (ws := wsX4_lose) B.pre
  have hown : s.vm.findClass RX4 = some m.cls := findClass_of_methodNamed B.named
  have hlocks := B.notSynchronized
  have hD := hD0.toAdr
  have hS : va_S (adr (wRows cI ra it la sz)) s.heap s.heap [] := va_S.rf
  generalize adr (wRows cI ra it la sz) = A at hD hS ⊢
  have hl := lv_entry ([.ref (ra 0), .int (nI (r))]) (n := 2) (Nat.le_of_ble_eq_true rfl)
  rw [lg_entry_eq]
  generalize (lg_sl ([.ref (ra 0), .int (nI (r))]) ++ List.replicate (2 - (lg_sl ([.ref (ra 0), .int (nI (r))])).length) Slot.unset).toArray = ls at hl ⊢
  have hl : lv_has ls 2 [(0, .ref (ra 0)), (1, .int (nI (r)))] := hl
  refine lv_aload_n hx hb dX4_lose_0 rfl (lv_at hl 0 rfl) ?_
  refine va_get (D := D) (ci := 4) (v := .ref (ra 2)) (C := RX4) (T := TX4) (N := 3) hx hb hts u_X4_lose_X4 hown hK.1 hP 0 rfl rfl 1 (by decide) (hts (.fieldLink RX4 13 "NoticeWeek$Rows" "lanes" "[I") (List.mem_of_getElem? (i := 1) rfl)) (fun _ h9 => h9) rfl dX4_lose_1 ?_
  refine lv_iload_n hx hb dX4_lose_4 rfl (lv_at hl 1 rfl) ?_
  refine lv_iconst (v := (-1)) hx hb dX4_lose_5 (by decide) ?_
  refine b_ast hx hb hK hP hD hS 2 rfl (by omega) (by decide) dX4_lose_6 (fun H locs hP hS => ?_)
  have hP : va_P D vwCl (wRows cI ra it (upd la r (-1)) sz) H := hP
  have hD : va_D A (wRows cI ra it (upd la r (-1)) sz) := hD.sameA [(ra 0), (ra 1), (ra 2), (ra 3)] rfl rfl
  refine lv_aload_n hx hb dX4_lose_7 rfl (lv_at hl 0 rfl) ?_
  refine va_get (D := D) (ci := 4) (v := .ref (ra 3)) (C := RX4) (T := TX4) (N := 3) hx hb hts u_X4_lose_X4 hown hK.1 hP 0 rfl rfl 2 (by decide) (hts (.fieldLink RX4 16 "NoticeWeek$Rows" "sizes" "[I") (List.mem_of_getElem? (i := 2) rfl)) (fun _ h9 => h9) rfl dX4_lose_8 ?_
  refine lv_iload_n hx hb dX4_lose_11 rfl (lv_at hl 1 rfl) ?_
  refine lv_iconst (v := 0) hx hb dX4_lose_12 (by decide) ?_
  refine b_ast hx hb hK hP hD hS 3 rfl (by omega) (by decide) dX4_lose_13 (fun H locs hP hS => ?_)
  have hP : va_P D vwCl (wRows cI ra it (upd la r (-1)) (upd sz r 0)) H := hP
  have hD : va_D A (wRows cI ra it (upd la r (-1)) (upd sz r 0)) := hD.sameA [(ra 0), (ra 1), (ra 2), (ra 3)] rfl rfl
  exact b_vretM hx hb hr hP hS dX4_lose_14 hlocks
theorem u_X4_put_X4 : ∀ w ∈ wsX40, w ∈ wsX4_put := fun _ h => List.mem_cons_of_mem _ (List.mem_append_right _ h)
set_option maxHeartbeats 4000000 in
set_option maxRecDepth 100000 in
theorem c_X4_put (l : Launch) (D : va_G) (cI cZ cT : ClassId) (ra : Nat → Nat) (it la sz : Nat → Int32) (r i : Nat) (v : Int32) (hr_ : r ≤ 7) (hi39 : i ≤ 39) : Met l yX4_put wsX4_put ({ frames := 0, cells := 0, slots := 0, locals := 0 }) (pM D cI cZ cT [.ref (ra 0), .int (nI (r)), .int (nI (i)), .int v] (wRows cI ra it la sz)) (qM D (some (.int (keptf (la r) v))) (wRows cI ra (upd it (r * 40 + i) (keptf (la r) v)) la sz) (adr (wRows cI ra it la sz))) 0 0 (adr (wRows cI ra it la sz)) := by
  refine Met.ofW (cc := cX4_put) (maxL := 5) (ret := (some .int)) (by decide) rfl ?_
  intro p e s m args below meth c s₁ B hml hv
  obtain ⟨rfl, hP, hD0, hK⟩ := hv
  have hx := B.exec
  have hb := B.bytes
  have hr := B.returns
  have hts := atoms_spec (ws := wsX4_put) B.pre
  have hown : s.vm.findClass RX4 = some m.cls := findClass_of_methodNamed B.named
  have hlocks := B.notSynchronized
  have hD := hD0.toAdr
  have hS : va_S (adr (wRows cI ra it la sz)) s.heap s.heap [] := va_S.rf
  generalize adr (wRows cI ra it la sz) = A at hD hS ⊢
  have hl := lv_entry ([.ref (ra 0), .int (nI (r)), .int (nI (i)), .int v]) (n := 5) (Nat.le_of_ble_eq_true rfl)
  rw [lg_entry_eq]
  generalize (lg_sl ([.ref (ra 0), .int (nI (r)), .int (nI (i)), .int v]) ++ List.replicate (5 - (lg_sl ([.ref (ra 0), .int (nI (r)), .int (nI (i)), .int v])).length) Slot.unset).toArray = ls at hl ⊢
  have hl : lv_has ls 5 [(0, .ref (ra 0)), (1, .int (nI (r))), (2, .int (nI (i))), (3, .int v)] := hl
  refine b_join (jpc := 30) (rest' := []) (P := fun vq_ : Int32 => vq_ = ((keptf (la r) v) : Int32)) (fun v1 ev1 => ?_) (fun K2 => ?_)
  · subst ev1
    refine lv_topi (fun x3 ex3 => ?_)
    refine lv_istore (lv' := [(4, .int x3), (0, .ref (ra 0)), (1, .int (nI (r))), (2, .int (nI (i))), (3, .int v)]) hx hb dX4_put_30 hl (by decide) rfl (fun ls hl => ?_)
    subst ex3
    have hl : lv_has ls 5 [(4, .int (keptf (la r) v)), (0, .ref (ra 0)), (1, .int (nI (r))), (2, .int (nI (i))), (3, .int v)] := hl
    refine lv_aload_n hx hb dX4_put_32 rfl (lv_at hl 1 rfl) ?_
    refine va_get (D := D) (ci := 4) (v := .ref (ra 1)) (C := RX4) (T := TX4) (N := 3) hx hb hts u_X4_put_X4 hown hK.1 hP 0 rfl rfl 0 (by decide) (hts (.fieldLink RX4 9 "NoticeWeek$Rows" "items" "[I") (List.mem_of_getElem? (i := 2) rfl)) (fun _ h9 => h9) rfl dX4_put_33 ?_
    refine lv_iload_n hx hb dX4_put_36 rfl (lv_at hl 2 rfl) ?_
    refine lv_bipush (v := (nI 40)) hx hb dX4_put_37 (by decide) ?_
    refine b_mul hx hb dX4_put_39 ?_
    refine lv_iload_n hx hb dX4_put_40 rfl (lv_at hl 3 rfl) ?_
    refine b_add hx hb dX4_put_41 ?_
    refine lv_iload hx hb dX4_put_42 (lv_at hl 0 rfl) ?_
    refine b_ast hx hb hK hP hD hS 1 rfl (by omega) (by decide) dX4_put_44 (fun H locs hP hS => ?_)
    have hP : va_P D vwCl (wRows cI ra (upd it (r * 40 + i) (keptf (la r) v)) la sz) H := hP
    have hD : va_D A (wRows cI ra (upd it (r * 40 + i) (keptf (la r) v)) la sz) := hD.sameA [(ra 0), (ra 1), (ra 2), (ra 3)] rfl rfl
    refine lv_iload hx hb dX4_put_45 (lv_at hl 0 rfl) ?_
    exact b_retM hx hb hr hP hS (by first | with_reducible rfl | (simp only [bI, not_true_eq_false, not_false_eq_true, ite_true, ite_false, if_true, if_false, and_self, and_true, true_and, false_and, and_false, or_true, true_or, or_false, false_or]; done) | (simp [bI]; done) | omega) dX4_put_47 hlocks
  · refine lv_aload_n hx hb dX4_put_0 rfl (lv_at hl 0 rfl) ?_
    refine va_get (D := D) (ci := 4) (v := .ref (ra 2)) (C := RX4) (T := TX4) (N := 3) hx hb hts u_X4_put_X4 hown hK.1 hP 0 rfl rfl 1 (by decide) (hts (.fieldLink RX4 13 "NoticeWeek$Rows" "lanes" "[I") (List.mem_of_getElem? (i := 1) rfl)) (fun _ h9 => h9) rfl dX4_put_1 ?_
    refine lv_iload_n hx hb dX4_put_4 rfl (lv_at hl 1 rfl) ?_
    refine b_ald hx hb hK hP 2 rfl (by omega) (by decide) dX4_put_5 ?_
    refine lv_if_ne (tgt := 14) hx hb dX4_put_6 (by decide) (fun c4 => ?_) (fun c4 => ?_)
    · refine lv_aload_n hx hb dX4_put_14 rfl (lv_at hl 0 rfl) ?_
      refine va_get (D := D) (ci := 4) (v := .ref (ra 2)) (C := RX4) (T := TX4) (N := 3) hx hb hts u_X4_put_X4 hown hK.1 hP 0 rfl rfl 1 (by decide) (hts (.fieldLink RX4 13 "NoticeWeek$Rows" "lanes" "[I") (List.mem_of_getElem? (i := 1) rfl)) (fun _ h9 => h9) rfl dX4_put_15 ?_
      refine lv_iload_n hx hb dX4_put_18 rfl (lv_at hl 1 rfl) ?_
      refine b_ald hx hb hK hP 2 rfl (by omega) (by decide) dX4_put_19 ?_
      refine lv_iconst (v := 1) hx hb dX4_put_20 (by decide) ?_
      refine lv_icmp_ne (tgt := 29) hx hb dX4_put_21 (by decide) (fun c5 => ?_) (fun c5 => ?_)
      · refine lv_iload_n hx hb dX4_put_29 rfl (lv_at hl 3 rfl) ?_
        exact K2 _ (by first | with_reducible rfl | (simp only [bI, keptf, eq_false c4, eq_false c5, not_true_eq_false, not_false_eq_true, ite_true, ite_false, if_true, if_false, and_self, and_true, true_and, false_and, and_false, or_true, true_or, or_false, false_or]; done) | (simp [bI, keptf, eq_false c4, eq_false c5]; done) | omega)
      · refine lv_iload_n hx hb dX4_put_24 rfl (lv_at hl 3 rfl) ?_
        refine lv_i2s hx hb dX4_put_25 rfl ?_
        refine lv_goto (tgt := 30) hx hb dX4_put_26 (by decide) ?_
        exact K2 _ (by first | with_reducible rfl | (simp only [bI, keptf, eq_false c4, eq_true c5, not_true_eq_false, not_false_eq_true, ite_true, ite_false, if_true, if_false, and_self, and_true, true_and, false_and, and_false, or_true, true_or, or_false, false_or]; done) | (simp [bI, keptf, eq_false c4, eq_true c5]; done) | omega)
    · refine lv_iload_n hx hb dX4_put_9 rfl (lv_at hl 3 rfl) ?_
      refine lv_i2b hx hb dX4_put_10 rfl ?_
      refine lv_goto (tgt := 30) hx hb dX4_put_11 (by decide) ?_
      exact K2 _ (by first | with_reducible rfl | (simp only [bI, keptf, eq_true c4, not_true_eq_false, not_false_eq_true, ite_true, ite_false, if_true, if_false, and_self, and_true, true_and, false_and, and_false, or_true, true_or, or_false, false_or]; done) | (simp [bI, keptf, eq_true c4]; done) | omega)
theorem u_X4_move_X4 : ∀ w ∈ wsX40, w ∈ wsX4_move := fun _ h => List.mem_cons_of_mem _ (List.mem_append_right _ h)
set_option maxHeartbeats 4000000 in
set_option maxRecDepth 100000 in
theorem c_X4_move (l : Launch) (D : va_G) (cI cZ cT : ClassId) (ra : Nat → Nat) (it la sz : Nat → Int32) (a i b j x : Nat) (ha : a ≤ 7) (hb_ : b ≤ 7) (hi : i + x ≤ 40) (hj : j + x ≤ 40) : Met l yX4_move wsX4_move ({ frames := 1, cells := 0, slots := 0, locals := 40 }) (pM D cI cZ cT [.ref (ra 0), .int (nI (a)), .int (nI (i)), .int (nI (b)), .int (nI (j)), .int (nI (x))] (wRows cI ra it la sz)) (qM D none (wRows cI ra (va_cpy it it (a * 40 + i) (b * 40 + j) x) la sz) (adr (wRows cI ra it la sz))) 0 0 (adr (wRows cI ra it la sz)) := by
  refine Met.ofW (cc := cX4_move) (maxL := 6) (ret := none) (by decide) rfl ?_
  intro p e s m args below meth c s₁ B hml hv
  obtain ⟨rfl, hP, hD0, hK⟩ := hv
  have hx := B.exec
  have hb := B.bytes
  have hr := B.returns
  have hts := atoms_spec (ws := wsX4_move) B.pre
  have hown : s.vm.findClass RX4 = some m.cls := findClass_of_methodNamed B.named
  have hlocks := B.notSynchronized
  have hD := hD0.toAdr
  have hS : va_S (adr (wRows cI ra it la sz)) s.heap s.heap [] := va_S.rf
  generalize adr (wRows cI ra it la sz) = A at hD hS ⊢
  have hl := lv_entry ([.ref (ra 0), .int (nI (a)), .int (nI (i)), .int (nI (b)), .int (nI (j)), .int (nI (x))]) (n := 6) (Nat.le_of_ble_eq_true rfl)
  rw [lg_entry_eq]
  generalize (lg_sl ([.ref (ra 0), .int (nI (a)), .int (nI (i)), .int (nI (b)), .int (nI (j)), .int (nI (x))]) ++ List.replicate (6 - (lg_sl ([.ref (ra 0), .int (nI (a)), .int (nI (i)), .int (nI (b)), .int (nI (j)), .int (nI (x))])).length) Slot.unset).toArray = ls at hl ⊢
  have hl : lv_has ls 6 [(0, .ref (ra 0)), (1, .int (nI (a))), (2, .int (nI (i))), (3, .int (nI (b))), (4, .int (nI (j))), (5, .int (nI (x)))] := hl
  refine lv_aload_n hx hb dX4_move_0 rfl (lv_at hl 0 rfl) ?_
  refine va_get (D := D) (ci := 4) (v := .ref (ra 1)) (C := RX4) (T := TX4) (N := 3) hx hb hts u_X4_move_X4 hown hK.1 hP 0 rfl rfl 0 (by decide) (hts (.fieldLink RX4 9 "NoticeWeek$Rows" "items" "[I") (List.mem_of_getElem? (i := 1) rfl)) (fun _ h9 => h9) rfl dX4_move_1 ?_
  refine lv_iload_n hx hb dX4_move_4 rfl (lv_at hl 1 rfl) ?_
  refine lv_bipush (v := (nI 40)) hx hb dX4_move_5 (by decide) ?_
  refine b_mul hx hb dX4_move_7 ?_
  refine lv_iload_n hx hb dX4_move_8 rfl (lv_at hl 2 rfl) ?_
  refine b_add hx hb dX4_move_9 ?_
  refine lv_aload_n hx hb dX4_move_10 rfl (lv_at hl 0 rfl) ?_
  refine va_get (D := D) (ci := 4) (v := .ref (ra 1)) (C := RX4) (T := TX4) (N := 3) hx hb hts u_X4_move_X4 hown hK.1 hP 0 rfl rfl 0 (by decide) (hts (.fieldLink RX4 9 "NoticeWeek$Rows" "items" "[I") (List.mem_of_getElem? (i := 1) rfl)) (fun _ h9 => h9) rfl dX4_move_11 ?_
  refine lv_iload_n hx hb dX4_move_14 rfl (lv_at hl 3 rfl) ?_
  refine lv_bipush (v := (nI 40)) hx hb dX4_move_15 (by decide) ?_
  refine b_mul hx hb dX4_move_17 ?_
  refine lv_iload hx hb dX4_move_18 (lv_at hl 4 rfl) ?_
  refine b_add hx hb dX4_move_20 ?_
  refine lv_iload hx hb dX4_move_21 (lv_at hl 5 rfl) ?_
  refine b_copy hx hb (hml.trans hl.1.symm) hown (hts (.methodLink RX4 19 arraycopyName) (List.mem_of_getElem? (i := 2) rfl)) (hts (.native arraycopyName) (List.mem_of_getElem? (i := 3) rfl)) (hts (.static arraycopyName) (List.mem_of_getElem? (i := 4) rfl)) (hts (.initialized "java/lang/System") (List.mem_of_getElem? (i := 5) rfl)) hK hP hD hS 1 1 rfl rfl (by omega) (by omega) (by decide) (by decide) (Nat.le_of_ble_eq_true rfl) (Nat.le_of_ble_eq_true rfl) dX4_move_23 (fun H locs hP hS => ?_)
  have hP : va_P D vwCl (wRows cI ra (va_cpy it it (a * 40 + i) (b * 40 + j) x) la sz) H := hP
  have hD : va_D A (wRows cI ra (va_cpy it it (a * 40 + i) (b * 40 + j) x) la sz) := hD.sameA [(ra 0), (ra 1), (ra 2), (ra 3)] rfl rfl
  exact b_vretM hx hb hr hP hS dX4_move_26 hlocks
theorem u_X4_tell_X4 : ∀ w ∈ wsX40, w ∈ wsX4_tell := fun _ h => List.mem_cons_of_mem _ (List.mem_append_right _ h)
set_option maxHeartbeats 4000000 in
set_option maxRecDepth 100000 in
theorem c_X4_tell (l : Launch) (D : va_G) (cI cZ cT : ClassId) (ra : Nat → Nat) (it la sz : Nat → Int32) (fa : Nat → Nat) (co wy : Nat → Int32) (r i x : Nat) (hr_ : r ≤ 7) (hx16 : x ≤ 16) (hix : i + x ≤ 40) : Met l yX4_tell wsX4_tell ({ frames := 0, cells := 0, slots := 0, locals := 0 }) (pR D cI cZ cT [.ref (ra 0), .int (nI (r)), .int (nI (i)), .int (nI (x)), .ref (fa 6)] (wRows cI ra it la sz ++ wFore cI fa co wy)) (QcRead (bI (tellb it co (r * 40 + i) x = true))) 0 0 (fun _ => False) := by
  refine Met.ofW (cc := cX4_tell) (maxL := 6) (ret := (some .boolean)) (by decide) rfl ?_
  intro p e s m args below meth c s₁ B hml hv
  obtain ⟨rfl, hP, hK⟩ := hv
  have hx := B.exec
  have hb := B.bytes
  have hr := B.returns
  have hts := atoms_spec (ws := wsX4_tell) B.pre
  have hown : s.vm.findClass RX4 = some m.cls := findClass_of_methodNamed B.named
  have hlocks := B.notSynchronized
  have hl := lv_entry ([.ref (ra 0), .int (nI (r)), .int (nI (i)), .int (nI (x)), .ref (fa 6)]) (n := 6) (Nat.le_of_ble_eq_true rfl)
  rw [lg_entry_eq]
  generalize (lg_sl ([.ref (ra 0), .int (nI (r)), .int (nI (i)), .int (nI (x)), .ref (fa 6)]) ++ List.replicate (6 - (lg_sl ([.ref (ra 0), .int (nI (r)), .int (nI (i)), .int (nI (x)), .ref (fa 6)])).length) Slot.unset).toArray = ls at hl ⊢
  have hl : lv_has ls 6 [(0, .ref (ra 0)), (1, .int (nI (r))), (2, .int (nI (i))), (3, .int (nI (x))), (4, .ref (fa 6))] := hl
  refine lv_iconst (v := (nI 0)) hx hb dX4_tell_0 (by decide) ?_
  refine lv_istore (lv' := [(5, .int (nI 0)), (0, .ref (ra 0)), (1, .int (nI (r))), (2, .int (nI (i))), (3, .int (nI (x))), (4, .ref (fa 6))]) hx hb dX4_tell_1 hl (by decide) rfl (fun ls hl => ?_)
  refine b_loopR (N := x) (I := fun k ls => lv_has ls 6 [(5, .int (nI (k))), (0, .ref (ra 0)), (1, .int (nI (r))), (2, .int (nI (i))), (3, .int (nI (x))), (4, .ref (fa 6))] ∧ (tellb it co (r * 40 + i) k = true)) (fun k hk ih1 ls hI => ?_) 0 (by omega) ⟨lv_sub hl [0, 1, 2, 3, 4, 5] rfl, rfl⟩
  obtain ⟨hl, hF⟩ := hI
  have hl : lv_has ls 6 [(5, .int (nI (k))), (0, .ref (ra 0)), (1, .int (nI (r))), (2, .int (nI (i))), (3, .int (nI (x))), (4, .ref (fa 6))] := hl
  refine lv_iload hx hb dX4_tell_3 (lv_at hl 0 rfl) ?_
  refine lv_iload_n hx hb dX4_tell_5 rfl (lv_at hl 4 rfl) ?_
  refine b_ge (tgt := 39) hx hb (by omega) (by omega) dX4_tell_6 (by decide) (fun c2 => ?_) (fun c2 => ?_)
  · refine lv_iconst (v := 1) hx hb dX4_tell_39 (by decide) ?_
    exact b_zret hx hb hr (by rw [show x = k by omega]; unfold bI; rw [if_pos hF]) dX4_tell_40 hlocks
  · refine lv_aload_n hx hb dX4_tell_9 rfl (lv_at hl 1 rfl) ?_
    refine va_get (D := D) (ci := 4) (v := .ref (ra 1)) (C := RX4) (T := TX4) (N := 3) hx hb hts u_X4_tell_X4 hown hK.1 hP 0 rfl rfl 0 (by decide) (hts (.fieldLink RX4 9 "NoticeWeek$Rows" "items" "[I") (List.mem_of_getElem? (i := 1) rfl)) (fun _ h9 => h9) rfl dX4_tell_10 ?_
    refine lv_iload_n hx hb dX4_tell_13 rfl (lv_at hl 2 rfl) ?_
    refine lv_bipush (v := (nI 40)) hx hb dX4_tell_14 (by decide) ?_
    refine b_mul hx hb dX4_tell_16 ?_
    refine lv_iload_n hx hb dX4_tell_17 rfl (lv_at hl 3 rfl) ?_
    refine b_add hx hb dX4_tell_18 ?_
    refine lv_iload hx hb dX4_tell_19 (lv_at hl 0 rfl) ?_
    refine b_add hx hb dX4_tell_21 ?_
    refine b_ald hx hb hK hP 1 rfl (by omega) (by decide) dX4_tell_22 ?_
    refine lv_aload hx hb dX4_tell_23 (lv_at hl 5 rfl) ?_
    refine lv_iload hx hb dX4_tell_25 (lv_at hl 0 rfl) ?_
    refine b_ald hx hb hK hP 10 rfl (by omega) (by decide) dX4_tell_27 ?_
    refine lv_icmp_eq (tgt := 33) hx hb dX4_tell_28 (by decide) (fun c3 => ?_) (fun c3 => ?_)
    · refine lv_iinc (v := (nI (k + 1))) (lv' := [(5, .int (nI (k + 1))), (0, .ref (ra 0)), (1, .int (nI (r))), (2, .int (nI (i))), (3, .int (nI (x))), (4, .ref (fa 6))]) hx hb dX4_tell_33 hl (k := 0) rfl (nI_add _ _) (by decide) rfl (fun ls hl => ?_)
      refine lv_goto (tgt := 3) hx hb dX4_tell_36 (by decide) ?_
      exact ih1 (by omega) ls ⟨lv_sub hl [0, 1, 2, 3, 4, 5] rfl, (tellb_t hF c3)⟩
    · refine lv_iconst (v := 0) hx hb dX4_tell_31 (by decide) ?_
      exact b_zret hx hb hr (tellb_x (by omega) c3) dX4_tell_32 hlocks
theorem u_X4_present_X4 : ∀ w ∈ wsX40, w ∈ wsX4_present := fun _ h => List.mem_cons_of_mem _ (List.mem_append_right _ h)
set_option maxHeartbeats 4000000 in
set_option maxRecDepth 100000 in
theorem c_X4_present (l : Launch) (D : va_G) (cI cZ cT : ClassId) (ra : Nat → Nat) (it la sz : Nat → Int32)  : Met l yX4_present wsX4_present ({ frames := 0, cells := 0, slots := 0, locals := 0 }) (pR D cI cZ cT [.ref (ra 0)] (wRows cI ra it la sz)) (QcRead (prF la 8)) 0 0 (fun _ => False) := by
  refine Met.ofW (cc := cX4_present) (maxL := 3) (ret := (some .int)) (by decide) rfl ?_
  intro p e s m args below meth c s₁ B hml hv
  obtain ⟨rfl, hP, hK⟩ := hv
  have hx := B.exec
  have hb := B.bytes
  have hr := B.returns
  have hts := atoms_spec (ws := wsX4_present) B.pre
  have hown : s.vm.findClass RX4 = some m.cls := findClass_of_methodNamed B.named
  have hlocks := B.notSynchronized
  have hl := lv_entry ([.ref (ra 0)]) (n := 3) (Nat.le_of_ble_eq_true rfl)
  rw [lg_entry_eq]
  generalize (lg_sl ([.ref (ra 0)]) ++ List.replicate (3 - (lg_sl ([.ref (ra 0)])).length) Slot.unset).toArray = ls at hl ⊢
  have hl : lv_has ls 3 [(0, .ref (ra 0))] := hl
  refine lv_iconst (v := 0) hx hb dX4_present_0 (by decide) ?_
  refine lv_istore_n (lv' := [(1, .int 0), (0, .ref (ra 0))]) hx hb dX4_present_1 rfl hl (by decide) rfl (fun ls hl => ?_)
  refine lv_iconst (v := (nI 0)) hx hb dX4_present_2 (by decide) ?_
  refine lv_istore_n (lv' := [(2, .int (nI 0)), (1, .int 0), (0, .ref (ra 0))]) hx hb dX4_present_3 rfl hl (by decide) rfl (fun ls hl => ?_)
  refine b_loopR (N := 8) (I := fun k ls => lv_has ls 3 [(2, .int (nI (k))), (1, .int (prF la k)), (0, .ref (ra 0))]) (fun k hk ih1 ls hI => ?_) 0 (by omega) (lv_sub hl [0, 1, 2] rfl)
  have hl := hI
  have hl : lv_has ls 3 [(2, .int (nI (k))), (1, .int (prF la k)), (0, .ref (ra 0))] := hl
  refine lv_iload_n hx hb dX4_present_4 rfl (lv_at hl 0 rfl) ?_
  refine lv_bipush (v := (nI 8)) hx hb dX4_present_5 (by decide) ?_
  refine b_ge (tgt := 29) hx hb (by omega) (by omega) dX4_present_7 (by decide) (fun c2 => ?_) (fun c2 => ?_)
  · have h_k : 8 = k := by omega
    subst h_k
    refine lv_iload_n hx hb dX4_present_29 rfl (lv_at hl 1 rfl) ?_
    exact b_ret hx hb hr rfl dX4_present_30 hlocks
  · refine lv_aload_n hx hb dX4_present_10 rfl (lv_at hl 2 rfl) ?_
    refine va_get (D := D) (ci := 4) (v := .ref (ra 2)) (C := RX4) (T := TX4) (N := 3) hx hb hts u_X4_present_X4 hown hK.1 hP 0 rfl rfl 1 (by decide) (hts (.fieldLink RX4 13 "NoticeWeek$Rows" "lanes" "[I") (List.mem_of_getElem? (i := 1) rfl)) (fun _ h9 => h9) rfl dX4_present_11 ?_
    refine lv_iload_n hx hb dX4_present_14 rfl (lv_at hl 0 rfl) ?_
    refine b_ald hx hb hK hP 2 rfl (by omega) (by decide) dX4_present_15 ?_
    refine lv_iconst (v := (-1)) hx hb dX4_present_16 (by decide) ?_
    refine lv_icmp_eq (tgt := 23) hx hb dX4_present_17 (by decide) (fun c3 => ?_) (fun c3 => ?_)
    · refine lv_iinc (v := (nI (k + 1))) (lv' := [(2, .int (nI (k + 1))), (1, .int (prF la k)), (0, .ref (ra 0))]) hx hb dX4_present_23 hl (k := 0) rfl (nI_add _ _) (by decide) rfl (fun ls hl => ?_)
      refine lv_goto (tgt := 4) hx hb dX4_present_26 (by decide) ?_
      have st4 : (prF la k) = (prF la (k + 1)) := (by show _ = (if la k = -1 then _ else _); rw [if_pos c3]; rfl)
      rw [st4] at hl
      exact ih1 (by omega) ls (lv_sub hl [0, 1, 2] rfl)
    · obtain ⟨x5, ex5⟩ : ∃ y : Int32, y = (prF la k) + 1 := ⟨_, rfl⟩
      refine lv_iinc (v := x5) (lv' := [(1, .int x5), (2, .int (nI (k))), (0, .ref (ra 0))]) hx hb dX4_present_20 hl (k := 1) rfl (by rw [ex5]; rfl) (by decide) rfl (fun ls hl => ?_)
      refine lv_iinc (v := (nI (k + 1))) (lv' := [(2, .int (nI (k + 1))), (1, .int x5), (0, .ref (ra 0))]) hx hb dX4_present_23 hl (k := 1) rfl (nI_add _ _) (by decide) rfl (fun ls hl => ?_)
      refine lv_goto (tgt := 4) hx hb dX4_present_26 (by decide) ?_
      have st6 : x5 = (prF la (k + 1)) := (by rw [ex5]; show _ = (if la k = -1 then _ else _); rw [if_neg c3]; rfl)
      rw [st6] at hl
      exact ih1 (by omega) ls (lv_sub hl [0, 1, 2] rfl)
theorem u_X9_clear_X9 : ∀ w ∈ wsX90, w ∈ wsX9_clear := fun _ h => List.mem_cons_of_mem _ (List.mem_append_right _ h)
set_option maxHeartbeats 4000000 in
set_option maxRecDepth 100000 in
theorem c_X9_clear (l : Launch) (D : va_G) (cI cZ cT : ClassId) (za : Nat → Nat) (zl : Int32) (zn : Nat → Int32)  : Met l yX9_clear wsX9_clear ({ frames := 0, cells := 0, slots := 0, locals := 0 }) (pM D cI cZ cT [.ref (za 0)] (wTrace cI za zl zn)) (qM D none (wTrace cI za (nI 0) zn) (adr (wTrace cI za zl zn))) 0 0 (adr (wTrace cI za zl zn)) := by
  refine Met.ofW (cc := cX9_clear) (maxL := 1) (ret := none) (by decide) rfl ?_
  intro p e s m args below meth c s₁ B hml hv
  obtain ⟨rfl, hP, hD0, hK⟩ := hv
  have hx := B.exec
  have hb := B.bytes
  have hr := B.returns
  have hts := atoms_spec (ws := wsX9_clear) B.pre
  have hown : s.vm.findClass RX9 = some m.cls := findClass_of_methodNamed B.named
  have hlocks := B.notSynchronized
  have hD := hD0.toAdr
  have hS : va_S (adr (wTrace cI za zl zn)) s.heap s.heap [] := va_S.rf
  generalize adr (wTrace cI za zl zn) = A at hD hS ⊢
  have hl := lv_entry ([.ref (za 0)]) (n := 1) (Nat.le_of_ble_eq_true rfl)
  rw [lg_entry_eq]
  generalize (lg_sl ([.ref (za 0)]) ++ List.replicate (1 - (lg_sl ([.ref (za 0)])).length) Slot.unset).toArray = ls at hl ⊢
  have hl : lv_has ls 1 [(0, .ref (za 0))] := hl
  refine lv_aload_n hx hb dX9_clear_0 rfl (lv_at hl 0 rfl) ?_
  refine lv_iconst (v := (nI 0)) hx hb dX9_clear_1 (by decide) ?_
  refine b_put (C := RX9) (T := TX9) (N := 2) hx hb hts u_X9_clear_X9 tyX9 tyX9_ok nmX9 hown hK hP hD hS 0 rfl rfl 1 (by decide) (hts (.fieldLink RX9 15 "NoticeWeek$Trace" "length" "I") (List.mem_of_getElem? (i := 1) rfl)) rfl (by decide +kernel) (Nat.le_of_ble_eq_true rfl) dX9_clear_2 (fun H locs hP hS => ?_)
  have hP : va_P D vwCl (wTrace cI za (nI 0) zn) H := hP
  have hD : va_D A (wTrace cI za (nI 0) zn) := hD.sameA [(za 0), (za 1)] rfl rfl
  exact b_vretM hx hb hr hP hS dX9_clear_5 hlocks
theorem u_X9_leave_X9 : ∀ w ∈ wsX90, w ∈ wsX9_leave := fun _ h => List.mem_cons_of_mem _ (List.mem_append_right _ h)
set_option maxHeartbeats 4000000 in
set_option maxRecDepth 100000 in
theorem c_X9_leave (l : Launch) (D : va_G) (cI cZ cT : ClassId) (za : Nat → Nat) (σ : Nat × (Nat → Int32)) (b : Int32) (hz : σ.1 ≤ 16) : Met l yX9_leave wsX9_leave ({ frames := 0, cells := 0, slots := 0, locals := 0 }) (pM D cI cZ cT [.ref (za 0), .int b] (wTrace cI za (nI σ.1) σ.2)) (qM D none (wTrace cI za (nI (m_beg σ b).1) ((m_beg σ b).2)) (adr (wTrace cI za (nI σ.1) σ.2))) 0 0 (adr (wTrace cI za (nI σ.1) σ.2)) := by
  refine Met.ofW (cc := cX9_leave) (maxL := 2) (ret := none) (by decide) rfl ?_
  intro p e s m args below meth c s₁ B hml hv
  obtain ⟨rfl, hP, hD0, hK⟩ := hv
  have hx := B.exec
  have hb := B.bytes
  have hr := B.returns
  have hts := atoms_spec (ws := wsX9_leave) B.pre
  have hown : s.vm.findClass RX9 = some m.cls := findClass_of_methodNamed B.named
  have hlocks := B.notSynchronized
  have hD := hD0.toAdr
  have hS : va_S (adr (wTrace cI za (nI σ.1) σ.2)) s.heap s.heap [] := va_S.rf
  generalize adr (wTrace cI za (nI σ.1) σ.2) = A at hD hS ⊢
  have hl := lv_entry ([.ref (za 0), .int b]) (n := 2) (Nat.le_of_ble_eq_true rfl)
  rw [lg_entry_eq]
  generalize (lg_sl ([.ref (za 0), .int b]) ++ List.replicate (2 - (lg_sl ([.ref (za 0), .int b])).length) Slot.unset).toArray = ls at hl ⊢
  have hl : lv_has ls 2 [(0, .ref (za 0)), (1, .int b)] := hl
  refine lv_aload_n hx hb dX9_leave_0 rfl (lv_at hl 0 rfl) ?_
  refine va_get (D := D) (ci := 8) (v := .int (nI (σ.1))) (C := RX9) (T := TX9) (N := 2) hx hb hts u_X9_leave_X9 hown hK.1 hP 0 rfl rfl 1 (by decide) (hts (.fieldLink RX9 15 "NoticeWeek$Trace" "length" "I") (List.mem_of_getElem? (i := 1) rfl)) (fun _ h9 => h9) rfl dX9_leave_1 ?_
  refine lv_bipush (v := (nI 16)) hx hb dX9_leave_4 (by decide) ?_
  refine b_ge (tgt := 29) hx hb (by omega) (by omega) dX9_leave_6 (by decide) (fun c1 => ?_) (fun c1 => ?_)
  · have E : m_beg σ b = σ := (by unfold m_beg; rw [if_pos c1])
    rw [E]
    exact b_vretM hx hb hr hP hS dX9_leave_29 hlocks
  · refine lv_aload_n hx hb dX9_leave_9 rfl (lv_at hl 0 rfl) ?_
    refine va_get (D := D) (ci := 8) (v := .ref (za 1)) (C := RX9) (T := TX9) (N := 2) hx hb hts u_X9_leave_X9 hown hK.1 hP 0 rfl rfl 0 (by decide) (hts (.fieldLink RX9 11 "NoticeWeek$Trace" "numbers" "[I") (List.mem_of_getElem? (i := 2) rfl)) (fun _ h9 => h9) rfl dX9_leave_10 ?_
    refine lv_aload_n hx hb dX9_leave_13 rfl (lv_at hl 0 rfl) ?_
    refine va_get (D := D) (ci := 8) (v := .int (nI (σ.1))) (C := RX9) (T := TX9) (N := 2) hx hb hts u_X9_leave_X9 hown hK.1 hP 0 rfl rfl 1 (by decide) (hts (.fieldLink RX9 15 "NoticeWeek$Trace" "length" "I") (List.mem_of_getElem? (i := 1) rfl)) (fun _ h9 => h9) rfl dX9_leave_14 ?_
    refine lv_iload_n hx hb dX9_leave_17 rfl (lv_at hl 1 rfl) ?_
    refine b_ast hx hb hK hP hD hS 1 rfl (by omega) (by decide) dX9_leave_18 (fun H locs hP hS => ?_)
    have hP : va_P D vwCl (wTrace cI za (nI σ.1) (upd σ.2 σ.1 b)) H := hP
    have hD : va_D A (wTrace cI za (nI σ.1) (upd σ.2 σ.1 b)) := hD.sameA [(za 0), (za 1)] rfl rfl
    refine lv_aload_n hx hb dX9_leave_19 rfl (lv_at hl 0 rfl) ?_
    refine lv_dup hx hb dX9_leave_20 rfl ?_
    refine va_get (D := D) (ci := 8) (v := .int (nI (σ.1))) (C := RX9) (T := TX9) (N := 2) hx hb hts u_X9_leave_X9 hown hK.1 hP 0 rfl rfl 1 (by decide) (hts (.fieldLink RX9 15 "NoticeWeek$Trace" "length" "I") (List.mem_of_getElem? (i := 1) rfl)) (fun _ h9 => h9) rfl dX9_leave_21 ?_
    refine lv_iconst (v := (nI 1)) hx hb dX9_leave_24 (by decide) ?_
    refine b_add hx hb dX9_leave_25 ?_
    refine b_put (C := RX9) (T := TX9) (N := 2) hx hb hts u_X9_leave_X9 tyX9 tyX9_ok nmX9 hown hK hP hD hS 0 rfl rfl 1 (by decide) (hts (.fieldLink RX9 15 "NoticeWeek$Trace" "length" "I") (List.mem_of_getElem? (i := 1) rfl)) rfl (by decide +kernel) (Nat.le_of_ble_eq_true rfl) dX9_leave_26 (fun H locs hP hS => ?_)
    have hP : va_P D vwCl (wTrace cI za (nI (σ.1 + 1)) (upd σ.2 σ.1 b)) H := hP
    have hD : va_D A (wTrace cI za (nI (σ.1 + 1)) (upd σ.2 σ.1 b)) := hD.sameA [(za 0), (za 1)] rfl rfl
    have E : m_beg σ b = (σ.1 + 1, (upd σ.2 σ.1 b)) := (by unfold m_beg; rw [if_neg (Nat.not_le.mpr c1)])
    rw [E]
    exact b_vretM hx hb hr hP hS dX9_leave_29 hlocks
theorem u_X9_numberAt_X9 : ∀ w ∈ wsX90, w ∈ wsX9_numberAt := fun _ h => List.mem_cons_of_mem _ (List.mem_append_right _ h)
set_option maxHeartbeats 4000000 in
set_option maxRecDepth 100000 in
theorem c_X9_numberAt (l : Launch) (D : va_G) (cI cZ cT : ClassId) (za : Nat → Nat) (zr : Nat) (zn : Nat → Int32) (i : Int32) (hz : zr ≤ 16) : Met l yX9_numberAt wsX9_numberAt ({ frames := 0, cells := 0, slots := 0, locals := 0 }) (pR D cI cZ cT [.ref (za 0), .int i] (wTrace cI za (nI zr) zn)) (QcRead (t_num zr zn i)) 0 0 (fun _ => False) := by
  refine Met.ofW (cc := cX9_numberAt) (maxL := 2) (ret := (some .int)) (by decide) rfl ?_
  intro p e s m args below meth c s₁ B hml hv
  obtain ⟨rfl, hP, hK⟩ := hv
  have hx := B.exec
  have hb := B.bytes
  have hr := B.returns
  have hts := atoms_spec (ws := wsX9_numberAt) B.pre
  have hown : s.vm.findClass RX9 = some m.cls := findClass_of_methodNamed B.named
  have hlocks := B.notSynchronized
  have hl := lv_entry ([.ref (za 0), .int i]) (n := 2) (Nat.le_of_ble_eq_true rfl)
  rw [lg_entry_eq]
  generalize (lg_sl ([.ref (za 0), .int i]) ++ List.replicate (2 - (lg_sl ([.ref (za 0), .int i])).length) Slot.unset).toArray = ls at hl ⊢
  have hl : lv_has ls 2 [(0, .ref (za 0)), (1, .int i)] := hl
  refine lv_iload_n hx hb dX9_numberAt_0 rfl (lv_at hl 1 rfl) ?_
  refine lv_if_lt (tgt := 21) hx hb dX9_numberAt_1 (by decide) (fun c1 => ?_) (fun c1 => ?_)
  · refine lv_ldc (v := (-1000000)) hx hb hown (hts (.constant RX9 19 (-1000000)) (List.mem_of_getElem? (i := 3) rfl)) dX9_numberAt_21 ?_
    exact b_ret hx hb hr (by first | (simp only [t_num, eq_true c1, bI, not_true_eq_false, not_false_eq_true, ite_true, ite_false, if_true, if_false, and_self, and_true, true_and, false_and, and_false, or_true, true_or, or_false, false_or, eq_self]; done) | (simp [t_num, eq_true c1, bI]; done)) dX9_numberAt_23 hlocks
  · refine lv_iload_n hx hb dX9_numberAt_4 rfl (lv_at hl 1 rfl) ?_
    refine lv_aload_n hx hb dX9_numberAt_5 rfl (lv_at hl 0 rfl) ?_
    refine va_get (D := D) (ci := 8) (v := .int (nI (zr))) (C := RX9) (T := TX9) (N := 2) hx hb hts u_X9_numberAt_X9 hown hK.1 hP 0 rfl rfl 1 (by decide) (hts (.fieldLink RX9 15 "NoticeWeek$Trace" "length" "I") (List.mem_of_getElem? (i := 1) rfl)) (fun _ h9 => h9) rfl dX9_numberAt_6 ?_
    refine lv_icmp_ge (tgt := 21) hx hb dX9_numberAt_9 (by decide) (fun c2 => ?_) (fun c2 => ?_)
    · refine lv_ldc (v := (-1000000)) hx hb hown (hts (.constant RX9 19 (-1000000)) (List.mem_of_getElem? (i := 3) rfl)) dX9_numberAt_21 ?_
      exact b_ret hx hb hr (by first | (simp only [t_num, eq_false c1, eq_true c2, bI, not_true_eq_false, not_false_eq_true, ite_true, ite_false, if_true, if_false, and_self, and_true, true_and, false_and, and_false, or_true, true_or, or_false, false_or, eq_self]; done) | (simp [t_num, eq_false c1, eq_true c2, bI]; done)) dX9_numberAt_23 hlocks
    · obtain ⟨iv, hh_iv, rfl⟩ : ∃ r : Nat, r ≤ 15 ∧ i = nI r := i_ltN (by omega) (by omega) c1 c2
      have hl : lv_has ls 2 [(0, .ref (za 0)), (1, .int (nI (iv)))] := hl
      have hti : tn (nI iv) = iv := tn_nI hh_iv
      refine lv_aload_n hx hb dX9_numberAt_12 rfl (lv_at hl 0 rfl) ?_
      refine va_get (D := D) (ci := 8) (v := .ref (za 1)) (C := RX9) (T := TX9) (N := 2) hx hb hts u_X9_numberAt_X9 hown hK.1 hP 0 rfl rfl 0 (by decide) (hts (.fieldLink RX9 11 "NoticeWeek$Trace" "numbers" "[I") (List.mem_of_getElem? (i := 2) rfl)) (fun _ h9 => h9) rfl dX9_numberAt_13 ?_
      refine lv_iload_n hx hb dX9_numberAt_16 rfl (lv_at hl 1 rfl) ?_
      refine b_ald hx hb hK hP 1 rfl (by omega) (by decide) dX9_numberAt_17 ?_
      refine lv_goto (tgt := 23) hx hb dX9_numberAt_18 (by decide) ?_
      exact b_ret hx hb hr (by first | (simp only [t_num, eq_false c1, eq_false c2, hti, bI, not_true_eq_false, not_false_eq_true, ite_true, ite_false, if_true, if_false, and_self, and_true, true_and, false_and, and_false, or_true, true_or, or_false, false_or, eq_self]; done) | (simp [t_num, eq_false c1, eq_false c2, hti, bI]; done)) dX9_numberAt_23 hlocks
