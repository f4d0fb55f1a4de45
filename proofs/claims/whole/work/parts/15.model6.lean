/-! MODEL: choices, asks, images, counts -/
def frS (nw : Nat → Int32) (r : Nat) (b : Int32) : Int32 := if (lvs nw r ∧ ¬ fsI nw r 60 ≤ 0) ∧ (b = -1000000 ∨ ¬ nw (4 + 4 * tn b + 3) ≤ nw (4 + 4 * r + 3)) then nI r else b
def frB (nw : Nat → Int32) (k : Nat) : Int32 := itr (fun r b => frS nw r b) k (-1000000)
theorem frB_ok {nw : Nat → Int32} : ∀ k, k ≤ 6 → frB nw k = -1000000 ∨ ∃ b : Nat, b ≤ 5 ∧ frB nw k = nI b := by
  intro k
  induction k with
  | zero => intro _; exact Or.inl rfl
  | succ k ih =>
    intro hk
    show frS nw k (frB nw k) = _ ∨ ∃ b : Nat, b ≤ 5 ∧ frS nw k (frB nw k) = nI b
    unfold frS
    split
    · exact Or.inr ⟨k, by omega, rfl⟩
    · exact ih (by omega)
abbrev cho (x : Int32) : Prop := ¬ x < 0 ∧ ¬ 1 < x
def m_first (nw : Nat → Int32) (n : Nat) (what : Int32) : Int32 :=
  if ¬ nw 0 = 1 then -1000002 else if ¬ cho what then -1000001 else if frB nw n = -1000000 then frB nw n else if what = 0 then frB nw n else nw (4 + 4 * tn (frB nw n) + 3)
def twD (nw : Nat → Int32) (r k : Nat) : Int32 := goF (nw 2) (nw (4 + 4 * r)) (nI k) (min 60 (tn (nw (4 + 4 * r + 3)))) (nw (4 + 4 * r + 1))
abbrev twP (nw : Nat → Int32) (r : Nat) (deeds : Int32) (k : Nat) (S : Int32 × Int32) : Prop := deeds &&& (twD nw r k ^^^ (-1)) = 0 ∧ (S.1 = -1000000 ∨ ¬ S.2 ≤ ones8 (twD nw r k ^^^ nI k))
def twB (nw : Nat → Int32) (r : Nat) (deeds : Int32) (k : Nat) : Int32 × Int32 := itr (fun k S => (if twP nw r deeds k S then nI k else S.1, if twP nw r deeds k S then ones8 (twD nw r k ^^^ nI k) else S.2)) k (-1000000, -1000000)
def m_toWrite (nw : Nat → Int32) (reader deeds what : Int32) : Int32 :=
  if ¬ isR nw reader then -1000001 else if ¬ (¬ deeds < 0 ∧ ¬ 63 < deeds) then -1000001 else if ¬ cho what then -1000001 else if ¬ lvs nw (tn reader) then -1000002
  else if what = 0 then (twB nw (tn reader) deeds 64).2 else (twB nw (tn reader) deeds 64).1
def tdD (nw : Nat → Int32) (r k : Nat) : Int32 := goF (nw 2) (nw (4 + 4 * r)) (nw (4 + 4 * r + 2)) (min 60 (tn (nw (4 + 4 * r + 3)))) (nw (4 + 4 * r + 1) &&& (nI k ^^^ (-1)))
abbrev tdP (nw : Nat → Int32) (r k : Nat) : Prop := nI k &&& (nw (4 + 4 * r + 1) ^^^ (-1)) = 0 ∧ tdD nw r k = nw (4 + 4 * r + 2)
def tdB (nw : Nat → Int32) (r k : Nat) : Int32 := itr (fun k b => if tdP nw r k ∧ (b = -1000000 ∨ ¬ ones8 b ≤ ones8 (nI k)) then nI k else b) k (-1000000)
def m_toDeny (nw : Nat → Int32) (reader what : Int32) : Int32 :=
  if ¬ isR nw reader then -1000001 else if ¬ cho what then -1000001
  else if tdB nw (tn reader) 64 = -1000000 then tdB nw (tn reader) 64 else if what = 1 then tdB nw (tn reader) 64 else ones8 (tdB nw (tn reader) 64)
def plA (nw : Nat → Int32) (some_ : Int32) (j : Nat) : Int32 := itr (fun r x => x + (if hasb some_ r then ones8 (nw (4 + 4 * r + 2)) else 0)) j 0
def plB (nw : Nat → Int32) (some_ : Int32) (j : Nat) : Int32 := itr (fun r x => x + (if hasb some_ r then ones8 (nw (4 + 4 * r + 2) &&& nw (4 + 4 * r + 1)) else 0)) j 0
abbrev plP (nw : Nat → Int32) (n : Nat) (s : Int32) (S : Int32 × Int32) : Prop := ¬ nw 1 < plA nw s n ∧ (S.2 < plB nw s n ∨ (plB nw s n = S.2 ∧ ¬ ones8 S.1 ≤ ones8 s))
def plL (nw : Nat → Int32) (n k : Nat) : Int32 × Int32 := itr (fun j S => (if plP nw n (nI (j + 1)) S then nI (j + 1) else S.1, if plP nw n (nI (j + 1)) S then plB nw (nI (j + 1)) n else S.2)) k (0, 0)
theorem shl1 {n : Nat} (h : n ≤ 6) : ∃ pw : Nat, 1 ≤ pw ∧ pw ≤ 64 ∧ pw = 2 ^ n ∧ (1 : Int32) <<< (nI n &&& 31) = nI pw := by
  rcases (show n = 0 ∨ n = 1 ∨ n = 2 ∨ n = 3 ∨ n = 4 ∨ n = 5 ∨ n = 6 by omega) with rfl | rfl | rfl | rfl | rfl | rfl | rfl
  · exact ⟨1, by decide, by decide, by decide, by decide⟩
  · exact ⟨2, by decide, by decide, by decide, by decide⟩
  · exact ⟨4, by decide, by decide, by decide, by decide⟩
  · exact ⟨8, by decide, by decide, by decide, by decide⟩
  · exact ⟨16, by decide, by decide, by decide, by decide⟩
  · exact ⟨32, by decide, by decide, by decide, by decide⟩
  · exact ⟨64, by decide, by decide, by decide, by decide⟩
def m_print (nw : Nat → Int32) (n : Nat) (what : Int32) : Int32 := if ¬ nw 0 = 1 then -1000002 else if ¬ cho what then -1000001 else if what = 0 then (plL nw n (2 ^ n - 1)).2 else (plL nw n (2 ^ n - 1)).1
def gsV (nw : Nat → Int32) (r : Nat) (kd nt : Int32) (d : Nat) : Int32 := goF (nw 2) kd nt (min d (tn (nw (4 + 4 * r + 3)))) (nw (4 + 4 * r + 1))
def gsb (nw it : Nat → Int32) (r : Nat) (kd nt : Int32) (fr : Nat) (j : Nat) : Bool := itr (fun i b => b && decide (gsV nw r kd nt (i + 1) = it (fr + i))) j true
theorem gsb_t {nw it : Nat → Int32} {r : Nat} {kd nt : Int32} {fr j : Nat} (h : gsb nw it r kd nt fr j = true) : bI (gsV nw r kd nt (j + 1) = it (fr + (j + 1) - 1)) = bI (gsb nw it r kd nt fr (j + 1) = true) := by
  have e : gsb nw it r kd nt fr (j + 1) = (gsb nw it r kd nt fr j && decide (gsV nw r kd nt (j + 1) = it (fr + j))) := rfl
  rw [e, h, Bool.true_and, show fr + (j + 1) - 1 = fr + j by omega]
  unfold bI
  by_cases q : gsV nw r kd nt (j + 1) = it (fr + j)
  · rw [if_pos q, if_pos (by rw [decide_eq_true q])]
  · rw [if_neg q, if_neg (by rw [decide_eq_false q]; decide)]
theorem gsb_f {nw it : Nat → Int32} {r : Nat} {kd nt : Int32} {fr j : Nat} (h : ¬ gsb nw it r kd nt fr j = true) (m : Nat) : ¬ gsb nw it r kd nt fr (j + m) = true := by
  induction m with
  | zero => exact h
  | succ m ih =>
    have e : gsb nw it r kd nt fr (j + (m + 1)) = (gsb nw it r kd nt fr (j + m) && decide (gsV nw r kd nt (j + m + 1) = it (fr + (j + m)))) := rfl
    rw [e]
    intro q
    exact ih (Bool.and_eq_true_iff.mp q).1
theorem gsb_x {nw it : Nat → Int32} {r : Nat} {kd nt : Int32} {fr j n : Nat} (hj : j ≤ n) (h : j = n ∨ ¬ gsb nw it r kd nt fr j = true) : bI (gsb nw it r kd nt fr j = true) = bI (gsb nw it r kd nt fr n = true) := by
  rcases h with h | h
  · subst h; rfl
  · have h2 := gsb_f h (n - j)
    rw [show j + (n - j) = n by omega] at h2
    unfold bI; rw [if_neg h, if_neg h2]
def tmF (nw it : Nat → Int32) (r fr n k : Nat) : Int32 := itr (fun j x => x ||| (if gsb nw it r (nI (j + 1)) (nw (4 + 4 * r + 2)) fr n = true then 1 <<< (nI (j + 1) &&& 31) else 0)) k 0
def m_temper (ss : Int32) (nw la ma it : Nat → Int32) (reader row i n : Int32) : Int32 × Int32 :=
  if ¬ isR nw reader then (-1000001, ss) else if ¬ (¬ row < 0 ∧ ¬ 7 < row) then (-1000001, ss) else if ¬ (¬ n < 1 ∧ ¬ 16 < n) then (-1000001, ss)
  else if la (tn row) = -1000000 then ((-1000010) - 1, 1)
  else if ¬ (¬ i < 0 ∧ ¬ n < 0 ∧ ¬ ma (tn row) < i ∧ ¬ ma (tn row) - i < n) then ((-1000010) - 2, 2)
  else (tmF nw it (tn reader) (40 * tn row + tn i) (tn n) 5, 0)
def tlS (nw it : Nat → Int32) (r fr n : Nat) (k : Nat) : Int32 × Int32 := itr (fun j S => (S.1 + (if gsb nw it r (nw (4 + 4 * r)) (nI j) fr n = true then 1 else 0), if gsb nw it r (nw (4 + 4 * r)) (nI j) fr n = true ∧ S.1 = 0 then nI j else S.2)) k (0, -1000000)
def m_told (ss : Int32) (nw la ma it : Nat → Int32) (reader row i n what : Int32) : Int32 × Int32 :=
  if ¬ isR nw reader then (-1000001, ss) else if ¬ (¬ row < 0 ∧ ¬ 7 < row) then (-1000001, ss) else if ¬ (¬ n < 1 ∧ ¬ 16 < n) then (-1000001, ss) else if ¬ cho what then (-1000001, ss)
  else if la (tn row) = -1000000 then ((-1000010) - 1, 1)
  else if ¬ (¬ i < 0 ∧ ¬ n < 0 ∧ ¬ ma (tn row) < i ∧ ¬ ma (tn row) - i < n) then ((-1000010) - 2, 2)
  else (if what = 0 then (tlS nw it (tn reader) (40 * tn row + tn i) (tn n) 64).1 else (tlS nw it (tn reader) (40 * tn row + tn i) (tn n) 64).2, 0)
def m_image (nw im kp : Nat → Int32) (k : Int32) : Int32 × (Nat → Int32) × (Nat → Int32) :=
  if ¬ cho k then (-1000001, im, kp) else if ¬ nw 0 = 1 then (-1000002, im, kp) else (1, cpy nw 0 im (28 * tn k) 28, upd kp (tn k) 1)
def m_restore (nw im kp : Nat → Int32) (nc : Nat) (k : Int32) : Int32 × (Nat → Int32) × Nat :=
  if ¬ cho k then (-1000001, nw, nc) else if kp (tn k) = 0 then (-1000002, nw, nc) else (1, cpy im (28 * tn k) nw 0 28, 0)
def m_kind (nw : Nat → Int32) (reader : Int32) : Int32 := if ¬ isR nw reader then -1000001 else nw (4 + 4 * tn reader)
abbrev asP (kd its : Int32) : Prop := kd = 0 ∨ kd = its ∨ (kd = 1 ∧ its < 4) ∨ (kd = 4 ∧ its = 5)
def m_as (ss : Int32) (nw : Nat → Int32) (reader kd : Int32) : Int32 × Int32 :=
  if ¬ isR nw reader then (-1000001, ss) else if ¬ (¬ kd < 0 ∧ ¬ 5 < kd) then (-1000001, ss) else if asP kd (nw (4 + 4 * tn reader)) then (reader, 0) else ((-1000010) - 3, 3)
def m_beg (z : Nat × (Nat → Int32)) (b : Int32) : Nat × (Nat → Int32) := if 16 ≤ z.1 then z else (z.1 + 1, upd z.2 z.1 b)
theorem m_beg_le {z : Nat × (Nat → Int32)} {b : Int32} (h : z.1 ≤ 16) : (m_beg z b).1 ≤ 16 := by
  unfold m_beg; split
  · exact h
  · show z.1 + 1 ≤ 16; omega
theorem u_X12_first_X12 : ∀ w ∈ wsX120, w ∈ wsX12_first := fun _ h => List.mem_cons_of_mem _ (List.mem_append_right _ h)
set_option maxHeartbeats 4000000 in
set_option maxRecDepth 100000 in
theorem c_X12_first (l : Launch) (D : va_G) (cI cZ cT : ClassId) (A0 : Nat → Nat) (ss tp fk fp ap sp tk vl ac tr : Int32) (la ma it sr bt nw dr pa im kp tc : Nat → Int32) (what : Int32) (n : Nat) (hW : TK nw n) : Met l yX12_first wsX12_first ({ frames := 6, cells := 0, slots := 0, locals := 140 }) (pR D cI cZ cT [.ref (A0 0), .int what] (wM cI cZ A0 ss tp fk fp ap sp tk vl ac tr la ma it sr bt nw dr pa im kp tc)) (QcRead (m_first nw n what)) 0 0 (fun _ => False) := by
  refine Met.ofW (cc := cX12_first) (maxL := 5) (ret := (some .int)) (by decide) rfl ?_
  intro p e s m args below meth c s₁ B hml hv
  obtain ⟨rfl, hP, hK⟩ := hv
  have hx := B.exec
  have hb := B.bytes
  have hr := B.returns
  have hts := atoms_spec (ws := wsX12_first) B.pre
  have hown : s.vm.findClass RX12 = some m.cls := findClass_of_methodNamed B.named
  have hlocks := B.notSynchronized
  have hl := lv_entry ([.ref (A0 0), .int what]) (n := 5) (Nat.le_of_ble_eq_true rfl)
  rw [lg_entry_eq]
  generalize (lg_sl ([.ref (A0 0), .int what]) ++ List.replicate (5 - (lg_sl ([.ref (A0 0), .int what])).length) Slot.unset).toArray = ls at hl ⊢
  have hl : lv_has ls 5 [(0, .ref (A0 0)), (1, .int what)] := hl
  have hn6 := hW.1
  refine lv_aload_n hx hb dX12_first_0 rfl (lv_at hl 0 rfl) ?_
  refine b_call (va_runV (As := []) (rest := []) ⟨hx, hb, hml, hown, hts⟩ (c_X12_isTown l D cI cZ cT A0 ss tp fk fp ap sp tk vl ac tr la ma it sr bt nw dr pa im kp tc) (cwV 0 hts gX12_first_X12_isTown rfl rfl rfl (by decide +kernel) ⟨(Nat.le_of_ble_eq_true rfl), (Nat.le_of_ble_eq_true rfl)⟩) (b_pV hK hP [0, 1, 2, 3, 4, 5, 6, 7, 8, 9, 10, 11] rfl 0 rfl rfl) rfl rfl hl.1 rfl (lv_room (Nat.le_of_ble_eq_true rfl)) dX12_first_1 ⟨Nat.zero_le _, Nat.zero_le _⟩).run ?_
  refine b_ifne (tgt := 10) hx hb dX12_first_4 (by decide) (fun c1 => ?_) (fun c1 => ?_)
  · refine lv_iload_n hx hb dX12_first_10 rfl (lv_at hl 1 rfl) ?_
    refine lv_iconst (v := 0) hx hb dX12_first_11 (by decide) ?_
    refine lv_iconst (v := 1) hx hb dX12_first_12 (by decide) ?_
    refine b_call (va_runS (As := [.int what, .int 0, .int 1]) (rest := []) ⟨hx, hb, hml, hown, hts⟩ (c_X12_in l D cI cZ cT what 0 1) (va_cwS 3 hts gX12_first_X12_in rfl rfl rfl (by decide +kernel) ⟨(Nat.le_of_ble_eq_true rfl), (Nat.le_of_ble_eq_true rfl)⟩) (b_pS0 hK) rfl rfl hl.1 rfl (lv_room (Nat.le_of_ble_eq_true rfl)) dX12_first_13 ⟨Nat.zero_le _, Nat.zero_le _⟩).run ?_
    refine b_ifne (tgt := 22) hx hb dX12_first_16 (by decide) (fun c2 => ?_) (fun c2 => ?_)
    · refine lv_ldc (v := (-1000000)) hx hb hown (hts (.constant RX12 44 (-1000000)) (List.mem_of_getElem? (i := 3) rfl)) dX12_first_22 ?_
      refine lv_istore_n (lv' := [(2, .int (-1000000)), (0, .ref (A0 0)), (1, .int what)]) hx hb dX12_first_24 rfl hl (by decide) rfl (fun ls hl => ?_)
      refine lv_iconst (v := (nI 0)) hx hb dX12_first_25 (by decide) ?_
      refine lv_istore_n (lv' := [(3, .int (nI 0)), (2, .int (-1000000)), (0, .ref (A0 0)), (1, .int what)]) hx hb dX12_first_26 rfl hl (by decide) rfl (fun ls hl => ?_)
      refine b_loopR (N := n) (I := fun k ls => lv_has ls 5 [(3, .int (nI (k))), (2, .int (frB nw k)), (0, .ref (A0 0)), (1, .int what)]) (fun k hk ih3 ls hI => ?_) 0 (by omega) (lv_sub hl [0, 1, 2, 3] rfl)
      have hl := hI
      have hl : lv_has ls 5 [(3, .int (nI (k))), (2, .int (frB nw k)), (0, .ref (A0 0)), (1, .int what)] := hl
      refine lv_iload_n hx hb dX12_first_27 rfl (lv_at hl 0 rfl) ?_
      refine lv_aload_n hx hb dX12_first_28 rfl (lv_at hl 2 rfl) ?_
      refine va_get (D := D) (ci := 11) (v := .ref (A0 6)) (C := RX12) (T := TX12) (N := 21) hx hb hts u_X12_first_X12 hown hK.1 hP 0 rfl rfl 13 (by decide) (hts (.fieldLink RX12 25 "NoticeWeekModel" "now" "[I") (List.mem_of_getElem? (i := 4) rfl)) (fun _ h9 => h9) rfl dX12_first_29 ?_
      refine lv_iconst (v := (nI 3)) hx hb dX12_first_32 (by decide) ?_
      refine b_ald hx hb hK hP 6 rfl (by omega) (by decide) dX12_first_33 ?_
      rw [hW.2.1]
      refine b_ge (tgt := 112) hx hb (by omega) (by omega) dX12_first_34 (by decide) (fun c4 => ?_) (fun c4 => ?_)
      · have h_k : n = k := by omega
        subst h_k
        refine lv_iload_n hx hb dX12_first_112 rfl (lv_at hl 1 rfl) ?_
        refine lv_ldc (v := (-1000000)) hx hb hown (hts (.constant RX12 44 (-1000000)) (List.mem_of_getElem? (i := 3) rfl)) dX12_first_113 ?_
        refine lv_icmp_eq (tgt := 122) hx hb dX12_first_115 (by decide) (fun c5 => ?_) (fun c5 => ?_)
        · refine lv_iload_n hx hb dX12_first_122 rfl (lv_at hl 1 rfl) ?_
          refine lv_goto (tgt := 138) hx hb dX12_first_123 (by decide) ?_
          exact b_ret hx hb hr (by first | (simp only [m_first, eq_true c1, eq_true c2, eq_true c4, eq_true c5, bI, not_true_eq_false, not_false_eq_true, ite_true, ite_false, if_true, if_false, and_self, and_true, true_and, false_and, and_false, eq_self]; done) | (simp [m_first, eq_true c1, eq_true c2, eq_true c4, eq_true c5, bI]; done)) dX12_first_138 hlocks
        · refine lv_iload_n hx hb dX12_first_118 rfl (lv_at hl 3 rfl) ?_
          refine lv_if_ne (tgt := 126) hx hb dX12_first_119 (by decide) (fun c6 => ?_) (fun c6 => ?_)
          · obtain ⟨b, hb5, hbe⟩ := (frB_ok (nw := nw) n (by omega)).resolve_left c5
            rw [hbe] at hl
            refine lv_aload_n hx hb dX12_first_126 rfl (lv_at hl 2 rfl) ?_
            refine va_get (D := D) (ci := 11) (v := .ref (A0 6)) (C := RX12) (T := TX12) (N := 21) hx hb hts u_X12_first_X12 hown hK.1 hP 0 rfl rfl 13 (by decide) (hts (.fieldLink RX12 25 "NoticeWeekModel" "now" "[I") (List.mem_of_getElem? (i := 4) rfl)) (fun _ h9 => h9) rfl dX12_first_127 ?_
            refine lv_iconst (v := (nI 4)) hx hb dX12_first_130 (by decide) ?_
            refine lv_iconst (v := (nI 4)) hx hb dX12_first_131 (by decide) ?_
            refine lv_iload_n hx hb dX12_first_132 rfl (lv_at hl 1 rfl) ?_
            refine b_mul hx hb dX12_first_133 ?_
            refine b_add hx hb dX12_first_134 ?_
            refine lv_iconst (v := (nI 3)) hx hb dX12_first_135 (by decide) ?_
            refine b_add hx hb dX12_first_136 ?_
            refine b_ald hx hb hK hP 6 rfl (by omega) (by decide) dX12_first_137 ?_
            exact b_ret hx hb hr (by first | (simp only [m_first, eq_true c1, eq_true c2, eq_true c4, eq_false c5, eq_false c6, hbe, tn_nI hb5, bI, not_true_eq_false, not_false_eq_true, ite_true, ite_false, if_true, if_false, and_self, and_true, true_and, false_and, and_false, eq_self]; done) | (simp [m_first, eq_true c1, eq_true c2, eq_true c4, eq_false c5, eq_false c6, hbe, tn_nI hb5, bI]; done)) dX12_first_138 hlocks
          · refine lv_iload_n hx hb dX12_first_122 rfl (lv_at hl 1 rfl) ?_
            refine lv_goto (tgt := 138) hx hb dX12_first_123 (by decide) ?_
            exact b_ret hx hb hr (by first | (simp only [m_first, eq_true c1, eq_true c2, eq_true c4, eq_false c5, eq_true c6, bI, not_true_eq_false, not_false_eq_true, ite_true, ite_false, if_true, if_false, and_self, and_true, true_and, false_and, and_false, eq_self]; done) | (simp [m_first, eq_true c1, eq_true c2, eq_true c4, eq_false c5, eq_true c6, bI]; done)) dX12_first_138 hlocks
      · refine b_join (jpc := 60) (rest' := []) (P := fun v : Int32 => v = ((bI (lvs nw k ∧ ¬ fsI nw k 60 ≤ 0)) : Int32)) (fun v7 ev7 => ?_) (fun K8 => ?_)
        · subst ev7
          refine lv_istore (lv' := [(4, .int (bI (lvs nw k ∧ ¬ fsI nw k 60 ≤ 0))), (3, .int (nI (k))), (2, .int (frB nw k)), (0, .ref (A0 0)), (1, .int what)]) hx hb dX12_first_60 hl (by decide) rfl (fun ls hl => ?_)
          refine b_join (jpc := 105) (rest' := []) (P := fun v : Int32 => v = ((frS nw k (frB nw k)) : Int32)) (fun v9 ev9 => ?_) (fun K10 => ?_)
          · subst ev9
            refine lv_topi (fun x11 ex11 => ?_)
            refine lv_istore_n (lv' := [(2, .int x11), (4, .int (bI (lvs nw k ∧ ¬ fsI nw k 60 ≤ 0))), (3, .int (nI (k))), (0, .ref (A0 0)), (1, .int what)]) hx hb dX12_first_105 rfl hl (by decide) rfl (fun ls hl => ?_)
            refine lv_iinc (v := (nI (k + 1))) (lv' := [(3, .int (nI (k + 1))), (2, .int x11), (4, .int (bI (lvs nw k ∧ ¬ fsI nw k 60 ≤ 0))), (0, .ref (A0 0)), (1, .int what)]) hx hb dX12_first_106 hl (k := 2) rfl (nI_add _ _) (by decide) rfl (fun ls hl => ?_)
            refine lv_goto (tgt := 27) hx hb dX12_first_109 (by decide) ?_
            try subst ex11
            exact ih3 (by omega) ls (lv_sub hl [0, 1, 3, 4] rfl)
          · refine lv_iload hx hb dX12_first_62 (lv_at hl 0 rfl) ?_
            refine b_ifeq (tgt := 104) hx hb dX12_first_64 (by decide) (fun c12 => ?_) (fun c12 => ?_)
            · refine lv_iload_n hx hb dX12_first_104 rfl (lv_at hl 2 rfl) ?_
              exact K10 _ (by unfold frS; rw [if_neg (fun z => c12 z.1)])
            · refine lv_iload_n hx hb dX12_first_67 rfl (lv_at hl 2 rfl) ?_
              refine lv_ldc (v := (-1000000)) hx hb hown (hts (.constant RX12 44 (-1000000)) (List.mem_of_getElem? (i := 3) rfl)) dX12_first_68 ?_
              refine lv_icmp_eq (tgt := 100) hx hb dX12_first_70 (by decide) (fun c13 => ?_) (fun c13 => ?_)
              · refine lv_iload_n hx hb dX12_first_100 rfl (lv_at hl 1 rfl) ?_
                refine lv_goto (tgt := 105) hx hb dX12_first_101 (by decide) ?_
                exact K10 _ (by unfold frS; rw [if_pos ⟨c12, Or.inl c13⟩])
              · refine lv_aload_n hx hb dX12_first_73 rfl (lv_at hl 3 rfl) ?_
                refine va_get (D := D) (ci := 11) (v := .ref (A0 6)) (C := RX12) (T := TX12) (N := 21) hx hb hts u_X12_first_X12 hown hK.1 hP 0 rfl rfl 13 (by decide) (hts (.fieldLink RX12 25 "NoticeWeekModel" "now" "[I") (List.mem_of_getElem? (i := 4) rfl)) (fun _ h9 => h9) rfl dX12_first_74 ?_
                refine lv_iconst (v := (nI 4)) hx hb dX12_first_77 (by decide) ?_
                refine lv_iconst (v := (nI 4)) hx hb dX12_first_78 (by decide) ?_
                refine lv_iload_n hx hb dX12_first_79 rfl (lv_at hl 1 rfl) ?_
                refine b_mul hx hb dX12_first_80 ?_
                refine b_add hx hb dX12_first_81 ?_
                refine lv_iconst (v := (nI 3)) hx hb dX12_first_82 (by decide) ?_
                refine b_add hx hb dX12_first_83 ?_
                refine b_ald hx hb hK hP 6 rfl (by omega) (by decide) dX12_first_84 ?_
                obtain ⟨b, hb5, hbe⟩ := (frB_ok (nw := nw) k (by omega)).resolve_left c13
                rw [hbe] at hl
                refine lv_aload_n hx hb dX12_first_85 rfl (lv_at hl 3 rfl) ?_
                refine va_get (D := D) (ci := 11) (v := .ref (A0 6)) (C := RX12) (T := TX12) (N := 21) hx hb hts u_X12_first_X12 hown hK.1 hP 0 rfl rfl 13 (by decide) (hts (.fieldLink RX12 25 "NoticeWeekModel" "now" "[I") (List.mem_of_getElem? (i := 4) rfl)) (fun _ h9 => h9) rfl dX12_first_86 ?_
                refine lv_iconst (v := (nI 4)) hx hb dX12_first_89 (by decide) ?_
                refine lv_iconst (v := (nI 4)) hx hb dX12_first_90 (by decide) ?_
                refine lv_iload_n hx hb dX12_first_91 rfl (lv_at hl 2 rfl) ?_
                refine b_mul hx hb dX12_first_92 ?_
                refine b_add hx hb dX12_first_93 ?_
                refine lv_iconst (v := (nI 3)) hx hb dX12_first_94 (by decide) ?_
                refine b_add hx hb dX12_first_95 ?_
                refine b_ald hx hb hK hP 6 rfl (by omega) (by decide) dX12_first_96 ?_
                refine lv_icmp_ge (tgt := 104) hx hb dX12_first_97 (by decide) (fun c14 => ?_) (fun c14 => ?_)
                · refine lv_iload_n hx hb dX12_first_104 rfl (lv_at hl 2 rfl) ?_
                  exact K10 _ (by unfold frS; rw [if_neg (fun z => z.2.elim c13 (fun y => y (by rw [hbe, tn_nI hb5]; exact c14)))]; exact hbe.symm)
                · refine lv_iload_n hx hb dX12_first_100 rfl (lv_at hl 1 rfl) ?_
                  refine lv_goto (tgt := 105) hx hb dX12_first_101 (by decide) ?_
                  exact K10 _ (by unfold frS; rw [if_pos ⟨c12, Or.inr (by rw [hbe, tn_nI hb5]; exact c14)⟩])
        · refine lv_aload_n hx hb dX12_first_37 rfl (lv_at hl 2 rfl) ?_
          refine lv_iload_n hx hb dX12_first_38 rfl (lv_at hl 0 rfl) ?_
          refine b_call (va_runV (As := [.int (nI (k))]) (rest := []) ⟨hx, hb, hml, hown, hts⟩ (c_X12_lives l D cI cZ cT A0 ss tp fk fp ap sp tk vl ac tr la ma it sr bt nw dr pa im kp tc k (by omega)) (cwV 1 hts gX12_first_X12_lives rfl rfl rfl (by decide +kernel) ⟨(Nat.le_of_ble_eq_true rfl), (Nat.le_of_ble_eq_true rfl)⟩) (b_pV hK hP [0, 1, 2, 3, 4, 5, 6, 7, 8, 9, 10, 11] rfl 0 rfl rfl) rfl rfl hl.1 rfl (lv_room (Nat.le_of_ble_eq_true rfl)) dX12_first_39 ⟨Nat.zero_le _, Nat.zero_le _⟩).run ?_
          refine b_ifeq (tgt := 59) hx hb dX12_first_42 (by decide) (fun c15 => ?_) (fun c15 => ?_)
          · refine lv_iconst (v := 0) hx hb dX12_first_59 (by decide) ?_
            exact K8 _ (by first | with_reducible rfl | (simp only [bI, eq_true c1, eq_true c2, eq_true c4, eq_false c15, not_true_eq_false, not_false_eq_true, ite_true, ite_false, if_true, if_false, and_self, and_true, true_and, false_and, and_false]; done) | (simp [bI, eq_true c1, eq_true c2, eq_true c4, eq_false c15]; done) | omega)
          · refine lv_aload_n hx hb dX12_first_45 rfl (lv_at hl 2 rfl) ?_
            refine lv_iload_n hx hb dX12_first_46 rfl (lv_at hl 0 rfl) ?_
            refine lv_bipush (v := (nI 60)) hx hb dX12_first_47 (by decide) ?_
            refine b_call (va_runV (As := [.int (nI (k)), .int (nI 60)]) (rest := []) ⟨hx, hb, hml, hown, hts⟩ (c_X12_falseIn l D cI cZ cT A0 ss tp fk fp ap sp tk vl ac tr la ma it sr bt nw dr pa im kp tc k 60 n (by omega) (by omega) hW) (cwV 2 hts gX12_first_X12_falseIn rfl rfl rfl (by decide +kernel) ⟨(Nat.le_of_ble_eq_true rfl), (Nat.le_of_ble_eq_true rfl)⟩) (b_pV hK hP [0, 1, 2, 3, 4, 5, 6, 7, 8, 9, 10, 11] rfl 0 rfl rfl) rfl rfl hl.1 rfl (lv_room (Nat.le_of_ble_eq_true rfl)) dX12_first_49 ⟨Nat.zero_le _, Nat.zero_le _⟩).run ?_
            refine lv_if_le (tgt := 59) hx hb dX12_first_52 (by decide) (fun c16 => ?_) (fun c16 => ?_)
            · refine lv_iconst (v := 0) hx hb dX12_first_59 (by decide) ?_
              exact K8 _ (by first | with_reducible rfl | (simp only [bI, eq_true c1, eq_true c2, eq_true c4, eq_true c15, eq_true c16, not_true_eq_false, not_false_eq_true, ite_true, ite_false, if_true, if_false, and_self, and_true, true_and, false_and, and_false]; done) | (simp [bI, eq_true c1, eq_true c2, eq_true c4, eq_true c15, eq_true c16]; done) | omega)
            · refine lv_iconst (v := 1) hx hb dX12_first_55 (by decide) ?_
              refine lv_goto (tgt := 60) hx hb dX12_first_56 (by decide) ?_
              exact K8 _ (by first | with_reducible rfl | (simp only [bI, eq_true c1, eq_true c2, eq_true c4, eq_true c15, eq_false c16, not_true_eq_false, not_false_eq_true, ite_true, ite_false, if_true, if_false, and_self, and_true, true_and, false_and, and_false]; done) | (simp [bI, eq_true c1, eq_true c2, eq_true c4, eq_true c15, eq_false c16]; done) | omega)
    · refine lv_ldc (v := (-1000001)) hx hb hown (hts (.constant RX12 58 (-1000001)) (List.mem_of_getElem? (i := 2) rfl)) dX12_first_19 ?_
      exact b_ret hx hb hr (by first | (simp only [m_first, eq_true c1, eq_false c2, bI, not_true_eq_false, not_false_eq_true, ite_true, ite_false, if_true, if_false, and_self, and_true, true_and, false_and, and_false, eq_self]; done) | (simp [m_first, eq_true c1, eq_false c2, bI]; done)) dX12_first_21 hlocks
  · refine lv_ldc (v := (-1000002)) hx hb hown (hts (.constant RX12 159 (-1000002)) (List.mem_of_getElem? (i := 1) rfl)) dX12_first_7 ?_
    exact b_ret hx hb hr (by first | (simp only [m_first, eq_false c1, bI, not_true_eq_false, not_false_eq_true, ite_true, ite_false, if_true, if_false, and_self, and_true, true_and, false_and, and_false, eq_self]; done) | (simp [m_first, eq_false c1, bI]; done)) dX12_first_9 hlocks
theorem u_X12_toWrite_X12 : ∀ w ∈ wsX120, w ∈ wsX12_toWrite := fun _ h => List.mem_cons_of_mem _ (List.mem_append_right _ h)
set_option maxHeartbeats 4000000 in
set_option maxRecDepth 100000 in
theorem c_X12_toWrite (l : Launch) (D : va_G) (cI cZ cT : ClassId) (A0 : Nat → Nat) (ss tp fk fp ap sp tk vl ac tr : Int32) (la ma it sr bt nw dr pa im kp tc : Nat → Int32) (reader deeds what : Int32) (n : Nat) (hW : TK nw n) : Met l yX12_toWrite wsX12_toWrite ({ frames := 4, cells := 0, slots := 0, locals := 95 }) (pR D cI cZ cT [.ref (A0 0), .int reader, .int deeds, .int what] (wM cI cZ A0 ss tp fk fp ap sp tk vl ac tr la ma it sr bt nw dr pa im kp tc)) (QcRead (m_toWrite nw reader deeds what)) 0 0 (fun _ => False) := by
  refine Met.ofW (cc := cX12_toWrite) (maxL := 11) (ret := (some .int)) (by decide) rfl ?_
  intro p e s m args below meth c s₁ B hml hv
  obtain ⟨rfl, hP, hK⟩ := hv
  have hx := B.exec
  have hb := B.bytes
  have hr := B.returns
  have hts := atoms_spec (ws := wsX12_toWrite) B.pre
  have hown : s.vm.findClass RX12 = some m.cls := findClass_of_methodNamed B.named
  have hlocks := B.notSynchronized
  have hl := lv_entry ([.ref (A0 0), .int reader, .int deeds, .int what]) (n := 11) (Nat.le_of_ble_eq_true rfl)
  rw [lg_entry_eq]
  generalize (lg_sl ([.ref (A0 0), .int reader, .int deeds, .int what]) ++ List.replicate (11 - (lg_sl ([.ref (A0 0), .int reader, .int deeds, .int what])).length) Slot.unset).toArray = ls at hl ⊢
  have hl : lv_has ls 11 [(0, .ref (A0 0)), (1, .int reader), (2, .int deeds), (3, .int what)] := hl
  refine lv_aload_n hx hb dX12_toWrite_0 rfl (lv_at hl 0 rfl) ?_
  refine lv_iload_n hx hb dX12_toWrite_1 rfl (lv_at hl 1 rfl) ?_
  refine b_call (va_runV (As := [.int reader]) (rest := []) ⟨hx, hb, hml, hown, hts⟩ (c_X12_isReader l D cI cZ cT A0 ss tp fk fp ap sp tk vl ac tr la ma it sr bt nw dr pa im kp tc reader) (cwV 1 hts gX12_toWrite_X12_isReader rfl rfl rfl (by decide +kernel) ⟨(Nat.le_of_ble_eq_true rfl), (Nat.le_of_ble_eq_true rfl)⟩) (b_pV hK hP [0, 1, 2, 3, 4, 5, 6, 7, 8, 9, 10, 11] rfl 0 rfl rfl) rfl rfl hl.1 rfl (lv_room (Nat.le_of_ble_eq_true rfl)) dX12_toWrite_2 ⟨Nat.zero_le _, Nat.zero_le _⟩).run ?_
  refine b_ifeq (tgt := 27) hx hb dX12_toWrite_5 (by decide) (fun c1 => ?_) (fun c1 => ?_)
  · refine lv_ldc (v := (-1000001)) hx hb hown (hts (.constant RX12 58 (-1000001)) (List.mem_of_getElem? (i := 1) rfl)) dX12_toWrite_27 ?_
    exact b_ret hx hb hr (by first | (simp only [m_toWrite, eq_false c1, bI, not_true_eq_false, not_false_eq_true, ite_true, ite_false, if_true, if_false, and_self, and_true, true_and, false_and, and_false, eq_self]; done) | (simp [m_toWrite, eq_false c1, bI]; done)) dX12_toWrite_29 hlocks
  · refine lv_iload_n hx hb dX12_toWrite_8 rfl (lv_at hl 2 rfl) ?_
    refine lv_iconst (v := 0) hx hb dX12_toWrite_9 (by decide) ?_
    refine lv_bipush (v := 63) hx hb dX12_toWrite_10 (by decide) ?_
    refine b_call (va_runS (As := [.int deeds, .int 0, .int 63]) (rest := []) ⟨hx, hb, hml, hown, hts⟩ (c_X12_in l D cI cZ cT deeds 0 63) (va_cwS 3 hts gX12_toWrite_X12_in rfl rfl rfl (by decide +kernel) ⟨(Nat.le_of_ble_eq_true rfl), (Nat.le_of_ble_eq_true rfl)⟩) (b_pS0 hK) rfl rfl hl.1 rfl (lv_room (Nat.le_of_ble_eq_true rfl)) dX12_toWrite_12 ⟨Nat.zero_le _, Nat.zero_le _⟩).run ?_
    refine b_ifeq (tgt := 27) hx hb dX12_toWrite_15 (by decide) (fun c2 => ?_) (fun c2 => ?_)
    · refine lv_ldc (v := (-1000001)) hx hb hown (hts (.constant RX12 58 (-1000001)) (List.mem_of_getElem? (i := 1) rfl)) dX12_toWrite_27 ?_
      exact b_ret hx hb hr (by first | (simp only [m_toWrite, eq_true c1, eq_false c2, bI, not_true_eq_false, not_false_eq_true, ite_true, ite_false, if_true, if_false, and_self, and_true, true_and, false_and, and_false, eq_self]; done) | (simp [m_toWrite, eq_true c1, eq_false c2, bI]; done)) dX12_toWrite_29 hlocks
    · refine lv_iload_n hx hb dX12_toWrite_18 rfl (lv_at hl 3 rfl) ?_
      refine lv_iconst (v := 0) hx hb dX12_toWrite_19 (by decide) ?_
      refine lv_iconst (v := 1) hx hb dX12_toWrite_20 (by decide) ?_
      refine b_call (va_runS (As := [.int what, .int 0, .int 1]) (rest := []) ⟨hx, hb, hml, hown, hts⟩ (c_X12_in l D cI cZ cT what 0 1) (va_cwS 3 hts gX12_toWrite_X12_in rfl rfl rfl (by decide +kernel) ⟨(Nat.le_of_ble_eq_true rfl), (Nat.le_of_ble_eq_true rfl)⟩) (b_pS0 hK) rfl rfl hl.1 rfl (lv_room (Nat.le_of_ble_eq_true rfl)) dX12_toWrite_21 ⟨Nat.zero_le _, Nat.zero_le _⟩).run ?_
      refine b_ifne (tgt := 30) hx hb dX12_toWrite_24 (by decide) (fun c3 => ?_) (fun c3 => ?_)
      · obtain ⟨r, hh_r, rfl⟩ : ∃ r : Nat, r ≤ 5 ∧ reader = nI r := i_rd hW c1
        have hl : lv_has ls 11 [(0, .ref (A0 0)), (1, .int (nI (r))), (2, .int deeds), (3, .int what)] := hl
        have htr : tn (nI r) = r := tn_nI hh_r
        refine lv_aload_n hx hb dX12_toWrite_30 rfl (lv_at hl 0 rfl) ?_
        refine lv_iload_n hx hb dX12_toWrite_31 rfl (lv_at hl 1 rfl) ?_
        refine b_call (va_runV (As := [.int (nI (r))]) (rest := []) ⟨hx, hb, hml, hown, hts⟩ (c_X12_lives l D cI cZ cT A0 ss tp fk fp ap sp tk vl ac tr la ma it sr bt nw dr pa im kp tc r (by omega)) (cwV 1 hts gX12_toWrite_X12_lives rfl rfl rfl (by decide +kernel) ⟨(Nat.le_of_ble_eq_true rfl), (Nat.le_of_ble_eq_true rfl)⟩) (b_pV hK hP [0, 1, 2, 3, 4, 5, 6, 7, 8, 9, 10, 11] rfl 0 rfl rfl) rfl rfl hl.1 rfl (lv_room (Nat.le_of_ble_eq_true rfl)) dX12_toWrite_32 ⟨Nat.zero_le _, Nat.zero_le _⟩).run ?_
        refine b_ifne (tgt := 41) hx hb dX12_toWrite_35 (by decide) (fun c4 => ?_) (fun c4 => ?_)
        · refine lv_iconst (v := (nI 4)) hx hb dX12_toWrite_41 (by decide) ?_
          refine lv_iconst (v := (nI 4)) hx hb dX12_toWrite_42 (by decide) ?_
          refine lv_iload_n hx hb dX12_toWrite_43 rfl (lv_at hl 1 rfl) ?_
          refine b_mul hx hb dX12_toWrite_44 ?_
          refine b_add hx hb dX12_toWrite_45 ?_
          refine lv_istore (lv' := [(4, .int (nI (4 + (4 * r)))), (0, .ref (A0 0)), (1, .int (nI (r))), (2, .int deeds), (3, .int what)]) hx hb dX12_toWrite_46 hl (by decide) rfl (fun ls hl => ?_)
          refine lv_ldc (v := (-1000000)) hx hb hown (hts (.constant RX12 44 (-1000000)) (List.mem_of_getElem? (i := 3) rfl)) dX12_toWrite_48 ?_
          refine lv_istore (lv' := [(5, .int (-1000000)), (4, .int (nI (4 + (4 * r)))), (0, .ref (A0 0)), (1, .int (nI (r))), (2, .int deeds), (3, .int what)]) hx hb dX12_toWrite_50 hl (by decide) rfl (fun ls hl => ?_)
          refine lv_ldc (v := (-1000000)) hx hb hown (hts (.constant RX12 44 (-1000000)) (List.mem_of_getElem? (i := 3) rfl)) dX12_toWrite_52 ?_
          refine lv_istore (lv' := [(6, .int (-1000000)), (5, .int (-1000000)), (4, .int (nI (4 + (4 * r)))), (0, .ref (A0 0)), (1, .int (nI (r))), (2, .int deeds), (3, .int what)]) hx hb dX12_toWrite_54 hl (by decide) rfl (fun ls hl => ?_)
          refine lv_iconst (v := (nI 0)) hx hb dX12_toWrite_56 (by decide) ?_
          refine lv_istore (lv' := [(7, .int (nI 0)), (6, .int (-1000000)), (5, .int (-1000000)), (4, .int (nI (4 + (4 * r)))), (0, .ref (A0 0)), (1, .int (nI (r))), (2, .int deeds), (3, .int what)]) hx hb dX12_toWrite_57 hl (by decide) rfl (fun ls hl => ?_)
          refine b_loopR (N := 64) (I := fun k ls => lv_has ls 11 [(7, .int (nI (k))), (5, .int ((twB nw r deeds k).1)), (6, .int ((twB nw r deeds k).2)), (0, .ref (A0 0)), (1, .int (nI (r))), (2, .int deeds), (3, .int what), (4, .int (nI (4 + (4 * r))))]) (fun k hk ih5 ls hI => ?_) 0 (by omega) (lv_sub hl [0, 2, 1, 4, 5, 6, 7, 3] rfl)
          have hl := hI
          have hl : lv_has ls 11 [(7, .int (nI (k))), (5, .int ((twB nw r deeds k).1)), (6, .int ((twB nw r deeds k).2)), (0, .ref (A0 0)), (1, .int (nI (r))), (2, .int deeds), (3, .int what), (4, .int (nI (4 + (4 * r))))] := hl
          refine lv_iload hx hb dX12_toWrite_59 (lv_at hl 0 rfl) ?_
          refine lv_bipush (v := (nI 64)) hx hb dX12_toWrite_61 (by decide) ?_
          refine b_ge (tgt := 167) hx hb (by omega) (by omega) dX12_toWrite_63 (by decide) (fun c6 => ?_) (fun c6 => ?_)
          · have h_k : 64 = k := by omega
            subst h_k
            refine lv_iload_n hx hb dX12_toWrite_167 rfl (lv_at hl 6 rfl) ?_
            refine lv_if_ne (tgt := 176) hx hb dX12_toWrite_168 (by decide) (fun c7 => ?_) (fun c7 => ?_)
            · refine lv_iload hx hb dX12_toWrite_176 (lv_at hl 1 rfl) ?_
              exact b_ret hx hb hr (by first | (simp only [m_toWrite, eq_true c1, eq_true c2, eq_true c3, eq_true c4, eq_true c6, eq_false c7, htr, bI, not_true_eq_false, not_false_eq_true, ite_true, ite_false, if_true, if_false, and_self, and_true, true_and, false_and, and_false, eq_self]; done) | (simp [m_toWrite, eq_true c1, eq_true c2, eq_true c3, eq_true c4, eq_true c6, eq_false c7, htr, bI]; done)) dX12_toWrite_178 hlocks
            · refine lv_iload hx hb dX12_toWrite_171 (lv_at hl 2 rfl) ?_
              refine lv_goto (tgt := 178) hx hb dX12_toWrite_173 (by decide) ?_
              exact b_ret hx hb hr (by first | (simp only [m_toWrite, eq_true c1, eq_true c2, eq_true c3, eq_true c4, eq_true c6, eq_true c7, htr, bI, not_true_eq_false, not_false_eq_true, ite_true, ite_false, if_true, if_false, and_self, and_true, true_and, false_and, and_false, eq_self]; done) | (simp [m_toWrite, eq_true c1, eq_true c2, eq_true c3, eq_true c4, eq_true c6, eq_true c7, htr, bI]; done)) dX12_toWrite_178 hlocks
          · refine lv_aload_n hx hb dX12_toWrite_66 rfl (lv_at hl 3 rfl) ?_
            refine lv_iload_n hx hb dX12_toWrite_67 rfl (lv_at hl 4 rfl) ?_
            refine lv_aload_n hx hb dX12_toWrite_68 rfl (lv_at hl 3 rfl) ?_
            refine va_get (D := D) (ci := 11) (v := .ref (A0 6)) (C := RX12) (T := TX12) (N := 21) hx hb hts u_X12_toWrite_X12 hown hK.1 hP 0 rfl rfl 13 (by decide) (hts (.fieldLink RX12 25 "NoticeWeekModel" "now" "[I") (List.mem_of_getElem? (i := 4) rfl)) (fun _ h9 => h9) rfl dX12_toWrite_69 ?_
            refine lv_iload hx hb dX12_toWrite_72 (lv_at hl 7 rfl) ?_
            refine b_ald hx hb hK hP 6 rfl (by omega) (by decide) dX12_toWrite_74 ?_
            refine lv_aload_n hx hb dX12_toWrite_75 rfl (lv_at hl 3 rfl) ?_
            refine va_get (D := D) (ci := 11) (v := .ref (A0 6)) (C := RX12) (T := TX12) (N := 21) hx hb hts u_X12_toWrite_X12 hown hK.1 hP 0 rfl rfl 13 (by decide) (hts (.fieldLink RX12 25 "NoticeWeekModel" "now" "[I") (List.mem_of_getElem? (i := 4) rfl)) (fun _ h9 => h9) rfl dX12_toWrite_76 ?_
            refine lv_iload hx hb dX12_toWrite_79 (lv_at hl 7 rfl) ?_
            refine lv_iconst (v := (nI 1)) hx hb dX12_toWrite_81 (by decide) ?_
            refine b_add hx hb dX12_toWrite_82 ?_
            refine b_ald hx hb hK hP 6 rfl (by omega) (by decide) dX12_toWrite_83 ?_
            refine lv_iload hx hb dX12_toWrite_84 (lv_at hl 0 rfl) ?_
            refine lv_bipush (v := (nI 60)) hx hb dX12_toWrite_86 (by decide) ?_
            refine b_call (va_runV (As := [.int (nI (r)), .int (nw (4 + (4 * r))), .int (nw (4 + (4 * r) + 1)), .int (nI (k)), .int (nI 60)]) (rest := []) ⟨hx, hb, hml, hown, hts⟩ (c_X12_doneIn l D cI cZ cT A0 ss tp fk fp ap sp tk vl ac tr la ma it sr bt nw dr pa im kp tc r (nw (4 + (4 * r))) (nw (4 + (4 * r) + 1)) (nI (k)) 60 n (by omega) (by omega) hW) (cwV 5 hts gX12_toWrite_X12_doneIn rfl rfl rfl (by decide +kernel) ⟨(Nat.le_of_ble_eq_true rfl), (Nat.le_of_ble_eq_true rfl)⟩) (b_pV hK hP [0, 1, 2, 3, 4, 5, 6, 7, 8, 9, 10, 11] rfl 0 rfl rfl) rfl rfl hl.1 rfl (lv_room (Nat.le_of_ble_eq_true rfl)) dX12_toWrite_88 ⟨Nat.zero_le _, Nat.zero_le _⟩).run ?_
            refine lv_topi (fun x8 ex8 => ?_)
            refine lv_istore (lv' := [(8, .int x8), (7, .int (nI (k))), (5, .int ((twB nw r deeds k).1)), (6, .int ((twB nw r deeds k).2)), (0, .ref (A0 0)), (1, .int (nI (r))), (2, .int deeds), (3, .int what), (4, .int (nI (4 + (4 * r))))]) hx hb dX12_toWrite_91 hl (by decide) rfl (fun ls hl => ?_)
            have hx8 : x8 = twD nw r k := by subst ex8; rfl
            rw [hx8] at hl
            have hl : lv_has ls 11 [(8, .int (twD nw r k)), (7, .int (nI (k))), (5, .int ((twB nw r deeds k).1)), (6, .int ((twB nw r deeds k).2)), (0, .ref (A0 0)), (1, .int (nI (r))), (2, .int deeds), (3, .int what), (4, .int (nI (4 + (4 * r))))] := hl
            refine lv_iload hx hb dX12_toWrite_93 (lv_at hl 0 rfl) ?_
            refine lv_iload hx hb dX12_toWrite_95 (lv_at hl 1 rfl) ?_
            refine lv_ixor hx hb dX12_toWrite_97 ?_
            refine b_call (va_runS (As := [.int ((twD nw r k) ^^^ (nI (k)))]) (rest := []) ⟨hx, hb, hml, hown, hts⟩ (c_X12_ones l D cI cZ cT ((twD nw r k) ^^^ (nI (k)))) (va_cwS 1 hts gX12_toWrite_X12_ones rfl rfl rfl (by decide +kernel) ⟨(Nat.le_of_ble_eq_true rfl), (Nat.le_of_ble_eq_true rfl)⟩) (b_pS0 hK) rfl rfl hl.1 rfl (lv_room (Nat.le_of_ble_eq_true rfl)) dX12_toWrite_98 ⟨Nat.zero_le _, Nat.zero_le _⟩).run ?_
            refine lv_topi (fun x9 ex9 => ?_)
            refine lv_istore (lv' := [(9, .int x9), (8, .int (twD nw r k)), (7, .int (nI (k))), (5, .int ((twB nw r deeds k).1)), (6, .int ((twB nw r deeds k).2)), (0, .ref (A0 0)), (1, .int (nI (r))), (2, .int deeds), (3, .int what), (4, .int (nI (4 + (4 * r))))]) hx hb dX12_toWrite_101 hl (by decide) rfl (fun ls hl => ?_)
            refine b_join (jpc := 131) (rest' := []) (P := fun v : Int32 => v = ((bI (deeds &&& (twD nw r k ^^^ (-1)) = 0 ∧ ((twB nw r deeds k).1 = -1000000 ∨ ¬ (twB nw r deeds k).2 ≤ ones8 (twD nw r k ^^^ nI k)))) : Int32)) (fun v10 ev10 => ?_) (fun K11 => ?_)
            · subst ev10
              refine lv_istore (lv' := [(10, .int (bI (deeds &&& (twD nw r k ^^^ (-1)) = 0 ∧ ((twB nw r deeds k).1 = -1000000 ∨ ¬ (twB nw r deeds k).2 ≤ ones8 (twD nw r k ^^^ nI k))))), (9, .int x9), (8, .int (twD nw r k)), (7, .int (nI (k))), (5, .int ((twB nw r deeds k).1)), (6, .int ((twB nw r deeds k).2)), (0, .ref (A0 0)), (1, .int (nI (r))), (2, .int deeds), (3, .int what), (4, .int (nI (4 + (4 * r))))]) hx hb dX12_toWrite_131 hl (by decide) rfl (fun ls hl => ?_)
              refine b_join (jpc := 145) (rest' := []) (P := fun v : Int32 => v = ((if deeds &&& (twD nw r k ^^^ (-1)) = 0 ∧ ((twB nw r deeds k).1 = -1000000 ∨ ¬ (twB nw r deeds k).2 ≤ ones8 (twD nw r k ^^^ nI k)) then nI k else (twB nw r deeds k).1) : Int32)) (fun v12 ev12 => ?_) (fun K13 => ?_)
              · subst ev12
                refine lv_topi (fun x14 ex14 => ?_)
                refine lv_istore (lv' := [(5, .int x14), (10, .int (bI (deeds &&& (twD nw r k ^^^ (-1)) = 0 ∧ ((twB nw r deeds k).1 = -1000000 ∨ ¬ (twB nw r deeds k).2 ≤ ones8 (twD nw r k ^^^ nI k))))), (9, .int x9), (8, .int (twD nw r k)), (7, .int (nI (k))), (6, .int ((twB nw r deeds k).2)), (0, .ref (A0 0)), (1, .int (nI (r))), (2, .int deeds), (3, .int what), (4, .int (nI (4 + (4 * r))))]) hx hb dX12_toWrite_145 hl (by decide) rfl (fun ls hl => ?_)
                refine b_join (jpc := 159) (rest' := []) (P := fun v : Int32 => v = ((if deeds &&& (twD nw r k ^^^ (-1)) = 0 ∧ ((twB nw r deeds k).1 = -1000000 ∨ ¬ (twB nw r deeds k).2 ≤ ones8 (twD nw r k ^^^ nI k)) then ones8 (twD nw r k ^^^ nI k) else (twB nw r deeds k).2) : Int32)) (fun v15 ev15 => ?_) (fun K16 => ?_)
                · subst ev15
                  refine lv_topi (fun x17 ex17 => ?_)
                  refine lv_istore (lv' := [(6, .int x17), (5, .int x14), (10, .int (bI (deeds &&& (twD nw r k ^^^ (-1)) = 0 ∧ ((twB nw r deeds k).1 = -1000000 ∨ ¬ (twB nw r deeds k).2 ≤ ones8 (twD nw r k ^^^ nI k))))), (9, .int x9), (8, .int (twD nw r k)), (7, .int (nI (k))), (0, .ref (A0 0)), (1, .int (nI (r))), (2, .int deeds), (3, .int what), (4, .int (nI (4 + (4 * r))))]) hx hb dX12_toWrite_159 hl (by decide) rfl (fun ls hl => ?_)
                  refine lv_iinc (v := (nI (k + 1))) (lv' := [(7, .int (nI (k + 1))), (6, .int x17), (5, .int x14), (10, .int (bI (deeds &&& (twD nw r k ^^^ (-1)) = 0 ∧ ((twB nw r deeds k).1 = -1000000 ∨ ¬ (twB nw r deeds k).2 ≤ ones8 (twD nw r k ^^^ nI k))))), (9, .int x9), (8, .int (twD nw r k)), (0, .ref (A0 0)), (1, .int (nI (r))), (2, .int deeds), (3, .int what), (4, .int (nI (4 + (4 * r))))]) hx hb dX12_toWrite_161 hl (k := 5) rfl (nI_add _ _) (by decide) rfl (fun ls hl => ?_)
                  refine lv_goto (tgt := 59) hx hb dX12_toWrite_164 (by decide) ?_
                  try subst ex17
                  try subst ex14
                  try subst ex9
                  try subst ex8
                  exact ih5 (by omega) ls (lv_sub hl [0, 2, 1, 6, 7, 8, 9, 10] rfl)
                · refine lv_iload hx hb dX12_toWrite_147 (lv_at hl 1 rfl) ?_
                  refine b_ifeq (tgt := 157) hx hb dX12_toWrite_149 (by decide) (fun c18 => ?_) (fun c18 => ?_)
                  · refine lv_iload hx hb dX12_toWrite_157 (lv_at hl 5 rfl) ?_
                    exact K16 _ (by first | with_reducible rfl | (simp only [bI, eq_true c1, eq_true c2, eq_true c3, eq_true c4, eq_true c6, eq_false c18, not_true_eq_false, not_false_eq_true, ite_true, ite_false, if_true, if_false, and_self, and_true, true_and, false_and, and_false]; done) | (simp [bI, eq_true c1, eq_true c2, eq_true c3, eq_true c4, eq_true c6, eq_false c18]; done) | omega)
                  · refine lv_iload hx hb dX12_toWrite_152 (lv_at hl 2 rfl) ?_
                    refine lv_goto (tgt := 159) hx hb dX12_toWrite_154 (by decide) ?_
                    exact K16 _ (by first | with_reducible rfl | (simp only [bI, eq_true c1, eq_true c2, eq_true c3, eq_true c4, eq_true c6, eq_true c18, not_true_eq_false, not_false_eq_true, ite_true, ite_false, if_true, if_false, and_self, and_true, true_and, false_and, and_false]; done) | (simp [bI, eq_true c1, eq_true c2, eq_true c3, eq_true c4, eq_true c6, eq_true c18]; done) | omega)
              · refine lv_iload hx hb dX12_toWrite_133 (lv_at hl 0 rfl) ?_
                refine b_ifeq (tgt := 143) hx hb dX12_toWrite_135 (by decide) (fun c19 => ?_) (fun c19 => ?_)
                · refine lv_iload hx hb dX12_toWrite_143 (lv_at hl 4 rfl) ?_
                  exact K13 _ (by first | with_reducible rfl | (simp only [bI, eq_true c1, eq_true c2, eq_true c3, eq_true c4, eq_true c6, eq_false c19, not_true_eq_false, not_false_eq_true, ite_true, ite_false, if_true, if_false, and_self, and_true, true_and, false_and, and_false]; done) | (simp [bI, eq_true c1, eq_true c2, eq_true c3, eq_true c4, eq_true c6, eq_false c19]; done) | omega)
                · refine lv_iload hx hb dX12_toWrite_138 (lv_at hl 3 rfl) ?_
                  refine lv_goto (tgt := 145) hx hb dX12_toWrite_140 (by decide) ?_
                  exact K13 _ (by first | with_reducible rfl | (simp only [bI, eq_true c1, eq_true c2, eq_true c3, eq_true c4, eq_true c6, eq_true c19, not_true_eq_false, not_false_eq_true, ite_true, ite_false, if_true, if_false, and_self, and_true, true_and, false_and, and_false]; done) | (simp [bI, eq_true c1, eq_true c2, eq_true c3, eq_true c4, eq_true c6, eq_true c19]; done) | omega)
            · have hx9 : x9 = ones8 (twD nw r k ^^^ nI k) := ex9
              rw [hx9] at hl
              have hl : lv_has ls 11 [(9, .int (ones8 (twD nw r k ^^^ nI k))), (8, .int (twD nw r k)), (7, .int (nI (k))), (5, .int ((twB nw r deeds k).1)), (6, .int ((twB nw r deeds k).2)), (0, .ref (A0 0)), (1, .int (nI (r))), (2, .int deeds), (3, .int what), (4, .int (nI (4 + (4 * r))))] := hl
              refine lv_iload_n hx hb dX12_toWrite_103 rfl (lv_at hl 7 rfl) ?_
              refine lv_iload hx hb dX12_toWrite_104 (lv_at hl 1 rfl) ?_
              refine lv_iconst (v := (-1)) hx hb dX12_toWrite_106 (by decide) ?_
              refine lv_ixor hx hb dX12_toWrite_107 ?_
              refine lv_iand hx hb dX12_toWrite_108 ?_
              refine lv_if_ne (tgt := 130) hx hb dX12_toWrite_109 (by decide) (fun c20 => ?_) (fun c20 => ?_)
              · refine lv_iconst (v := 0) hx hb dX12_toWrite_130 (by decide) ?_
                exact K11 _ (by first | with_reducible rfl | (simp only [bI, eq_true c1, eq_true c2, eq_true c3, eq_true c4, eq_true c6, eq_false c20, not_true_eq_false, not_false_eq_true, ite_true, ite_false, if_true, if_false, and_self, and_true, true_and, false_and, and_false]; done) | (simp [bI, eq_true c1, eq_true c2, eq_true c3, eq_true c4, eq_true c6, eq_false c20]; done) | omega)
              · refine lv_iload hx hb dX12_toWrite_112 (lv_at hl 3 rfl) ?_
                refine lv_ldc (v := (-1000000)) hx hb hown (hts (.constant RX12 44 (-1000000)) (List.mem_of_getElem? (i := 3) rfl)) dX12_toWrite_114 ?_
                refine lv_icmp_eq (tgt := 126) hx hb dX12_toWrite_116 (by decide) (fun c21 => ?_) (fun c21 => ?_)
                · refine lv_iconst (v := 1) hx hb dX12_toWrite_126 (by decide) ?_
                  refine lv_goto (tgt := 131) hx hb dX12_toWrite_127 (by decide) ?_
                  exact K11 _ (by first | with_reducible rfl | (simp only [bI, eq_true c1, eq_true c2, eq_true c3, eq_true c4, eq_true c6, eq_true c20, eq_true c21, not_true_eq_false, not_false_eq_true, ite_true, ite_false, if_true, if_false, and_self, and_true, true_and, false_and, and_false]; done) | (simp [bI, eq_true c1, eq_true c2, eq_true c3, eq_true c4, eq_true c6, eq_true c20, eq_true c21]; done) | omega)
                · refine lv_iload hx hb dX12_toWrite_119 (lv_at hl 0 rfl) ?_
                  refine lv_iload hx hb dX12_toWrite_121 (lv_at hl 4 rfl) ?_
                  refine lv_icmp_ge (tgt := 130) hx hb dX12_toWrite_123 (by decide) (fun c22 => ?_) (fun c22 => ?_)
                  · refine lv_iconst (v := 0) hx hb dX12_toWrite_130 (by decide) ?_
                    exact K11 _ (by first | with_reducible rfl | (simp only [bI, eq_true c1, eq_true c2, eq_true c3, eq_true c4, eq_true c6, eq_true c20, eq_false c21, eq_true c22, not_true_eq_false, not_false_eq_true, ite_true, ite_false, if_true, if_false, and_self, and_true, true_and, false_and, and_false]; done) | (simp [bI, eq_true c1, eq_true c2, eq_true c3, eq_true c4, eq_true c6, eq_true c20, eq_false c21, eq_true c22]; done) | omega)
                  · refine lv_iconst (v := 1) hx hb dX12_toWrite_126 (by decide) ?_
                    refine lv_goto (tgt := 131) hx hb dX12_toWrite_127 (by decide) ?_
                    exact K11 _ (by first | with_reducible rfl | (simp only [bI, eq_true c1, eq_true c2, eq_true c3, eq_true c4, eq_true c6, eq_true c20, eq_false c21, eq_false c22, not_true_eq_false, not_false_eq_true, ite_true, ite_false, if_true, if_false, and_self, and_true, true_and, false_and, and_false]; done) | (simp [bI, eq_true c1, eq_true c2, eq_true c3, eq_true c4, eq_true c6, eq_true c20, eq_false c21, eq_false c22]; done) | omega)
        · refine lv_ldc (v := (-1000002)) hx hb hown (hts (.constant RX12 159 (-1000002)) (List.mem_of_getElem? (i := 2) rfl)) dX12_toWrite_38 ?_
          exact b_ret hx hb hr (by first | (simp only [m_toWrite, eq_true c1, eq_true c2, eq_true c3, eq_false c4, htr, bI, not_true_eq_false, not_false_eq_true, ite_true, ite_false, if_true, if_false, and_self, and_true, true_and, false_and, and_false, eq_self]; done) | (simp [m_toWrite, eq_true c1, eq_true c2, eq_true c3, eq_false c4, htr, bI]; done)) dX12_toWrite_40 hlocks
      · refine lv_ldc (v := (-1000001)) hx hb hown (hts (.constant RX12 58 (-1000001)) (List.mem_of_getElem? (i := 1) rfl)) dX12_toWrite_27 ?_
        exact b_ret hx hb hr (by first | (simp only [m_toWrite, eq_true c1, eq_true c2, eq_false c3, bI, not_true_eq_false, not_false_eq_true, ite_true, ite_false, if_true, if_false, and_self, and_true, true_and, false_and, and_false, eq_self]; done) | (simp [m_toWrite, eq_true c1, eq_true c2, eq_false c3, bI]; done)) dX12_toWrite_29 hlocks
theorem u_X12_toDeny_X12 : ∀ w ∈ wsX120, w ∈ wsX12_toDeny := fun _ h => List.mem_cons_of_mem _ (List.mem_append_right _ h)
set_option maxHeartbeats 4000000 in
set_option maxRecDepth 100000 in
theorem c_X12_toDeny (l : Launch) (D : va_G) (cI cZ cT : ClassId) (A0 : Nat → Nat) (ss tp fk fp ap sp tk vl ac tr : Int32) (la ma it sr bt nw dr pa im kp tc : Nat → Int32) (reader what : Int32) (n : Nat) (hW : TK nw n) : Met l yX12_toDeny wsX12_toDeny ({ frames := 4, cells := 0, slots := 0, locals := 95 }) (pR D cI cZ cT [.ref (A0 0), .int reader, .int what] (wM cI cZ A0 ss tp fk fp ap sp tk vl ac tr la ma it sr bt nw dr pa im kp tc)) (QcRead (m_toDeny nw reader what)) 0 0 (fun _ => False) := by
  refine Met.ofW (cc := cX12_toDeny) (maxL := 8) (ret := (some .int)) (by decide) rfl ?_
  intro p e s m args below meth c s₁ B hml hv
  obtain ⟨rfl, hP, hK⟩ := hv
  have hx := B.exec
  have hb := B.bytes
  have hr := B.returns
  have hts := atoms_spec (ws := wsX12_toDeny) B.pre
  have hown : s.vm.findClass RX12 = some m.cls := findClass_of_methodNamed B.named
  have hlocks := B.notSynchronized
  have hl := lv_entry ([.ref (A0 0), .int reader, .int what]) (n := 8) (Nat.le_of_ble_eq_true rfl)
  rw [lg_entry_eq]
  generalize (lg_sl ([.ref (A0 0), .int reader, .int what]) ++ List.replicate (8 - (lg_sl ([.ref (A0 0), .int reader, .int what])).length) Slot.unset).toArray = ls at hl ⊢
  have hl : lv_has ls 8 [(0, .ref (A0 0)), (1, .int reader), (2, .int what)] := hl
  refine lv_aload_n hx hb dX12_toDeny_0 rfl (lv_at hl 0 rfl) ?_
  refine lv_iload_n hx hb dX12_toDeny_1 rfl (lv_at hl 1 rfl) ?_
  refine b_call (va_runV (As := [.int reader]) (rest := []) ⟨hx, hb, hml, hown, hts⟩ (c_X12_isReader l D cI cZ cT A0 ss tp fk fp ap sp tk vl ac tr la ma it sr bt nw dr pa im kp tc reader) (cwV 1 hts gX12_toDeny_X12_isReader rfl rfl rfl (by decide +kernel) ⟨(Nat.le_of_ble_eq_true rfl), (Nat.le_of_ble_eq_true rfl)⟩) (b_pV hK hP [0, 1, 2, 3, 4, 5, 6, 7, 8, 9, 10, 11] rfl 0 rfl rfl) rfl rfl hl.1 rfl (lv_room (Nat.le_of_ble_eq_true rfl)) dX12_toDeny_2 ⟨Nat.zero_le _, Nat.zero_le _⟩).run ?_
  refine b_ifeq (tgt := 17) hx hb dX12_toDeny_5 (by decide) (fun c1 => ?_) (fun c1 => ?_)
  · refine lv_ldc (v := (-1000001)) hx hb hown (hts (.constant RX12 58 (-1000001)) (List.mem_of_getElem? (i := 1) rfl)) dX12_toDeny_17 ?_
    exact b_ret hx hb hr (by first | (simp only [m_toDeny, eq_false c1, bI, not_true_eq_false, not_false_eq_true, ite_true, ite_false, if_true, if_false, and_self, and_true, true_and, false_and, and_false, eq_self]; done) | (simp [m_toDeny, eq_false c1, bI]; done)) dX12_toDeny_19 hlocks
  · refine lv_iload_n hx hb dX12_toDeny_8 rfl (lv_at hl 2 rfl) ?_
    refine lv_iconst (v := 0) hx hb dX12_toDeny_9 (by decide) ?_
    refine lv_iconst (v := 1) hx hb dX12_toDeny_10 (by decide) ?_
    refine b_call (va_runS (As := [.int what, .int 0, .int 1]) (rest := []) ⟨hx, hb, hml, hown, hts⟩ (c_X12_in l D cI cZ cT what 0 1) (va_cwS 3 hts gX12_toDeny_X12_in rfl rfl rfl (by decide +kernel) ⟨(Nat.le_of_ble_eq_true rfl), (Nat.le_of_ble_eq_true rfl)⟩) (b_pS0 hK) rfl rfl hl.1 rfl (lv_room (Nat.le_of_ble_eq_true rfl)) dX12_toDeny_11 ⟨Nat.zero_le _, Nat.zero_le _⟩).run ?_
    refine b_ifne (tgt := 20) hx hb dX12_toDeny_14 (by decide) (fun c2 => ?_) (fun c2 => ?_)
    · obtain ⟨r, hh_r, rfl⟩ : ∃ r : Nat, r ≤ 5 ∧ reader = nI r := i_rd hW c1
      have hl : lv_has ls 8 [(0, .ref (A0 0)), (1, .int (nI (r))), (2, .int what)] := hl
      have htr : tn (nI r) = r := tn_nI hh_r
      refine lv_iconst (v := (nI 4)) hx hb dX12_toDeny_20 (by decide) ?_
      refine lv_iconst (v := (nI 4)) hx hb dX12_toDeny_21 (by decide) ?_
      refine lv_iload_n hx hb dX12_toDeny_22 rfl (lv_at hl 1 rfl) ?_
      refine b_mul hx hb dX12_toDeny_23 ?_
      refine b_add hx hb dX12_toDeny_24 ?_
      refine lv_istore_n (lv' := [(3, .int (nI (4 + (4 * r)))), (0, .ref (A0 0)), (1, .int (nI (r))), (2, .int what)]) hx hb dX12_toDeny_25 rfl hl (by decide) rfl (fun ls hl => ?_)
      refine lv_ldc (v := (-1000000)) hx hb hown (hts (.constant RX12 44 (-1000000)) (List.mem_of_getElem? (i := 2) rfl)) dX12_toDeny_26 ?_
      refine lv_istore (lv' := [(4, .int (-1000000)), (3, .int (nI (4 + (4 * r)))), (0, .ref (A0 0)), (1, .int (nI (r))), (2, .int what)]) hx hb dX12_toDeny_28 hl (by decide) rfl (fun ls hl => ?_)
      refine lv_iconst (v := (nI 0)) hx hb dX12_toDeny_30 (by decide) ?_
      refine lv_istore (lv' := [(5, .int (nI 0)), (4, .int (-1000000)), (3, .int (nI (4 + (4 * r)))), (0, .ref (A0 0)), (1, .int (nI (r))), (2, .int what)]) hx hb dX12_toDeny_31 hl (by decide) rfl (fun ls hl => ?_)
      refine b_loopR (N := 64) (I := fun k ls => lv_has ls 8 [(5, .int (nI (k))), (4, .int (tdB nw r k)), (0, .ref (A0 0)), (1, .int (nI (r))), (2, .int what), (3, .int (nI (4 + (4 * r))))]) (fun k hk ih3 ls hI => ?_) 0 (by omega) (lv_sub hl [0, 1, 3, 4, 5, 2] rfl)
      have hl := hI
      have hl : lv_has ls 8 [(5, .int (nI (k))), (4, .int (tdB nw r k)), (0, .ref (A0 0)), (1, .int (nI (r))), (2, .int what), (3, .int (nI (4 + (4 * r))))] := hl
      refine lv_iload hx hb dX12_toDeny_33 (lv_at hl 0 rfl) ?_
      refine lv_bipush (v := (nI 64)) hx hb dX12_toDeny_35 (by decide) ?_
      refine b_ge (tgt := 152) hx hb (by omega) (by omega) dX12_toDeny_37 (by decide) (fun c4 => ?_) (fun c4 => ?_)
      · have h_k : 64 = k := by omega
        subst h_k
        refine lv_iload hx hb dX12_toDeny_152 (lv_at hl 1 rfl) ?_
        refine lv_ldc (v := (-1000000)) hx hb hown (hts (.constant RX12 44 (-1000000)) (List.mem_of_getElem? (i := 2) rfl)) dX12_toDeny_154 ?_
        refine lv_icmp_eq (tgt := 164) hx hb dX12_toDeny_156 (by decide) (fun c5 => ?_) (fun c5 => ?_)
        · refine lv_iload hx hb dX12_toDeny_164 (lv_at hl 1 rfl) ?_
          refine lv_goto (tgt := 174) hx hb dX12_toDeny_166 (by decide) ?_
          exact b_ret hx hb hr (by first | (simp only [m_toDeny, eq_true c1, eq_true c2, eq_true c4, eq_true c5, htr, bI, not_true_eq_false, not_false_eq_true, ite_true, ite_false, if_true, if_false, and_self, and_true, true_and, false_and, and_false, eq_self]; done) | (simp [m_toDeny, eq_true c1, eq_true c2, eq_true c4, eq_true c5, htr, bI]; done)) dX12_toDeny_174 hlocks
        · refine lv_iload_n hx hb dX12_toDeny_159 rfl (lv_at hl 4 rfl) ?_
          refine lv_iconst (v := 1) hx hb dX12_toDeny_160 (by decide) ?_
          refine lv_icmp_ne (tgt := 169) hx hb dX12_toDeny_161 (by decide) (fun c6 => ?_) (fun c6 => ?_)
          · refine lv_iload hx hb dX12_toDeny_169 (lv_at hl 1 rfl) ?_
            refine b_call (va_runS (As := [.int (tdB nw r 64)]) (rest := []) ⟨hx, hb, hml, hown, hts⟩ (c_X12_ones l D cI cZ cT (tdB nw r 64)) (va_cwS 1 hts gX12_toDeny_X12_ones rfl rfl rfl (by decide +kernel) ⟨(Nat.le_of_ble_eq_true rfl), (Nat.le_of_ble_eq_true rfl)⟩) (b_pS0 hK) rfl rfl hl.1 rfl (lv_room (Nat.le_of_ble_eq_true rfl)) dX12_toDeny_171 ⟨Nat.zero_le _, Nat.zero_le _⟩).run ?_
            exact b_ret hx hb hr (by first | (simp only [m_toDeny, eq_true c1, eq_true c2, eq_true c4, eq_false c5, eq_false c6, htr, bI, not_true_eq_false, not_false_eq_true, ite_true, ite_false, if_true, if_false, and_self, and_true, true_and, false_and, and_false, eq_self]; done) | (simp [m_toDeny, eq_true c1, eq_true c2, eq_true c4, eq_false c5, eq_false c6, htr, bI]; done)) dX12_toDeny_174 hlocks
          · refine lv_iload hx hb dX12_toDeny_164 (lv_at hl 1 rfl) ?_
            refine lv_goto (tgt := 174) hx hb dX12_toDeny_166 (by decide) ?_
            exact b_ret hx hb hr (by first | (simp only [m_toDeny, eq_true c1, eq_true c2, eq_true c4, eq_false c5, eq_true c6, htr, bI, not_true_eq_false, not_false_eq_true, ite_true, ite_false, if_true, if_false, and_self, and_true, true_and, false_and, and_false, eq_self]; done) | (simp [m_toDeny, eq_true c1, eq_true c2, eq_true c4, eq_false c5, eq_true c6, htr, bI]; done)) dX12_toDeny_174 hlocks
      · refine lv_aload_n hx hb dX12_toDeny_40 rfl (lv_at hl 2 rfl) ?_
        refine lv_iload_n hx hb dX12_toDeny_41 rfl (lv_at hl 3 rfl) ?_
        refine lv_aload_n hx hb dX12_toDeny_42 rfl (lv_at hl 2 rfl) ?_
        refine va_get (D := D) (ci := 11) (v := .ref (A0 6)) (C := RX12) (T := TX12) (N := 21) hx hb hts u_X12_toDeny_X12 hown hK.1 hP 0 rfl rfl 13 (by decide) (hts (.fieldLink RX12 25 "NoticeWeekModel" "now" "[I") (List.mem_of_getElem? (i := 3) rfl)) (fun _ h9 => h9) rfl dX12_toDeny_43 ?_
        refine lv_iload_n hx hb dX12_toDeny_46 rfl (lv_at hl 5 rfl) ?_
        refine b_ald hx hb hK hP 6 rfl (by omega) (by decide) dX12_toDeny_47 ?_
        refine lv_aload_n hx hb dX12_toDeny_48 rfl (lv_at hl 2 rfl) ?_
        refine va_get (D := D) (ci := 11) (v := .ref (A0 6)) (C := RX12) (T := TX12) (N := 21) hx hb hts u_X12_toDeny_X12 hown hK.1 hP 0 rfl rfl 13 (by decide) (hts (.fieldLink RX12 25 "NoticeWeekModel" "now" "[I") (List.mem_of_getElem? (i := 3) rfl)) (fun _ h9 => h9) rfl dX12_toDeny_49 ?_
        refine lv_iload_n hx hb dX12_toDeny_52 rfl (lv_at hl 5 rfl) ?_
        refine lv_iconst (v := (nI 1)) hx hb dX12_toDeny_53 (by decide) ?_
        refine b_add hx hb dX12_toDeny_54 ?_
        refine b_ald hx hb hK hP 6 rfl (by omega) (by decide) dX12_toDeny_55 ?_
        refine lv_iload hx hb dX12_toDeny_56 (lv_at hl 0 rfl) ?_
        refine lv_iconst (v := (-1)) hx hb dX12_toDeny_58 (by decide) ?_
        refine lv_ixor hx hb dX12_toDeny_59 ?_
        refine lv_iand hx hb dX12_toDeny_60 ?_
        refine lv_aload_n hx hb dX12_toDeny_61 rfl (lv_at hl 2 rfl) ?_
        refine va_get (D := D) (ci := 11) (v := .ref (A0 6)) (C := RX12) (T := TX12) (N := 21) hx hb hts u_X12_toDeny_X12 hown hK.1 hP 0 rfl rfl 13 (by decide) (hts (.fieldLink RX12 25 "NoticeWeekModel" "now" "[I") (List.mem_of_getElem? (i := 3) rfl)) (fun _ h9 => h9) rfl dX12_toDeny_62 ?_
        refine lv_iload_n hx hb dX12_toDeny_65 rfl (lv_at hl 5 rfl) ?_
        refine lv_iconst (v := (nI 2)) hx hb dX12_toDeny_66 (by decide) ?_
        refine b_add hx hb dX12_toDeny_67 ?_
        refine b_ald hx hb hK hP 6 rfl (by omega) (by decide) dX12_toDeny_68 ?_
        refine lv_bipush (v := (nI 60)) hx hb dX12_toDeny_69 (by decide) ?_
        refine b_call (va_runV (As := [.int (nI (r)), .int (nw (4 + (4 * r))), .int ((nw (4 + (4 * r) + 1)) &&& ((nI (k)) ^^^ (-1))), .int (nw (4 + (4 * r) + 2)), .int (nI 60)]) (rest := []) ⟨hx, hb, hml, hown, hts⟩ (c_X12_doneIn l D cI cZ cT A0 ss tp fk fp ap sp tk vl ac tr la ma it sr bt nw dr pa im kp tc r (nw (4 + (4 * r))) ((nw (4 + (4 * r) + 1)) &&& ((nI (k)) ^^^ (-1))) (nw (4 + (4 * r) + 2)) 60 n (by omega) (by omega) hW) (cwV 5 hts gX12_toDeny_X12_doneIn rfl rfl rfl (by decide +kernel) ⟨(Nat.le_of_ble_eq_true rfl), (Nat.le_of_ble_eq_true rfl)⟩) (b_pV hK hP [0, 1, 2, 3, 4, 5, 6, 7, 8, 9, 10, 11] rfl 0 rfl rfl) rfl rfl hl.1 rfl (lv_room (Nat.le_of_ble_eq_true rfl)) dX12_toDeny_71 ⟨Nat.zero_le _, Nat.zero_le _⟩).run ?_
        refine lv_topi (fun x7 ex7 => ?_)
        refine lv_istore (lv' := [(6, .int x7), (5, .int (nI (k))), (4, .int (tdB nw r k)), (0, .ref (A0 0)), (1, .int (nI (r))), (2, .int what), (3, .int (nI (4 + (4 * r))))]) hx hb dX12_toDeny_74 hl (by decide) rfl (fun ls hl => ?_)
        refine b_join (jpc := 110) (rest' := []) (P := fun v : Int32 => v = ((bI (nI k &&& (nw (4 + 4 * r + 1) ^^^ (-1)) = 0 ∧ tdD nw r k = nw (4 + 4 * r + 2))) : Int32)) (fun v8 ev8 => ?_) (fun K9 => ?_)
        · subst ev8
          refine lv_istore (lv' := [(7, .int (bI (nI k &&& (nw (4 + 4 * r + 1) ^^^ (-1)) = 0 ∧ tdD nw r k = nw (4 + 4 * r + 2)))), (6, .int x7), (5, .int (nI (k))), (4, .int (tdB nw r k)), (0, .ref (A0 0)), (1, .int (nI (r))), (2, .int what), (3, .int (nI (4 + (4 * r))))]) hx hb dX12_toDeny_110 hl (by decide) rfl (fun ls hl => ?_)
          refine b_join (jpc := 144) (rest' := []) (P := fun v : Int32 => v = ((if (nI k &&& (nw (4 + 4 * r + 1) ^^^ (-1)) = 0 ∧ tdD nw r k = nw (4 + 4 * r + 2)) ∧ ((tdB nw r k) = -1000000 ∨ ¬ ones8 (tdB nw r k) ≤ ones8 (nI k)) then nI k else (tdB nw r k)) : Int32)) (fun v10 ev10 => ?_) (fun K11 => ?_)
          · subst ev10
            refine lv_topi (fun x12 ex12 => ?_)
            refine lv_istore (lv' := [(4, .int x12), (7, .int (bI (nI k &&& (nw (4 + 4 * r + 1) ^^^ (-1)) = 0 ∧ tdD nw r k = nw (4 + 4 * r + 2)))), (6, .int x7), (5, .int (nI (k))), (0, .ref (A0 0)), (1, .int (nI (r))), (2, .int what), (3, .int (nI (4 + (4 * r))))]) hx hb dX12_toDeny_144 hl (by decide) rfl (fun ls hl => ?_)
            refine lv_iinc (v := (nI (k + 1))) (lv' := [(5, .int (nI (k + 1))), (4, .int x12), (7, .int (bI (nI k &&& (nw (4 + 4 * r + 1) ^^^ (-1)) = 0 ∧ tdD nw r k = nw (4 + 4 * r + 2)))), (6, .int x7), (0, .ref (A0 0)), (1, .int (nI (r))), (2, .int what), (3, .int (nI (4 + (4 * r))))]) hx hb dX12_toDeny_146 hl (k := 3) rfl (nI_add _ _) (by decide) rfl (fun ls hl => ?_)
            refine lv_goto (tgt := 33) hx hb dX12_toDeny_149 (by decide) ?_
            try subst ex12
            try subst ex7
            exact ih3 (by omega) ls (lv_sub hl [0, 1, 4, 5, 6, 7] rfl)
          · refine lv_iload hx hb dX12_toDeny_112 (lv_at hl 0 rfl) ?_
            refine b_ifeq (tgt := 142) hx hb dX12_toDeny_114 (by decide) (fun c13 => ?_) (fun c13 => ?_)
            · refine lv_iload hx hb dX12_toDeny_142 (lv_at hl 3 rfl) ?_
              exact K11 _ (by first | with_reducible rfl | (simp only [bI, eq_true c1, eq_true c2, eq_true c4, eq_false c13, not_true_eq_false, not_false_eq_true, ite_true, ite_false, if_true, if_false, and_self, and_true, true_and, false_and, and_false]; done) | (simp [bI, eq_true c1, eq_true c2, eq_true c4, eq_false c13]; done) | omega)
            · refine lv_iload hx hb dX12_toDeny_117 (lv_at hl 3 rfl) ?_
              refine lv_ldc (v := (-1000000)) hx hb hown (hts (.constant RX12 44 (-1000000)) (List.mem_of_getElem? (i := 2) rfl)) dX12_toDeny_119 ?_
              refine lv_icmp_eq (tgt := 137) hx hb dX12_toDeny_121 (by decide) (fun c14 => ?_) (fun c14 => ?_)
              · refine lv_iload hx hb dX12_toDeny_137 (lv_at hl 2 rfl) ?_
                refine lv_goto (tgt := 144) hx hb dX12_toDeny_139 (by decide) ?_
                exact K11 _ (by first | with_reducible rfl | (simp only [bI, eq_true c1, eq_true c2, eq_true c4, eq_true c13, eq_true c14, not_true_eq_false, not_false_eq_true, ite_true, ite_false, if_true, if_false, and_self, and_true, true_and, false_and, and_false]; done) | (simp [bI, eq_true c1, eq_true c2, eq_true c4, eq_true c13, eq_true c14]; done) | omega)
              · refine lv_iload hx hb dX12_toDeny_124 (lv_at hl 2 rfl) ?_
                refine b_call (va_runS (As := [.int (nI (k))]) (rest := []) ⟨hx, hb, hml, hown, hts⟩ (c_X12_ones l D cI cZ cT (nI (k))) (va_cwS 1 hts gX12_toDeny_X12_ones rfl rfl rfl (by decide +kernel) ⟨(Nat.le_of_ble_eq_true rfl), (Nat.le_of_ble_eq_true rfl)⟩) (b_pS0 hK) rfl rfl hl.1 rfl (lv_room (Nat.le_of_ble_eq_true rfl)) dX12_toDeny_126 ⟨Nat.zero_le _, Nat.zero_le _⟩).run ?_
                refine lv_iload hx hb dX12_toDeny_129 (lv_at hl 3 rfl) ?_
                refine b_call (va_runS (As := [.int (tdB nw r k)]) (rest := [.int (ones8 (nI (k)))]) ⟨hx, hb, hml, hown, hts⟩ (c_X12_ones l D cI cZ cT (tdB nw r k)) (va_cwS 1 hts gX12_toDeny_X12_ones rfl rfl rfl (by decide +kernel) ⟨(Nat.le_of_ble_eq_true rfl), (Nat.le_of_ble_eq_true rfl)⟩) (b_pS0 hK) rfl rfl hl.1 rfl (lv_room (Nat.le_of_ble_eq_true rfl)) dX12_toDeny_131 ⟨Nat.zero_le _, Nat.zero_le _⟩).run ?_
                refine lv_icmp_ge (tgt := 142) hx hb dX12_toDeny_134 (by decide) (fun c15 => ?_) (fun c15 => ?_)
                · refine lv_iload hx hb dX12_toDeny_142 (lv_at hl 3 rfl) ?_
                  exact K11 _ (by first | with_reducible rfl | (simp only [bI, eq_true c1, eq_true c2, eq_true c4, eq_true c13, eq_false c14, eq_true c15, not_true_eq_false, not_false_eq_true, ite_true, ite_false, if_true, if_false, and_self, and_true, true_and, false_and, and_false]; done) | (simp [bI, eq_true c1, eq_true c2, eq_true c4, eq_true c13, eq_false c14, eq_true c15]; done) | omega)
                · refine lv_iload hx hb dX12_toDeny_137 (lv_at hl 2 rfl) ?_
                  refine lv_goto (tgt := 144) hx hb dX12_toDeny_139 (by decide) ?_
                  exact K11 _ (by first | with_reducible rfl | (simp only [bI, eq_true c1, eq_true c2, eq_true c4, eq_true c13, eq_false c14, eq_false c15, not_true_eq_false, not_false_eq_true, ite_true, ite_false, if_true, if_false, and_self, and_true, true_and, false_and, and_false]; done) | (simp [bI, eq_true c1, eq_true c2, eq_true c4, eq_true c13, eq_false c14, eq_false c15]; done) | omega)
        · have hx6 : x7 = tdD nw r k := ex7
          rw [hx6] at hl
          have hl : lv_has ls 8 [(6, .int (tdD nw r k)), (5, .int (nI (k))), (4, .int (tdB nw r k)), (0, .ref (A0 0)), (1, .int (nI (r))), (2, .int what), (3, .int (nI (4 + (4 * r))))] := hl
          refine lv_iload hx hb dX12_toDeny_76 (lv_at hl 1 rfl) ?_
          refine lv_aload_n hx hb dX12_toDeny_78 rfl (lv_at hl 3 rfl) ?_
          refine va_get (D := D) (ci := 11) (v := .ref (A0 6)) (C := RX12) (T := TX12) (N := 21) hx hb hts u_X12_toDeny_X12 hown hK.1 hP 0 rfl rfl 13 (by decide) (hts (.fieldLink RX12 25 "NoticeWeekModel" "now" "[I") (List.mem_of_getElem? (i := 3) rfl)) (fun _ h9 => h9) rfl dX12_toDeny_79 ?_
          refine lv_iload_n hx hb dX12_toDeny_82 rfl (lv_at hl 6 rfl) ?_
          refine lv_iconst (v := (nI 1)) hx hb dX12_toDeny_83 (by decide) ?_
          refine b_add hx hb dX12_toDeny_84 ?_
          refine b_ald hx hb hK hP 6 rfl (by omega) (by decide) dX12_toDeny_85 ?_
          refine lv_iconst (v := (-1)) hx hb dX12_toDeny_86 (by decide) ?_
          refine lv_ixor hx hb dX12_toDeny_87 ?_
          refine lv_iand hx hb dX12_toDeny_88 ?_
          refine lv_if_ne (tgt := 109) hx hb dX12_toDeny_89 (by decide) (fun c16 => ?_) (fun c16 => ?_)
          · refine lv_iconst (v := 0) hx hb dX12_toDeny_109 (by decide) ?_
            exact K9 _ (by first | with_reducible rfl | (simp only [bI, eq_true c1, eq_true c2, eq_true c4, eq_false c16, not_true_eq_false, not_false_eq_true, ite_true, ite_false, if_true, if_false, and_self, and_true, true_and, false_and, and_false]; done) | (simp [bI, eq_true c1, eq_true c2, eq_true c4, eq_false c16]; done) | omega)
          · refine lv_iload hx hb dX12_toDeny_92 (lv_at hl 0 rfl) ?_
            refine lv_aload_n hx hb dX12_toDeny_94 rfl (lv_at hl 3 rfl) ?_
            refine va_get (D := D) (ci := 11) (v := .ref (A0 6)) (C := RX12) (T := TX12) (N := 21) hx hb hts u_X12_toDeny_X12 hown hK.1 hP 0 rfl rfl 13 (by decide) (hts (.fieldLink RX12 25 "NoticeWeekModel" "now" "[I") (List.mem_of_getElem? (i := 3) rfl)) (fun _ h9 => h9) rfl dX12_toDeny_95 ?_
            refine lv_iload_n hx hb dX12_toDeny_98 rfl (lv_at hl 6 rfl) ?_
            refine lv_iconst (v := (nI 2)) hx hb dX12_toDeny_99 (by decide) ?_
            refine b_add hx hb dX12_toDeny_100 ?_
            refine b_ald hx hb hK hP 6 rfl (by omega) (by decide) dX12_toDeny_101 ?_
            refine lv_icmp_ne (tgt := 109) hx hb dX12_toDeny_102 (by decide) (fun c17 => ?_) (fun c17 => ?_)
            · refine lv_iconst (v := 0) hx hb dX12_toDeny_109 (by decide) ?_
              exact K9 _ (by first | with_reducible rfl | (simp only [bI, eq_true c1, eq_true c2, eq_true c4, eq_true c16, eq_false c17, not_true_eq_false, not_false_eq_true, ite_true, ite_false, if_true, if_false, and_self, and_true, true_and, false_and, and_false]; done) | (simp [bI, eq_true c1, eq_true c2, eq_true c4, eq_true c16, eq_false c17]; done) | omega)
            · refine lv_iconst (v := 1) hx hb dX12_toDeny_105 (by decide) ?_
              refine lv_goto (tgt := 110) hx hb dX12_toDeny_106 (by decide) ?_
              exact K9 _ (by first | with_reducible rfl | (simp only [bI, eq_true c1, eq_true c2, eq_true c4, eq_true c16, eq_true c17, not_true_eq_false, not_false_eq_true, ite_true, ite_false, if_true, if_false, and_self, and_true, true_and, false_and, and_false]; done) | (simp [bI, eq_true c1, eq_true c2, eq_true c4, eq_true c16, eq_true c17]; done) | omega)
    · refine lv_ldc (v := (-1000001)) hx hb hown (hts (.constant RX12 58 (-1000001)) (List.mem_of_getElem? (i := 1) rfl)) dX12_toDeny_17 ?_
      exact b_ret hx hb hr (by first | (simp only [m_toDeny, eq_true c1, eq_false c2, bI, not_true_eq_false, not_false_eq_true, ite_true, ite_false, if_true, if_false, and_self, and_true, true_and, false_and, and_false, eq_self]; done) | (simp [m_toDeny, eq_true c1, eq_false c2, bI]; done)) dX12_toDeny_19 hlocks
