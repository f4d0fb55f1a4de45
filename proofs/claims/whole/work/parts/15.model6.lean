/-! MODEL: choices, asks, images, counts -/
def frS (nw : Nat → Int32) (r : Nat) (b : Int32) : Int32 := if (lvs nw r ∧ ¬ fsI nw r 60 ≤ 0) ∧ (b = -1000000 ∨ ¬ nw (4 + 4 * tn b + 3) ≤ nw (4 + 4 * r + 3)) then nI r else b
def frB (nw : Nat → Int32) (k : Nat) : Int32 := itr (fun r b => frS nw r b) k (-1000000)
theorem frB_ok {nw : Nat → Int32} : ∀ k, k ≤ 6 → frB nw k = -1000000 ∨ ∃ b : Nat, b ≤ 5 ∧ frB nw k = nI b := by
  intro k
  induction k with
  | zero => intro _; exact Or.inl rfl
  | succ k ih =>
    intro hk
    show frS nw k (frB nw k) = _ ∨ ∃ b : Nat, b ≤ 5 ∧ frS nw k (frB nw k) = nI b
    unfold frS
    split
    · exact Or.inr ⟨k, by omega, rfl⟩
    · exact ih (by omega)
abbrev cho (x : Int32) : Prop := ¬ x < 0 ∧ ¬ 1 < x
def m_first (nw : Nat → Int32) (n : Nat) (what : Int32) : Int32 :=
  if ¬ nw 0 = 1 then -1000002 else if ¬ cho what then -1000001 else if frB nw n = -1000000 then frB nw n else if what = 0 then frB nw n else nw (4 + 4 * tn (frB nw n) + 3)
def twD (nw : Nat → Int32) (r k : Nat) : Int32 := goF (nw 2) (nw (4 + 4 * r)) (nI k) (min 60 (tn (nw (4 + 4 * r + 3)))) (nw (4 + 4 * r + 1))
abbrev twP (nw : Nat → Int32) (r : Nat) (deeds : Int32) (k : Nat) (S : Int32 × Int32) : Prop := deeds &&& (twD nw r k ^^^ (-1)) = 0 ∧ (S.1 = -1000000 ∨ ¬ S.2 ≤ ones8 (twD nw r k ^^^ nI k))
def twB (nw : Nat → Int32) (r : Nat) (deeds : Int32) (k : Nat) : Int32 × Int32 := itr (fun k S => (if twP nw r deeds k S then nI k else S.1, if twP nw r deeds k S then ones8 (twD nw r k ^^^ nI k) else S.2)) k (-1000000, -1000000)
theorem twB_1 {nw : Nat → Int32} {r : Nat} {deeds : Int32} {k : Nat} : (twB nw r deeds (k + 1)).1 = if twP nw r deeds k (twB nw r deeds k) then nI k else (twB nw r deeds k).1 := rfl
theorem twB_2 {nw : Nat → Int32} {r : Nat} {deeds : Int32} {k : Nat} : (twB nw r deeds (k + 1)).2 = if twP nw r deeds k (twB nw r deeds k) then ones8 (twD nw r k ^^^ nI k) else (twB nw r deeds k).2 := rfl
def twE (nw : Nat → Int32) (r : Nat) (deeds : Int32) : Int32 × Int32 := twB nw r deeds 64
theorem twE_1 {nw : Nat → Int32} {r k : Nat} {deeds : Int32} (h : k = 64) : (twB nw r deeds k).1 = (twE nw r deeds).1 := by subst h; exact congrArg Prod.fst (Eq.refl (twE nw r deeds))
theorem twE_2 {nw : Nat → Int32} {r k : Nat} {deeds : Int32} (h : k = 64) : (twB nw r deeds k).2 = (twE nw r deeds).2 := by subst h; exact congrArg Prod.snd (Eq.refl (twE nw r deeds))
def m_toWrite (nw : Nat → Int32) (reader deeds what : Int32) : Int32 :=
  if ¬ isR nw reader then -1000001 else if ¬ (¬ deeds < 0 ∧ ¬ 63 < deeds) then -1000001 else if ¬ cho what then -1000001 else if ¬ lvs nw (tn reader) then -1000002
  else if what = 0 then (twE nw (tn reader) deeds).2 else (twE nw (tn reader) deeds).1
def tdD (nw : Nat → Int32) (r k : Nat) : Int32 := goF (nw 2) (nw (4 + 4 * r)) (nw (4 + 4 * r + 2)) (min 60 (tn (nw (4 + 4 * r + 3)))) (nw (4 + 4 * r + 1) &&& (nI k ^^^ (-1)))
abbrev tdP (nw : Nat → Int32) (r k : Nat) : Prop := nI k &&& (nw (4 + 4 * r + 1) ^^^ (-1)) = 0 ∧ tdD nw r k = nw (4 + 4 * r + 2)
def tdB (nw : Nat → Int32) (r k : Nat) : Int32 := itr (fun k b => if tdP nw r k ∧ (b = -1000000 ∨ ¬ ones8 b ≤ ones8 (nI k)) then nI k else b) k (-1000000)
def m_toDeny (nw : Nat → Int32) (reader what : Int32) : Int32 :=
  if ¬ isR nw reader then -1000001 else if ¬ cho what then -1000001
  else if tdB nw (tn reader) 64 = -1000000 then tdB nw (tn reader) 64 else if what = 1 then tdB nw (tn reader) 64 else ones8 (tdB nw (tn reader) 64)
def plA (nw : Nat → Int32) (some_ : Int32) (j : Nat) : Int32 := itr (fun r x => x + (if hasb some_ r then ones8 (nw (4 + 4 * r + 2)) else 0)) j 0
def plB (nw : Nat → Int32) (some_ : Int32) (j : Nat) : Int32 := itr (fun r x => x + (if hasb some_ r then ones8 (nw (4 + 4 * r + 2) &&& nw (4 + 4 * r + 1)) else 0)) j 0
abbrev plP (nw : Nat → Int32) (n : Nat) (s : Int32) (S : Int32 × Int32) : Prop := ¬ nw 1 < plA nw s n ∧ (S.2 < plB nw s n ∨ (plB nw s n = S.2 ∧ ¬ ones8 S.1 ≤ ones8 s))
def plL (nw : Nat → Int32) (n k : Nat) : Int32 × Int32 := itr (fun j S => (if plP nw n (nI (j + 1)) S then nI (j + 1) else S.1, if plP nw n (nI (j + 1)) S then plB nw (nI (j + 1)) n else S.2)) k (0, 0)
theorem shl1 {n : Nat} (h : n ≤ 6) : ∃ pw : Nat, 1 ≤ pw ∧ pw ≤ 64 ∧ pw = 2 ^ n ∧ (1 : Int32) <<< (nI n &&& 31) = nI pw := by
  rcases (show n = 0 ∨ n = 1 ∨ n = 2 ∨ n = 3 ∨ n = 4 ∨ n = 5 ∨ n = 6 by omega) with rfl | rfl | rfl | rfl | rfl | rfl | rfl
  · exact ⟨1, by decide, by decide, by decide, by decide⟩
  · exact ⟨2, by decide, by decide, by decide, by decide⟩
  · exact ⟨4, by decide, by decide, by decide, by decide⟩
  · exact ⟨8, by decide, by decide, by decide, by decide⟩
  · exact ⟨16, by decide, by decide, by decide, by decide⟩
  · exact ⟨32, by decide, by decide, by decide, by decide⟩
  · exact ⟨64, by decide, by decide, by decide, by decide⟩
theorem plL_1 {nw : Nat → Int32} {n j : Nat} : (plL nw n (j + 1)).1 = if plP nw n (nI (j + 1)) (plL nw n j) then nI (j + 1) else (plL nw n j).1 := rfl
theorem plL_2 {nw : Nat → Int32} {n j : Nat} : (plL nw n (j + 1)).2 = if plP nw n (nI (j + 1)) (plL nw n j) then plB nw (nI (j + 1)) n else (plL nw n j).2 := rfl
def m_print (nw : Nat → Int32) (n : Nat) (what : Int32) : Int32 := if ¬ nw 0 = 1 then -1000002 else if ¬ cho what then -1000001 else if what = 0 then (plL nw n (2 ^ n - 1)).2 else (plL nw n (2 ^ n - 1)).1
def gsV (nw : Nat → Int32) (r : Nat) (kd nt : Int32) (d : Nat) : Int32 := goF (nw 2) kd nt (min d (tn (nw (4 + 4 * r + 3)))) (nw (4 + 4 * r + 1))
def gsb (nw it : Nat → Int32) (r : Nat) (kd nt : Int32) (fr : Nat) (j : Nat) : Bool := itr (fun i b => b && decide (gsV nw r kd nt (i + 1) = it (fr + i))) j true
theorem gsb_t {nw it : Nat → Int32} {r : Nat} {kd nt : Int32} {fr j : Nat} (h : gsb nw it r kd nt fr j = true) : bI (gsV nw r kd nt (j + 1) = it (fr + (j + 1) - 1)) = bI (gsb nw it r kd nt fr (j + 1) = true) := by
  have e : gsb nw it r kd nt fr (j + 1) = (gsb nw it r kd nt fr j && decide (gsV nw r kd nt (j + 1) = it (fr + j))) := rfl
  rw [e, h, Bool.true_and, show fr + (j + 1) - 1 = fr + j by omega]
  unfold bI
  by_cases q : gsV nw r kd nt (j + 1) = it (fr + j)
  · rw [if_pos q, if_pos (by rw [decide_eq_true q])]
  · rw [if_neg q, if_neg (by rw [decide_eq_false q]; decide)]
theorem gsb_f {nw it : Nat → Int32} {r : Nat} {kd nt : Int32} {fr j : Nat} (h : ¬ gsb nw it r kd nt fr j = true) (m : Nat) : ¬ gsb nw it r kd nt fr (j + m) = true := by
  induction m with
  | zero => exact h
  | succ m ih =>
    have e : gsb nw it r kd nt fr (j + (m + 1)) = (gsb nw it r kd nt fr (j + m) && decide (gsV nw r kd nt (j + m + 1) = it (fr + (j + m)))) := rfl
    rw [e]
    intro q
    exact ih (Bool.and_eq_true_iff.mp q).1
theorem gsb_x {nw it : Nat → Int32} {r : Nat} {kd nt : Int32} {fr j n : Nat} (hj : j ≤ n) (h : j = n ∨ ¬ gsb nw it r kd nt fr j = true) : bI (gsb nw it r kd nt fr j = true) = bI (gsb nw it r kd nt fr n = true) := by
  rcases h with h | h
  · subst h; rfl
  · have h2 := gsb_f h (n - j)
    rw [show j + (n - j) = n by omega] at h2
    unfold bI; rw [if_neg h, if_neg h2]
def tmF (nw it : Nat → Int32) (r fr n k : Nat) : Int32 := itr (fun j x => x ||| (if gsb nw it r (nI (j + 1)) (nw (4 + 4 * r + 2)) fr n = true then 1 <<< (nI (j + 1) &&& 31) else 0)) k 0
def m_temper (ss : Int32) (nw la ma it : Nat → Int32) (reader row i n : Int32) : Int32 × Int32 :=
  if ¬ isR nw reader then (-1000001, ss) else if ¬ (¬ row < 0 ∧ ¬ 7 < row) then (-1000001, ss) else if ¬ (¬ n < 1 ∧ ¬ 16 < n) then (-1000001, ss)
  else if la (tn row) = -1000000 then ((-1000010) - 1, 1)
  else if ¬ (¬ i < 0 ∧ ¬ n < 0 ∧ ¬ ma (tn row) < i ∧ ¬ ma (tn row) - i < n) then ((-1000010) - 2, 2)
  else (tmF nw it (tn reader) (40 * tn row + tn i) (tn n) 5, 0)
def tlS (nw it : Nat → Int32) (r fr n : Nat) (k : Nat) : Int32 × Int32 := itr (fun j S => (S.1 + (if gsb nw it r (nw (4 + 4 * r)) (nI j) fr n = true then 1 else 0), if gsb nw it r (nw (4 + 4 * r)) (nI j) fr n = true ∧ S.1 = 0 then nI j else S.2)) k (0, -1000000)
theorem tlS_1 {nw it : Nat → Int32} {r fr n j : Nat} : (tlS nw it r fr n (j + 1)).1 = (tlS nw it r fr n j).1 + (if gsb nw it r (nw (4 + 4 * r)) (nI j) fr n = true then 1 else 0) := rfl
theorem tlS_2 {nw it : Nat → Int32} {r fr n j : Nat} : (tlS nw it r fr n (j + 1)).2 = if gsb nw it r (nw (4 + 4 * r)) (nI j) fr n = true ∧ (tlS nw it r fr n j).1 = 0 then nI j else (tlS nw it r fr n j).2 := rfl
def tlE (nw it : Nat → Int32) (r fr n : Nat) : Int32 × Int32 := tlS nw it r fr n 64
theorem tlE_1 {nw it : Nat → Int32} {r fr n k : Nat} (h : k = 64) : (tlS nw it r fr n k).1 = (tlE nw it r fr n).1 := by subst h; exact congrArg Prod.fst (Eq.refl (tlE nw it r fr n))
theorem tlE_2 {nw it : Nat → Int32} {r fr n k : Nat} (h : k = 64) : (tlS nw it r fr n k).2 = (tlE nw it r fr n).2 := by subst h; exact congrArg Prod.snd (Eq.refl (tlE nw it r fr n))
def m_told (ss : Int32) (nw la ma it : Nat → Int32) (reader row i n what : Int32) : Int32 × Int32 :=
  if ¬ isR nw reader then (-1000001, ss) else if ¬ (¬ row < 0 ∧ ¬ 7 < row) then (-1000001, ss) else if ¬ (¬ n < 1 ∧ ¬ 16 < n) then (-1000001, ss) else if ¬ cho what then (-1000001, ss)
  else if la (tn row) = -1000000 then ((-1000010) - 1, 1)
  else if ¬ (¬ i < 0 ∧ ¬ n < 0 ∧ ¬ ma (tn row) < i ∧ ¬ ma (tn row) - i < n) then ((-1000010) - 2, 2)
  else (if what = 0 then (tlE nw it (tn reader) (40 * tn row + tn i) (tn n)).1 else (tlE nw it (tn reader) (40 * tn row + tn i) (tn n)).2, 0)
def m_image (nw im kp : Nat → Int32) (k : Int32) : Int32 × (Nat → Int32) × (Nat → Int32) :=
  if ¬ cho k then (-1000001, im, kp) else if ¬ nw 0 = 1 then (-1000002, im, kp) else (1, cpy nw 0 im (28 * tn k) 28, upd kp (tn k) 1)
def m_restore (nw im kp : Nat → Int32) (nc : Nat) (k : Int32) : Int32 × (Nat → Int32) × Nat :=
  if ¬ cho k then (-1000001, nw, nc) else if kp (tn k) = 0 then (-1000002, nw, nc) else (1, cpy im (28 * tn k) nw 0 28, 0)
def m_kind (nw : Nat → Int32) (reader : Int32) : Int32 := if ¬ isR nw reader then -1000001 else nw (4 + 4 * tn reader)
abbrev asP (kd its : Int32) : Prop := kd = 0 ∨ kd = its ∨ (kd = 1 ∧ its < 4) ∨ (kd = 4 ∧ its = 5)
def m_as (ss : Int32) (nw : Nat → Int32) (reader kd : Int32) : Int32 × Int32 :=
  if ¬ isR nw reader then (-1000001, ss) else if ¬ (¬ kd < 0 ∧ ¬ 5 < kd) then (-1000001, ss) else if asP kd (nw (4 + 4 * tn reader)) then (reader, 0) else ((-1000010) - 3, 3)
def m_beg (z : Nat × (Nat → Int32)) (b : Int32) : Nat × (Nat → Int32) := if 16 ≤ z.1 then z else (z.1 + 1, upd z.2 z.1 b)
theorem i_belowN {i : Int32} {n m : Nat} (hm : m ≤ 900) (hn : n ≤ m + 1) (h : ¬ i < 0 ∧ ¬ nI n - 1 < i) : ∃ r : Nat, r ≤ m ∧ i = nI r := by
  obtain ⟨j, hj, rfl⟩ := nI_of h.1
  have h1 := h.2
  have h2 : (nI n - 1).toInt = (n : Int) - 1 := i_subT (by omega) 1 (by omega)
  rw [i_lt, h2, nI_toInt hj] at h1
  exact ⟨j, by omega, rfl⟩
theorem m_beg_le {z : Nat × (Nat → Int32)} {b : Int32} (h : z.1 ≤ 16) : (m_beg z b).1 ≤ 16 := by
  unfold m_beg; split
  · exact h
  · show z.1 + 1 ≤ 16; omega
theorem u_X12_first_X12 : ∀ w ∈ wsX120, w ∈ wsX12_first := fun _ h => List.mem_cons_of_mem _ (List.mem_append_right _ h)
set_option maxHeartbeats 4000000 in
set_option maxRecDepth 100000 in
theorem c_X12_first (l : Launch) (D : va_G) (cI cZ cT : ClassId) (A0 : Nat → Nat) (ss tp fk fp ap sp tk vl ac tr : Int32) (la ma it sr bt nw dr pa im kp tc : Nat → Int32) (what : Int32) (n : Nat) (hW : TK nw n) : Met l yX12_first wsX12_first ({ frames := 6, cells := 0, slots := 0, locals := 140 }) (pR D cI cZ cT [.ref (A0 0), .int what] (wM cI cZ A0 ss tp fk fp ap sp tk vl ac tr la ma it sr bt nw dr pa im kp tc)) (QcRead (m_first nw n what)) 0 0 (fun _ => False) := by
  refine Met.ofW (cc := cX12_first) (maxL := 5) (ret := (some .int)) (by decide) rfl ?_
  intro p e s m args below meth c s₁ B hml hv
  obtain ⟨rfl, hP, hK⟩ := hv
  have hx := B.exec
  have hb := B.bytes
  have hr := B.returns
  have hts := atoms_spec (ws := wsX12_first) B.pre
  have hown : s.vm.findClass RX12 = some m.cls := findClass_of_methodNamed B.named
  have hlocks := B.notSynchronized
  have hl := lv_entry ([.ref (A0 0), .int what]) (n := 5) (Nat.le_of_ble_eq_true rfl)
  rw [lg_entry_eq]
  generalize (lg_sl ([.ref (A0 0), .int what]) ++ List.replicate (5 - (lg_sl ([.ref (A0 0), .int what])).length) Slot.unset).toArray = ls at hl ⊢
  have hl : lv_has ls 5 [(0, .ref (A0 0)), (1, .int what)] := hl
  have hn6 := hW.1
  refine lv_aload_n hx hb dX12_first_0 rfl (lv_at hl 0 rfl) ?_
  refine b_call (va_runV (As := []) (rest := []) ⟨hx, hb, hml, hown, hts⟩ (c_X12_isTown l D cI cZ cT A0 ss tp fk fp ap sp tk vl ac tr la ma it sr bt nw dr pa im kp tc) (cwV 0 hts gX12_first_X12_isTown rfl rfl rfl (by decide +kernel) ⟨(Nat.le_of_ble_eq_true rfl), (Nat.le_of_ble_eq_true rfl)⟩) (b_pV hK hP [0, 1, 2, 3, 4, 5, 6, 7, 8, 9, 10, 11] rfl 0 rfl rfl) rfl rfl hl.1 rfl (lv_room (Nat.le_of_ble_eq_true rfl)) dX12_first_1 ⟨Nat.zero_le _, Nat.zero_le _⟩).run ?_
  refine b_ifne (tgt := 10) hx hb dX12_first_4 (by decide) (fun c1 => ?_) (fun c1 => ?_)
  · refine lv_iload_n hx hb dX12_first_10 rfl (lv_at hl 1 rfl) ?_
    refine lv_iconst (v := 0) hx hb dX12_first_11 (by decide) ?_
    refine lv_iconst (v := 1) hx hb dX12_first_12 (by decide) ?_
    refine b_call (va_runS (As := [.int what, .int 0, .int 1]) (rest := []) ⟨hx, hb, hml, hown, hts⟩ (c_X12_in l D cI cZ cT what 0 1) (va_cwS 3 hts gX12_first_X12_in rfl rfl rfl (by decide +kernel) ⟨(Nat.le_of_ble_eq_true rfl), (Nat.le_of_ble_eq_true rfl)⟩) (b_pS0 hK) rfl rfl hl.1 rfl (lv_room (Nat.le_of_ble_eq_true rfl)) dX12_first_13 ⟨Nat.zero_le _, Nat.zero_le _⟩).run ?_
    refine b_ifne (tgt := 22) hx hb dX12_first_16 (by decide) (fun c2 => ?_) (fun c2 => ?_)
    · refine lv_ldc (v := (-1000000)) hx hb hown (hts (.constant RX12 44 (-1000000)) (List.mem_of_getElem? (i := 3) rfl)) dX12_first_22 ?_
      refine lv_istore_n (lv' := [(2, .int (-1000000)), (0, .ref (A0 0)), (1, .int what)]) hx hb dX12_first_24 rfl hl (by decide) rfl (fun ls hl => ?_)
      refine lv_iconst (v := (nI 0)) hx hb dX12_first_25 (by decide) ?_
      refine lv_istore_n (lv' := [(3, .int (nI 0)), (2, .int (-1000000)), (0, .ref (A0 0)), (1, .int what)]) hx hb dX12_first_26 rfl hl (by decide) rfl (fun ls hl => ?_)
      refine b_loopR (N := n) (I := fun k ls => lv_has ls 5 [(3, .int (nI (k))), (2, .int (frB nw k)), (0, .ref (A0 0)), (1, .int what)]) (fun k hk ih3 ls hI => ?_) 0 (by omega) (lv_sub hl [0, 1, 2, 3] rfl)
      have hl := hI
      have hl : lv_has ls 5 [(3, .int (nI (k))), (2, .int (frB nw k)), (0, .ref (A0 0)), (1, .int what)] := hl
      refine lv_iload_n hx hb dX12_first_27 rfl (lv_at hl 0 rfl) ?_
      refine lv_aload_n hx hb dX12_first_28 rfl (lv_at hl 2 rfl) ?_
      refine va_get (D := D) (ci := 11) (v := .ref (A0 6)) (C := RX12) (T := TX12) (N := 21) hx hb hts u_X12_first_X12 hown hK.1 hP 0 rfl rfl 13 (by decide) (hts (.fieldLink RX12 25 "NoticeWeekModel" "now" "[I") (List.mem_of_getElem? (i := 4) rfl)) (fun _ h9 => h9) rfl dX12_first_29 ?_
      refine lv_iconst (v := (nI 3)) hx hb dX12_first_32 (by decide) ?_
      refine b_ald hx hb hK hP 6 rfl (by omega) (by decide) dX12_first_33 ?_
      rw [hW.2.1]
      refine b_ge (tgt := 112) hx hb (by omega) (by omega) dX12_first_34 (by decide) (fun c4 => ?_) (fun c4 => ?_)
      · have h_k : n = k := by omega
        subst h_k
        refine lv_iload_n hx hb dX12_first_112 rfl (lv_at hl 1 rfl) ?_
        refine lv_ldc (v := (-1000000)) hx hb hown (hts (.constant RX12 44 (-1000000)) (List.mem_of_getElem? (i := 3) rfl)) dX12_first_113 ?_
        refine lv_icmp_eq (tgt := 122) hx hb dX12_first_115 (by decide) (fun c5 => ?_) (fun c5 => ?_)
        · refine lv_iload_n hx hb dX12_first_122 rfl (lv_at hl 1 rfl) ?_
          refine lv_goto (tgt := 138) hx hb dX12_first_123 (by decide) ?_
          exact b_ret hx hb hr (by first | (simp only [m_first, eq_true c1, eq_true c2, eq_true c4, eq_true c5, bI, not_true_eq_false, not_false_eq_true, ite_true, ite_false, if_true, if_false, and_self, and_true, true_and, false_and, and_false, or_true, true_or, or_false, false_or, eq_self]; done) | (simp [m_first, eq_true c1, eq_true c2, eq_true c4, eq_true c5, bI]; done)) dX12_first_138 hlocks
        · refine lv_iload_n hx hb dX12_first_118 rfl (lv_at hl 3 rfl) ?_
          refine lv_if_ne (tgt := 126) hx hb dX12_first_119 (by decide) (fun c6 => ?_) (fun c6 => ?_)
          · obtain ⟨b, hb5, hbe⟩ := (frB_ok (nw := nw) n (by omega)).resolve_left c5
            rw [hbe] at hl
            refine lv_aload_n hx hb dX12_first_126 rfl (lv_at hl 2 rfl) ?_
            refine va_get (D := D) (ci := 11) (v := .ref (A0 6)) (C := RX12) (T := TX12) (N := 21) hx hb hts u_X12_first_X12 hown hK.1 hP 0 rfl rfl 13 (by decide) (hts (.fieldLink RX12 25 "NoticeWeekModel" "now" "[I") (List.mem_of_getElem? (i := 4) rfl)) (fun _ h9 => h9) rfl dX12_first_127 ?_
            refine lv_iconst (v := (nI 4)) hx hb dX12_first_130 (by decide) ?_
            refine lv_iconst (v := (nI 4)) hx hb dX12_first_131 (by decide) ?_
            refine lv_iload_n hx hb dX12_first_132 rfl (lv_at hl 1 rfl) ?_
            refine b_mul hx hb dX12_first_133 ?_
            refine b_add hx hb dX12_first_134 ?_
            refine lv_iconst (v := (nI 3)) hx hb dX12_first_135 (by decide) ?_
            refine b_add hx hb dX12_first_136 ?_
            refine b_ald hx hb hK hP 6 rfl (by omega) (by decide) dX12_first_137 ?_
            exact b_ret hx hb hr (by simp only [m_first, eq_true c1, eq_true c2, eq_true c4, eq_false c5, eq_false c6, not_true_eq_false, not_false_eq_true, if_true, if_false, ite_true, ite_false]; rw [hbe, tn_nI hb5]) dX12_first_138 hlocks
          · refine lv_iload_n hx hb dX12_first_122 rfl (lv_at hl 1 rfl) ?_
            refine lv_goto (tgt := 138) hx hb dX12_first_123 (by decide) ?_
            exact b_ret hx hb hr (by first | (simp only [m_first, eq_true c1, eq_true c2, eq_true c4, eq_false c5, eq_true c6, bI, not_true_eq_false, not_false_eq_true, ite_true, ite_false, if_true, if_false, and_self, and_true, true_and, false_and, and_false, or_true, true_or, or_false, false_or, eq_self]; done) | (simp [m_first, eq_true c1, eq_true c2, eq_true c4, eq_false c5, eq_true c6, bI]; done)) dX12_first_138 hlocks
      · refine b_join (jpc := 60) (rest' := []) (P := fun v : Int32 => v = ((bI (lvs nw k ∧ ¬ fsI nw k 60 ≤ 0)) : Int32)) (fun v7 ev7 => ?_) (fun K8 => ?_)
        · subst ev7
          refine lv_istore (lv' := [(4, .int (bI (lvs nw k ∧ ¬ fsI nw k 60 ≤ 0))), (3, .int (nI (k))), (2, .int (frB nw k)), (0, .ref (A0 0)), (1, .int what)]) hx hb dX12_first_60 hl (by decide) rfl (fun ls hl => ?_)
          refine b_join (jpc := 105) (rest' := []) (P := fun v : Int32 => v = ((frS nw k (frB nw k)) : Int32)) (fun v9 ev9 => ?_) (fun K10 => ?_)
          · subst ev9
            refine lv_topi (fun x11 ex11 => ?_)
            refine lv_istore_n (lv' := [(2, .int x11), (4, .int (bI (lvs nw k ∧ ¬ fsI nw k 60 ≤ 0))), (3, .int (nI (k))), (0, .ref (A0 0)), (1, .int what)]) hx hb dX12_first_105 rfl hl (by decide) rfl (fun ls hl => ?_)
            refine lv_iinc (v := (nI (k + 1))) (lv' := [(3, .int (nI (k + 1))), (2, .int x11), (4, .int (bI (lvs nw k ∧ ¬ fsI nw k 60 ≤ 0))), (0, .ref (A0 0)), (1, .int what)]) hx hb dX12_first_106 hl (k := 2) rfl (nI_add _ _) (by decide) rfl (fun ls hl => ?_)
            refine lv_goto (tgt := 27) hx hb dX12_first_109 (by decide) ?_
            try subst ex11
            exact ih3 (by omega) ls (lv_sub hl [0, 1, 3, 4] rfl)
          · refine lv_iload hx hb dX12_first_62 (lv_at hl 0 rfl) ?_
            refine b_ifeq (tgt := 104) hx hb dX12_first_64 (by decide) (fun c12 => ?_) (fun c12 => ?_)
            · refine lv_iload_n hx hb dX12_first_104 rfl (lv_at hl 2 rfl) ?_
              exact K10 _ (by unfold frS; rw [if_neg (fun z => c12 z.1)])
            · refine lv_iload_n hx hb dX12_first_67 rfl (lv_at hl 2 rfl) ?_
              refine lv_ldc (v := (-1000000)) hx hb hown (hts (.constant RX12 44 (-1000000)) (List.mem_of_getElem? (i := 3) rfl)) dX12_first_68 ?_
              refine lv_icmp_eq (tgt := 100) hx hb dX12_first_70 (by decide) (fun c13 => ?_) (fun c13 => ?_)
              · refine lv_iload_n hx hb dX12_first_100 rfl (lv_at hl 1 rfl) ?_
                refine lv_goto (tgt := 105) hx hb dX12_first_101 (by decide) ?_
                exact K10 _ (by unfold frS; rw [if_pos ⟨c12, Or.inl c13⟩])
              · refine lv_aload_n hx hb dX12_first_73 rfl (lv_at hl 3 rfl) ?_
                refine va_get (D := D) (ci := 11) (v := .ref (A0 6)) (C := RX12) (T := TX12) (N := 21) hx hb hts u_X12_first_X12 hown hK.1 hP 0 rfl rfl 13 (by decide) (hts (.fieldLink RX12 25 "NoticeWeekModel" "now" "[I") (List.mem_of_getElem? (i := 4) rfl)) (fun _ h9 => h9) rfl dX12_first_74 ?_
                refine lv_iconst (v := (nI 4)) hx hb dX12_first_77 (by decide) ?_
                refine lv_iconst (v := (nI 4)) hx hb dX12_first_78 (by decide) ?_
                refine lv_iload_n hx hb dX12_first_79 rfl (lv_at hl 1 rfl) ?_
                refine b_mul hx hb dX12_first_80 ?_
                refine b_add hx hb dX12_first_81 ?_
                refine lv_iconst (v := (nI 3)) hx hb dX12_first_82 (by decide) ?_
                refine b_add hx hb dX12_first_83 ?_
                refine b_ald hx hb hK hP 6 rfl (by omega) (by decide) dX12_first_84 ?_
                obtain ⟨b, hb5, hbe⟩ := (frB_ok (nw := nw) k (by omega)).resolve_left c13
                rw [hbe] at hl
                refine lv_aload_n hx hb dX12_first_85 rfl (lv_at hl 3 rfl) ?_
                refine va_get (D := D) (ci := 11) (v := .ref (A0 6)) (C := RX12) (T := TX12) (N := 21) hx hb hts u_X12_first_X12 hown hK.1 hP 0 rfl rfl 13 (by decide) (hts (.fieldLink RX12 25 "NoticeWeekModel" "now" "[I") (List.mem_of_getElem? (i := 4) rfl)) (fun _ h9 => h9) rfl dX12_first_86 ?_
                refine lv_iconst (v := (nI 4)) hx hb dX12_first_89 (by decide) ?_
                refine lv_iconst (v := (nI 4)) hx hb dX12_first_90 (by decide) ?_
                refine lv_iload_n hx hb dX12_first_91 rfl (lv_at hl 2 rfl) ?_
                refine b_mul hx hb dX12_first_92 ?_
                refine b_add hx hb dX12_first_93 ?_
                refine lv_iconst (v := (nI 3)) hx hb dX12_first_94 (by decide) ?_
                refine b_add hx hb dX12_first_95 ?_
                refine b_ald hx hb hK hP 6 rfl (by omega) (by decide) dX12_first_96 ?_
                refine lv_icmp_ge (tgt := 104) hx hb dX12_first_97 (by decide) (fun c14 => ?_) (fun c14 => ?_)
                · refine lv_iload_n hx hb dX12_first_104 rfl (lv_at hl 2 rfl) ?_
                  exact K10 _ (by unfold frS; rw [if_neg (fun z => z.2.elim c13 (fun y => y (by rw [hbe, tn_nI hb5]; exact c14)))]; exact hbe.symm)
                · refine lv_iload_n hx hb dX12_first_100 rfl (lv_at hl 1 rfl) ?_
                  refine lv_goto (tgt := 105) hx hb dX12_first_101 (by decide) ?_
                  exact K10 _ (by unfold frS; rw [if_pos ⟨c12, Or.inr (by rw [hbe, tn_nI hb5]; exact c14)⟩])
        · refine lv_aload_n hx hb dX12_first_37 rfl (lv_at hl 2 rfl) ?_
          refine lv_iload_n hx hb dX12_first_38 rfl (lv_at hl 0 rfl) ?_
          refine b_call (va_runV (As := [.int (nI (k))]) (rest := []) ⟨hx, hb, hml, hown, hts⟩ (c_X12_lives l D cI cZ cT A0 ss tp fk fp ap sp tk vl ac tr la ma it sr bt nw dr pa im kp tc k (by omega)) (cwV 1 hts gX12_first_X12_lives rfl rfl rfl (by decide +kernel) ⟨(Nat.le_of_ble_eq_true rfl), (Nat.le_of_ble_eq_true rfl)⟩) (b_pV hK hP [0, 1, 2, 3, 4, 5, 6, 7, 8, 9, 10, 11] rfl 0 rfl rfl) rfl rfl hl.1 rfl (lv_room (Nat.le_of_ble_eq_true rfl)) dX12_first_39 ⟨Nat.zero_le _, Nat.zero_le _⟩).run ?_
          refine b_ifeq (tgt := 59) hx hb dX12_first_42 (by decide) (fun c15 => ?_) (fun c15 => ?_)
          · refine lv_iconst (v := 0) hx hb dX12_first_59 (by decide) ?_
            exact K8 _ (by first | with_reducible rfl | (simp only [bI, eq_true c1, eq_true c2, eq_true c4, eq_false c15, not_true_eq_false, not_false_eq_true, ite_true, ite_false, if_true, if_false, and_self, and_true, true_and, false_and, and_false, or_true, true_or, or_false, false_or]; done) | (simp [bI, eq_true c1, eq_true c2, eq_true c4, eq_false c15]; done) | omega)
          · refine lv_aload_n hx hb dX12_first_45 rfl (lv_at hl 2 rfl) ?_
            refine lv_iload_n hx hb dX12_first_46 rfl (lv_at hl 0 rfl) ?_
            refine lv_bipush (v := (nI 60)) hx hb dX12_first_47 (by decide) ?_
            refine b_call (va_runV (As := [.int (nI (k)), .int (nI 60)]) (rest := []) ⟨hx, hb, hml, hown, hts⟩ (c_X12_falseIn l D cI cZ cT A0 ss tp fk fp ap sp tk vl ac tr la ma it sr bt nw dr pa im kp tc k 60 n (by omega) (by omega) hW) (cwV 2 hts gX12_first_X12_falseIn rfl rfl rfl (by decide +kernel) ⟨(Nat.le_of_ble_eq_true rfl), (Nat.le_of_ble_eq_true rfl)⟩) (b_pV hK hP [0, 1, 2, 3, 4, 5, 6, 7, 8, 9, 10, 11] rfl 0 rfl rfl) rfl rfl hl.1 rfl (lv_room (Nat.le_of_ble_eq_true rfl)) dX12_first_49 ⟨Nat.zero_le _, Nat.zero_le _⟩).run ?_
            refine lv_if_le (tgt := 59) hx hb dX12_first_52 (by decide) (fun c16 => ?_) (fun c16 => ?_)
            · refine lv_iconst (v := 0) hx hb dX12_first_59 (by decide) ?_
              exact K8 _ (by first | with_reducible rfl | (simp only [bI, eq_true c1, eq_true c2, eq_true c4, eq_true c15, eq_true c16, not_true_eq_false, not_false_eq_true, ite_true, ite_false, if_true, if_false, and_self, and_true, true_and, false_and, and_false, or_true, true_or, or_false, false_or]; done) | (simp [bI, eq_true c1, eq_true c2, eq_true c4, eq_true c15, eq_true c16]; done) | omega)
            · refine lv_iconst (v := 1) hx hb dX12_first_55 (by decide) ?_
              refine lv_goto (tgt := 60) hx hb dX12_first_56 (by decide) ?_
              exact K8 _ (by first | with_reducible rfl | (simp only [bI, eq_true c1, eq_true c2, eq_true c4, eq_true c15, eq_false c16, not_true_eq_false, not_false_eq_true, ite_true, ite_false, if_true, if_false, and_self, and_true, true_and, false_and, and_false, or_true, true_or, or_false, false_or]; done) | (simp [bI, eq_true c1, eq_true c2, eq_true c4, eq_true c15, eq_false c16]; done) | omega)
    · refine lv_ldc (v := (-1000001)) hx hb hown (hts (.constant RX12 58 (-1000001)) (List.mem_of_getElem? (i := 2) rfl)) dX12_first_19 ?_
      exact b_ret hx hb hr (by first | (simp only [m_first, eq_true c1, eq_false c2, bI, not_true_eq_false, not_false_eq_true, ite_true, ite_false, if_true, if_false, and_self, and_true, true_and, false_and, and_false, or_true, true_or, or_false, false_or, eq_self]; done) | (simp [m_first, eq_true c1, eq_false c2, bI]; done)) dX12_first_21 hlocks
  · refine lv_ldc (v := (-1000002)) hx hb hown (hts (.constant RX12 159 (-1000002)) (List.mem_of_getElem? (i := 1) rfl)) dX12_first_7 ?_
    exact b_ret hx hb hr (by first | (simp only [m_first, eq_false c1, bI, not_true_eq_false, not_false_eq_true, ite_true, ite_false, if_true, if_false, and_self, and_true, true_and, false_and, and_false, or_true, true_or, or_false, false_or, eq_self]; done) | (simp [m_first, eq_false c1, bI]; done)) dX12_first_9 hlocks
theorem u_X12_toWrite_X12 : ∀ w ∈ wsX120, w ∈ wsX12_toWrite := fun _ h => List.mem_cons_of_mem _ (List.mem_append_right _ h)
set_option maxHeartbeats 4000000 in
set_option maxRecDepth 100000 in
theorem c_X12_toWrite (l : Launch) (D : va_G) (cI cZ cT : ClassId) (A0 : Nat → Nat) (ss tp fk fp ap sp tk vl ac tr : Int32) (la ma it sr bt nw dr pa im kp tc : Nat → Int32) (reader deeds what : Int32) (n : Nat) (hW : TK nw n) : Met l yX12_toWrite wsX12_toWrite ({ frames := 4, cells := 0, slots := 0, locals := 95 }) (pR D cI cZ cT [.ref (A0 0), .int reader, .int deeds, .int what] (wM cI cZ A0 ss tp fk fp ap sp tk vl ac tr la ma it sr bt nw dr pa im kp tc)) (QcRead (m_toWrite nw reader deeds what)) 0 0 (fun _ => False) := by
  refine Met.ofW (cc := cX12_toWrite) (maxL := 11) (ret := (some .int)) (by decide) rfl ?_
  intro p e s m args below meth c s₁ B hml hv
  obtain ⟨rfl, hP, hK⟩ := hv
  have hx := B.exec
  have hb := B.bytes
  have hr := B.returns
  have hts := atoms_spec (ws := wsX12_toWrite) B.pre
  have hown : s.vm.findClass RX12 = some m.cls := findClass_of_methodNamed B.named
  have hlocks := B.notSynchronized
  have hl := lv_entry ([.ref (A0 0), .int reader, .int deeds, .int what]) (n := 11) (Nat.le_of_ble_eq_true rfl)
  rw [lg_entry_eq]
  generalize (lg_sl ([.ref (A0 0), .int reader, .int deeds, .int what]) ++ List.replicate (11 - (lg_sl ([.ref (A0 0), .int reader, .int deeds, .int what])).length) Slot.unset).toArray = ls at hl ⊢
  have hl : lv_has ls 11 [(0, .ref (A0 0)), (1, .int reader), (2, .int deeds), (3, .int what)] := hl
  refine lv_aload_n hx hb dX12_toWrite_0 rfl (lv_at hl 0 rfl) ?_
  refine lv_iload_n hx hb dX12_toWrite_1 rfl (lv_at hl 1 rfl) ?_
  refine b_call (va_runV (As := [.int reader]) (rest := []) ⟨hx, hb, hml, hown, hts⟩ (c_X12_isReader l D cI cZ cT A0 ss tp fk fp ap sp tk vl ac tr la ma it sr bt nw dr pa im kp tc reader) (cwV 1 hts gX12_toWrite_X12_isReader rfl rfl rfl (by decide +kernel) ⟨(Nat.le_of_ble_eq_true rfl), (Nat.le_of_ble_eq_true rfl)⟩) (b_pV hK hP [0, 1, 2, 3, 4, 5, 6, 7, 8, 9, 10, 11] rfl 0 rfl rfl) rfl rfl hl.1 rfl (lv_room (Nat.le_of_ble_eq_true rfl)) dX12_toWrite_2 ⟨Nat.zero_le _, Nat.zero_le _⟩).run ?_
  refine b_ifeq (tgt := 27) hx hb dX12_toWrite_5 (by decide) (fun c1 => ?_) (fun c1 => ?_)
  · refine lv_ldc (v := (-1000001)) hx hb hown (hts (.constant RX12 58 (-1000001)) (List.mem_of_getElem? (i := 1) rfl)) dX12_toWrite_27 ?_
    exact b_ret hx hb hr (by first | (simp only [m_toWrite, eq_false c1, bI, not_true_eq_false, not_false_eq_true, ite_true, ite_false, if_true, if_false, and_self, and_true, true_and, false_and, and_false, or_true, true_or, or_false, false_or, eq_self]; done) | (simp [m_toWrite, eq_false c1, bI]; done)) dX12_toWrite_29 hlocks
  · refine lv_iload_n hx hb dX12_toWrite_8 rfl (lv_at hl 2 rfl) ?_
    refine lv_iconst (v := 0) hx hb dX12_toWrite_9 (by decide) ?_
    refine lv_bipush (v := 63) hx hb dX12_toWrite_10 (by decide) ?_
    refine b_call (va_runS (As := [.int deeds, .int 0, .int 63]) (rest := []) ⟨hx, hb, hml, hown, hts⟩ (c_X12_in l D cI cZ cT deeds 0 63) (va_cwS 3 hts gX12_toWrite_X12_in rfl rfl rfl (by decide +kernel) ⟨(Nat.le_of_ble_eq_true rfl), (Nat.le_of_ble_eq_true rfl)⟩) (b_pS0 hK) rfl rfl hl.1 rfl (lv_room (Nat.le_of_ble_eq_true rfl)) dX12_toWrite_12 ⟨Nat.zero_le _, Nat.zero_le _⟩).run ?_
    refine b_ifeq (tgt := 27) hx hb dX12_toWrite_15 (by decide) (fun c2 => ?_) (fun c2 => ?_)
    · refine lv_ldc (v := (-1000001)) hx hb hown (hts (.constant RX12 58 (-1000001)) (List.mem_of_getElem? (i := 1) rfl)) dX12_toWrite_27 ?_
      exact b_ret hx hb hr (by first | (simp only [m_toWrite, eq_true c1, eq_false c2, bI, not_true_eq_false, not_false_eq_true, ite_true, ite_false, if_true, if_false, and_self, and_true, true_and, false_and, and_false, or_true, true_or, or_false, false_or, eq_self]; done) | (simp [m_toWrite, eq_true c1, eq_false c2, bI]; done)) dX12_toWrite_29 hlocks
    · refine lv_iload_n hx hb dX12_toWrite_18 rfl (lv_at hl 3 rfl) ?_
      refine lv_iconst (v := 0) hx hb dX12_toWrite_19 (by decide) ?_
      refine lv_iconst (v := 1) hx hb dX12_toWrite_20 (by decide) ?_
      refine b_call (va_runS (As := [.int what, .int 0, .int 1]) (rest := []) ⟨hx, hb, hml, hown, hts⟩ (c_X12_in l D cI cZ cT what 0 1) (va_cwS 3 hts gX12_toWrite_X12_in rfl rfl rfl (by decide +kernel) ⟨(Nat.le_of_ble_eq_true rfl), (Nat.le_of_ble_eq_true rfl)⟩) (b_pS0 hK) rfl rfl hl.1 rfl (lv_room (Nat.le_of_ble_eq_true rfl)) dX12_toWrite_21 ⟨Nat.zero_le _, Nat.zero_le _⟩).run ?_
      refine b_ifne (tgt := 30) hx hb dX12_toWrite_24 (by decide) (fun c3 => ?_) (fun c3 => ?_)
      · obtain ⟨r, hh_r, rfl⟩ : ∃ r : Nat, r ≤ 5 ∧ reader = nI r := i_rd hW c1
        have hl : lv_has ls 11 [(0, .ref (A0 0)), (1, .int (nI (r))), (2, .int deeds), (3, .int what)] := hl
        have htr : tn (nI r) = r := tn_nI hh_r
        refine lv_aload_n hx hb dX12_toWrite_30 rfl (lv_at hl 0 rfl) ?_
        refine lv_iload_n hx hb dX12_toWrite_31 rfl (lv_at hl 1 rfl) ?_
        refine b_call (va_runV (As := [.int (nI (r))]) (rest := []) ⟨hx, hb, hml, hown, hts⟩ (c_X12_lives l D cI cZ cT A0 ss tp fk fp ap sp tk vl ac tr la ma it sr bt nw dr pa im kp tc r (by omega)) (cwV 1 hts gX12_toWrite_X12_lives rfl rfl rfl (by decide +kernel) ⟨(Nat.le_of_ble_eq_true rfl), (Nat.le_of_ble_eq_true rfl)⟩) (b_pV hK hP [0, 1, 2, 3, 4, 5, 6, 7, 8, 9, 10, 11] rfl 0 rfl rfl) rfl rfl hl.1 rfl (lv_room (Nat.le_of_ble_eq_true rfl)) dX12_toWrite_32 ⟨Nat.zero_le _, Nat.zero_le _⟩).run ?_
        refine b_ifne (tgt := 41) hx hb dX12_toWrite_35 (by decide) (fun c4 => ?_) (fun c4 => ?_)
        · refine lv_iconst (v := (nI 4)) hx hb dX12_toWrite_41 (by decide) ?_
          refine lv_iconst (v := (nI 4)) hx hb dX12_toWrite_42 (by decide) ?_
          refine lv_iload_n hx hb dX12_toWrite_43 rfl (lv_at hl 1 rfl) ?_
          refine b_mul hx hb dX12_toWrite_44 ?_
          refine b_add hx hb dX12_toWrite_45 ?_
          refine lv_istore (lv' := [(4, .int (nI (4 + (4 * r)))), (0, .ref (A0 0)), (1, .int (nI (r))), (2, .int deeds), (3, .int what)]) hx hb dX12_toWrite_46 hl (by decide) rfl (fun ls hl => ?_)
          refine lv_ldc (v := (-1000000)) hx hb hown (hts (.constant RX12 44 (-1000000)) (List.mem_of_getElem? (i := 3) rfl)) dX12_toWrite_48 ?_
          refine lv_istore (lv' := [(5, .int (-1000000)), (4, .int (nI (4 + (4 * r)))), (0, .ref (A0 0)), (1, .int (nI (r))), (2, .int deeds), (3, .int what)]) hx hb dX12_toWrite_50 hl (by decide) rfl (fun ls hl => ?_)
          refine lv_ldc (v := (-1000000)) hx hb hown (hts (.constant RX12 44 (-1000000)) (List.mem_of_getElem? (i := 3) rfl)) dX12_toWrite_52 ?_
          refine lv_istore (lv' := [(6, .int (-1000000)), (5, .int (-1000000)), (4, .int (nI (4 + (4 * r)))), (0, .ref (A0 0)), (1, .int (nI (r))), (2, .int deeds), (3, .int what)]) hx hb dX12_toWrite_54 hl (by decide) rfl (fun ls hl => ?_)
          refine lv_iconst (v := (nI 0)) hx hb dX12_toWrite_56 (by decide) ?_
          refine lv_istore (lv' := [(7, .int (nI 0)), (6, .int (-1000000)), (5, .int (-1000000)), (4, .int (nI (4 + (4 * r)))), (0, .ref (A0 0)), (1, .int (nI (r))), (2, .int deeds), (3, .int what)]) hx hb dX12_toWrite_57 hl (by decide) rfl (fun ls hl => ?_)
          refine b_loopR (N := 64) (I := fun k ls => lv_has ls 11 [(7, .int (nI (k))), (5, .int ((twB nw r deeds k).1)), (6, .int ((twB nw r deeds k).2)), (0, .ref (A0 0)), (1, .int (nI (r))), (2, .int deeds), (3, .int what), (4, .int (nI (4 + (4 * r))))]) (fun k hk ih5 ls hI => ?_) 0 (by omega) (lv_sub hl [0, 2, 1, 4, 5, 6, 7, 3] rfl)
          have hl := hI
          have hl : lv_has ls 11 [(7, .int (nI (k))), (5, .int ((twB nw r deeds k).1)), (6, .int ((twB nw r deeds k).2)), (0, .ref (A0 0)), (1, .int (nI (r))), (2, .int deeds), (3, .int what), (4, .int (nI (4 + (4 * r))))] := hl
          refine lv_iload hx hb dX12_toWrite_59 (lv_at hl 0 rfl) ?_
          refine lv_bipush (v := (nI 64)) hx hb dX12_toWrite_61 (by decide) ?_
          refine b_ge (tgt := 167) hx hb (by omega) (by omega) dX12_toWrite_63 (by decide) (fun c6 => ?_) (fun c6 => ?_)
          · have h64 : k = 64 := by omega
            refine lv_iload_n hx hb dX12_toWrite_167 rfl (lv_at hl 6 rfl) ?_
            refine lv_if_ne (tgt := 176) hx hb dX12_toWrite_168 (by decide) (fun c7 => ?_) (fun c7 => ?_)
            · refine lv_iload hx hb dX12_toWrite_176 (lv_at hl 1 rfl) ?_
              exact b_ret hx hb hr (by unfold m_toWrite; rw [if_neg (fun z => z c1), if_neg (fun z => z c2), if_neg (fun z => z c3), htr, if_neg (fun z => z c4), if_neg c7]; exact twE_1 h64) dX12_toWrite_178 hlocks
            · refine lv_iload hx hb dX12_toWrite_171 (lv_at hl 2 rfl) ?_
              refine lv_goto (tgt := 178) hx hb dX12_toWrite_173 (by decide) ?_
              exact b_ret hx hb hr (by unfold m_toWrite; rw [if_neg (fun z => z c1), if_neg (fun z => z c2), if_neg (fun z => z c3), htr, if_neg (fun z => z c4), if_pos c7]; exact twE_2 h64) dX12_toWrite_178 hlocks
          · refine lv_aload_n hx hb dX12_toWrite_66 rfl (lv_at hl 3 rfl) ?_
            refine lv_iload_n hx hb dX12_toWrite_67 rfl (lv_at hl 4 rfl) ?_
            refine lv_aload_n hx hb dX12_toWrite_68 rfl (lv_at hl 3 rfl) ?_
            refine va_get (D := D) (ci := 11) (v := .ref (A0 6)) (C := RX12) (T := TX12) (N := 21) hx hb hts u_X12_toWrite_X12 hown hK.1 hP 0 rfl rfl 13 (by decide) (hts (.fieldLink RX12 25 "NoticeWeekModel" "now" "[I") (List.mem_of_getElem? (i := 4) rfl)) (fun _ h9 => h9) rfl dX12_toWrite_69 ?_
            refine lv_iload hx hb dX12_toWrite_72 (lv_at hl 7 rfl) ?_
            refine b_ald hx hb hK hP 6 rfl (by omega) (by decide) dX12_toWrite_74 ?_
            refine lv_aload_n hx hb dX12_toWrite_75 rfl (lv_at hl 3 rfl) ?_
            refine va_get (D := D) (ci := 11) (v := .ref (A0 6)) (C := RX12) (T := TX12) (N := 21) hx hb hts u_X12_toWrite_X12 hown hK.1 hP 0 rfl rfl 13 (by decide) (hts (.fieldLink RX12 25 "NoticeWeekModel" "now" "[I") (List.mem_of_getElem? (i := 4) rfl)) (fun _ h9 => h9) rfl dX12_toWrite_76 ?_
            refine lv_iload hx hb dX12_toWrite_79 (lv_at hl 7 rfl) ?_
            refine lv_iconst (v := (nI 1)) hx hb dX12_toWrite_81 (by decide) ?_
            refine b_add hx hb dX12_toWrite_82 ?_
            refine b_ald hx hb hK hP 6 rfl (by omega) (by decide) dX12_toWrite_83 ?_
            refine lv_iload hx hb dX12_toWrite_84 (lv_at hl 0 rfl) ?_
            refine lv_bipush (v := (nI 60)) hx hb dX12_toWrite_86 (by decide) ?_
            refine b_call (va_runV (As := [.int (nI (r)), .int (nw (4 + (4 * r))), .int (nw (4 + (4 * r) + 1)), .int (nI (k)), .int (nI 60)]) (rest := []) ⟨hx, hb, hml, hown, hts⟩ (c_X12_doneIn l D cI cZ cT A0 ss tp fk fp ap sp tk vl ac tr la ma it sr bt nw dr pa im kp tc r (nw (4 + (4 * r))) (nw (4 + (4 * r) + 1)) (nI (k)) 60 n (by omega) (by omega) hW) (cwV 5 hts gX12_toWrite_X12_doneIn rfl rfl rfl (by decide +kernel) ⟨(Nat.le_of_ble_eq_true rfl), (Nat.le_of_ble_eq_true rfl)⟩) (b_pV hK hP [0, 1, 2, 3, 4, 5, 6, 7, 8, 9, 10, 11] rfl 0 rfl rfl) rfl rfl hl.1 rfl (lv_room (Nat.le_of_ble_eq_true rfl)) dX12_toWrite_88 ⟨Nat.zero_le _, Nat.zero_le _⟩).run ?_
            refine lv_topi (fun x8 ex8 => ?_)
            refine lv_istore (lv' := [(8, .int x8), (7, .int (nI (k))), (5, .int ((twB nw r deeds k).1)), (6, .int ((twB nw r deeds k).2)), (0, .ref (A0 0)), (1, .int (nI (r))), (2, .int deeds), (3, .int what), (4, .int (nI (4 + (4 * r))))]) hx hb dX12_toWrite_91 hl (by decide) rfl (fun ls hl => ?_)
            have hx8 : x8 = twD nw r k := by subst ex8; rfl
            rw [hx8] at hl
            have hl : lv_has ls 11 [(8, .int (twD nw r k)), (7, .int (nI (k))), (5, .int ((twB nw r deeds k).1)), (6, .int ((twB nw r deeds k).2)), (0, .ref (A0 0)), (1, .int (nI (r))), (2, .int deeds), (3, .int what), (4, .int (nI (4 + (4 * r))))] := hl
            refine lv_iload hx hb dX12_toWrite_93 (lv_at hl 0 rfl) ?_
            refine lv_iload hx hb dX12_toWrite_95 (lv_at hl 1 rfl) ?_
            refine lv_ixor hx hb dX12_toWrite_97 ?_
            refine b_call (va_runS (As := [.int ((twD nw r k) ^^^ (nI (k)))]) (rest := []) ⟨hx, hb, hml, hown, hts⟩ (c_X12_ones l D cI cZ cT ((twD nw r k) ^^^ (nI (k)))) (va_cwS 1 hts gX12_toWrite_X12_ones rfl rfl rfl (by decide +kernel) ⟨(Nat.le_of_ble_eq_true rfl), (Nat.le_of_ble_eq_true rfl)⟩) (b_pS0 hK) rfl rfl hl.1 rfl (lv_room (Nat.le_of_ble_eq_true rfl)) dX12_toWrite_98 ⟨Nat.zero_le _, Nat.zero_le _⟩).run ?_
            refine lv_topi (fun x9 ex9 => ?_)
            refine lv_istore (lv' := [(9, .int x9), (8, .int (twD nw r k)), (7, .int (nI (k))), (5, .int ((twB nw r deeds k).1)), (6, .int ((twB nw r deeds k).2)), (0, .ref (A0 0)), (1, .int (nI (r))), (2, .int deeds), (3, .int what), (4, .int (nI (4 + (4 * r))))]) hx hb dX12_toWrite_101 hl (by decide) rfl (fun ls hl => ?_)
            have hx9 : x9 = ones8 (twD nw r k ^^^ nI k) := ex9
            rw [hx9] at hl
            have hl : lv_has ls 11 [(9, .int (ones8 (twD nw r k ^^^ nI k))), (8, .int (twD nw r k)), (7, .int (nI (k))), (5, .int ((twB nw r deeds k).1)), (6, .int ((twB nw r deeds k).2)), (0, .ref (A0 0)), (1, .int (nI (r))), (2, .int deeds), (3, .int what), (4, .int (nI (4 + (4 * r))))] := hl
            refine b_join (jpc := 131) (rest' := []) (P := fun v : Int32 => v = ((bI (twP nw r deeds k (twB nw r deeds k))) : Int32)) (fun v10 ev10 => ?_) (fun K11 => ?_)
            · subst ev10
              refine lv_istore (lv' := [(10, .int (bI (twP nw r deeds k (twB nw r deeds k)))), (9, .int (ones8 (twD nw r k ^^^ nI k))), (8, .int (twD nw r k)), (7, .int (nI (k))), (5, .int ((twB nw r deeds k).1)), (6, .int ((twB nw r deeds k).2)), (0, .ref (A0 0)), (1, .int (nI (r))), (2, .int deeds), (3, .int what), (4, .int (nI (4 + (4 * r))))]) hx hb dX12_toWrite_131 hl (by decide) rfl (fun ls hl => ?_)
              refine b_join (jpc := 145) (rest' := []) (P := fun v : Int32 => v = ((if twP nw r deeds k (twB nw r deeds k) then nI k else (twB nw r deeds k).1) : Int32)) (fun v12 ev12 => ?_) (fun K13 => ?_)
              · subst ev12
                refine lv_topi (fun x14 ex14 => ?_)
                refine lv_istore (lv' := [(5, .int x14), (10, .int (bI (twP nw r deeds k (twB nw r deeds k)))), (9, .int (ones8 (twD nw r k ^^^ nI k))), (8, .int (twD nw r k)), (7, .int (nI (k))), (6, .int ((twB nw r deeds k).2)), (0, .ref (A0 0)), (1, .int (nI (r))), (2, .int deeds), (3, .int what), (4, .int (nI (4 + (4 * r))))]) hx hb dX12_toWrite_145 hl (by decide) rfl (fun ls hl => ?_)
                refine b_join (jpc := 159) (rest' := []) (P := fun v : Int32 => v = ((if twP nw r deeds k (twB nw r deeds k) then ones8 (twD nw r k ^^^ nI k) else (twB nw r deeds k).2) : Int32)) (fun v15 ev15 => ?_) (fun K16 => ?_)
                · subst ev15
                  refine lv_topi (fun x17 ex17 => ?_)
                  refine lv_istore (lv' := [(6, .int x17), (5, .int x14), (10, .int (bI (twP nw r deeds k (twB nw r deeds k)))), (9, .int (ones8 (twD nw r k ^^^ nI k))), (8, .int (twD nw r k)), (7, .int (nI (k))), (0, .ref (A0 0)), (1, .int (nI (r))), (2, .int deeds), (3, .int what), (4, .int (nI (4 + (4 * r))))]) hx hb dX12_toWrite_159 hl (by decide) rfl (fun ls hl => ?_)
                  refine lv_iinc (v := (nI (k + 1))) (lv' := [(7, .int (nI (k + 1))), (6, .int x17), (5, .int x14), (10, .int (bI (twP nw r deeds k (twB nw r deeds k)))), (9, .int (ones8 (twD nw r k ^^^ nI k))), (8, .int (twD nw r k)), (0, .ref (A0 0)), (1, .int (nI (r))), (2, .int deeds), (3, .int what), (4, .int (nI (4 + (4 * r))))]) hx hb dX12_toWrite_161 hl (k := 5) rfl (nI_add _ _) (by decide) rfl (fun ls hl => ?_)
                  refine lv_goto (tgt := 59) hx hb dX12_toWrite_164 (by decide) ?_
                  have st18 : x14 = (twB nw r deeds (k + 1)).1 := ex14.trans twB_1.symm
                  rw [st18] at hl
                  have st19 : x17 = (twB nw r deeds (k + 1)).2 := ex17.trans twB_2.symm
                  rw [st19] at hl
                  exact ih5 (by omega) ls (lv_sub hl [0, 2, 1, 6, 7, 8, 9, 10] rfl)
                · refine lv_iload hx hb dX12_toWrite_147 (lv_at hl 1 rfl) ?_
                  refine b_ifeq (tgt := 157) hx hb dX12_toWrite_149 (by decide) (fun c20 => ?_) (fun c20 => ?_)
                  · refine lv_iload hx hb dX12_toWrite_157 (lv_at hl 5 rfl) ?_
                    exact K16 _ (by first | with_reducible rfl | (simp only [bI, eq_true c1, eq_true c2, eq_true c3, eq_true c4, eq_true c6, eq_false c20, not_true_eq_false, not_false_eq_true, ite_true, ite_false, if_true, if_false, and_self, and_true, true_and, false_and, and_false, or_true, true_or, or_false, false_or]; done) | (simp [bI, eq_true c1, eq_true c2, eq_true c3, eq_true c4, eq_true c6, eq_false c20]; done) | omega)
                  · refine lv_iload hx hb dX12_toWrite_152 (lv_at hl 2 rfl) ?_
                    refine lv_goto (tgt := 159) hx hb dX12_toWrite_154 (by decide) ?_
                    exact K16 _ (by first | with_reducible rfl | (simp only [bI, eq_true c1, eq_true c2, eq_true c3, eq_true c4, eq_true c6, eq_true c20, not_true_eq_false, not_false_eq_true, ite_true, ite_false, if_true, if_false, and_self, and_true, true_and, false_and, and_false, or_true, true_or, or_false, false_or]; done) | (simp [bI, eq_true c1, eq_true c2, eq_true c3, eq_true c4, eq_true c6, eq_true c20]; done) | omega)
              · refine lv_iload hx hb dX12_toWrite_133 (lv_at hl 0 rfl) ?_
                refine b_ifeq (tgt := 143) hx hb dX12_toWrite_135 (by decide) (fun c21 => ?_) (fun c21 => ?_)
                · refine lv_iload hx hb dX12_toWrite_143 (lv_at hl 4 rfl) ?_
                  exact K13 _ (by first | with_reducible rfl | (simp only [bI, eq_true c1, eq_true c2, eq_true c3, eq_true c4, eq_true c6, eq_false c21, not_true_eq_false, not_false_eq_true, ite_true, ite_false, if_true, if_false, and_self, and_true, true_and, false_and, and_false, or_true, true_or, or_false, false_or]; done) | (simp [bI, eq_true c1, eq_true c2, eq_true c3, eq_true c4, eq_true c6, eq_false c21]; done) | omega)
                · refine lv_iload hx hb dX12_toWrite_138 (lv_at hl 3 rfl) ?_
                  refine lv_goto (tgt := 145) hx hb dX12_toWrite_140 (by decide) ?_
                  exact K13 _ (by first | with_reducible rfl | (simp only [bI, eq_true c1, eq_true c2, eq_true c3, eq_true c4, eq_true c6, eq_true c21, not_true_eq_false, not_false_eq_true, ite_true, ite_false, if_true, if_false, and_self, and_true, true_and, false_and, and_false, or_true, true_or, or_false, false_or]; done) | (simp [bI, eq_true c1, eq_true c2, eq_true c3, eq_true c4, eq_true c6, eq_true c21]; done) | omega)
            · refine lv_iload_n hx hb dX12_toWrite_103 rfl (lv_at hl 7 rfl) ?_
              refine lv_iload hx hb dX12_toWrite_104 (lv_at hl 1 rfl) ?_
              refine lv_iconst (v := (-1)) hx hb dX12_toWrite_106 (by decide) ?_
              refine lv_ixor hx hb dX12_toWrite_107 ?_
              refine lv_iand hx hb dX12_toWrite_108 ?_
              refine lv_if_ne (tgt := 130) hx hb dX12_toWrite_109 (by decide) (fun c22 => ?_) (fun c22 => ?_)
              · refine lv_iconst (v := 0) hx hb dX12_toWrite_130 (by decide) ?_
                exact K11 _ (by first | with_reducible rfl | (simp only [bI, twP, eq_true c1, eq_true c2, eq_true c3, eq_true c4, eq_true c6, eq_false c22, not_true_eq_false, not_false_eq_true, ite_true, ite_false, if_true, if_false, and_self, and_true, true_and, false_and, and_false, or_true, true_or, or_false, false_or]; done) | (simp [bI, twP, eq_true c1, eq_true c2, eq_true c3, eq_true c4, eq_true c6, eq_false c22]; done) | omega)
              · refine lv_iload hx hb dX12_toWrite_112 (lv_at hl 3 rfl) ?_
                refine lv_ldc (v := (-1000000)) hx hb hown (hts (.constant RX12 44 (-1000000)) (List.mem_of_getElem? (i := 3) rfl)) dX12_toWrite_114 ?_
                refine lv_icmp_eq (tgt := 126) hx hb dX12_toWrite_116 (by decide) (fun c23 => ?_) (fun c23 => ?_)
                · refine lv_iconst (v := 1) hx hb dX12_toWrite_126 (by decide) ?_
                  refine lv_goto (tgt := 131) hx hb dX12_toWrite_127 (by decide) ?_
                  exact K11 _ (by first | with_reducible rfl | (simp only [bI, twP, eq_true c1, eq_true c2, eq_true c3, eq_true c4, eq_true c6, eq_true c22, eq_true c23, not_true_eq_false, not_false_eq_true, ite_true, ite_false, if_true, if_false, and_self, and_true, true_and, false_and, and_false, or_true, true_or, or_false, false_or]; done) | (simp [bI, twP, eq_true c1, eq_true c2, eq_true c3, eq_true c4, eq_true c6, eq_true c22, eq_true c23]; done) | omega)
                · refine lv_iload hx hb dX12_toWrite_119 (lv_at hl 0 rfl) ?_
                  refine lv_iload hx hb dX12_toWrite_121 (lv_at hl 4 rfl) ?_
                  refine lv_icmp_ge (tgt := 130) hx hb dX12_toWrite_123 (by decide) (fun c24 => ?_) (fun c24 => ?_)
                  · refine lv_iconst (v := 0) hx hb dX12_toWrite_130 (by decide) ?_
                    exact K11 _ (by first | with_reducible rfl | (simp only [bI, twP, eq_true c1, eq_true c2, eq_true c3, eq_true c4, eq_true c6, eq_true c22, eq_false c23, eq_true c24, not_true_eq_false, not_false_eq_true, ite_true, ite_false, if_true, if_false, and_self, and_true, true_and, false_and, and_false, or_true, true_or, or_false, false_or]; done) | (simp [bI, twP, eq_true c1, eq_true c2, eq_true c3, eq_true c4, eq_true c6, eq_true c22, eq_false c23, eq_true c24]; done) | omega)
                  · refine lv_iconst (v := 1) hx hb dX12_toWrite_126 (by decide) ?_
                    refine lv_goto (tgt := 131) hx hb dX12_toWrite_127 (by decide) ?_
                    exact K11 _ (by first | with_reducible rfl | (simp only [bI, twP, eq_true c1, eq_true c2, eq_true c3, eq_true c4, eq_true c6, eq_true c22, eq_false c23, eq_false c24, not_true_eq_false, not_false_eq_true, ite_true, ite_false, if_true, if_false, and_self, and_true, true_and, false_and, and_false, or_true, true_or, or_false, false_or]; done) | (simp [bI, twP, eq_true c1, eq_true c2, eq_true c3, eq_true c4, eq_true c6, eq_true c22, eq_false c23, eq_false c24]; done) | omega)
        · refine lv_ldc (v := (-1000002)) hx hb hown (hts (.constant RX12 159 (-1000002)) (List.mem_of_getElem? (i := 2) rfl)) dX12_toWrite_38 ?_
          exact b_ret hx hb hr (by first | (simp only [m_toWrite, eq_true c1, eq_true c2, eq_true c3, eq_false c4, htr, bI, not_true_eq_false, not_false_eq_true, ite_true, ite_false, if_true, if_false, and_self, and_true, true_and, false_and, and_false, or_true, true_or, or_false, false_or, eq_self]; done) | (simp [m_toWrite, eq_true c1, eq_true c2, eq_true c3, eq_false c4, htr, bI]; done)) dX12_toWrite_40 hlocks
      · refine lv_ldc (v := (-1000001)) hx hb hown (hts (.constant RX12 58 (-1000001)) (List.mem_of_getElem? (i := 1) rfl)) dX12_toWrite_27 ?_
        exact b_ret hx hb hr (by first | (simp only [m_toWrite, eq_true c1, eq_true c2, eq_false c3, bI, not_true_eq_false, not_false_eq_true, ite_true, ite_false, if_true, if_false, and_self, and_true, true_and, false_and, and_false, or_true, true_or, or_false, false_or, eq_self]; done) | (simp [m_toWrite, eq_true c1, eq_true c2, eq_false c3, bI]; done)) dX12_toWrite_29 hlocks
theorem u_X12_toDeny_X12 : ∀ w ∈ wsX120, w ∈ wsX12_toDeny := fun _ h => List.mem_cons_of_mem _ (List.mem_append_right _ h)
set_option maxHeartbeats 4000000 in
set_option maxRecDepth 100000 in
theorem c_X12_toDeny (l : Launch) (D : va_G) (cI cZ cT : ClassId) (A0 : Nat → Nat) (ss tp fk fp ap sp tk vl ac tr : Int32) (la ma it sr bt nw dr pa im kp tc : Nat → Int32) (reader what : Int32) (n : Nat) (hW : TK nw n) : Met l yX12_toDeny wsX12_toDeny ({ frames := 4, cells := 0, slots := 0, locals := 95 }) (pR D cI cZ cT [.ref (A0 0), .int reader, .int what] (wM cI cZ A0 ss tp fk fp ap sp tk vl ac tr la ma it sr bt nw dr pa im kp tc)) (QcRead (m_toDeny nw reader what)) 0 0 (fun _ => False) := by
  refine Met.ofW (cc := cX12_toDeny) (maxL := 8) (ret := (some .int)) (by decide) rfl ?_
  intro p e s m args below meth c s₁ B hml hv
  obtain ⟨rfl, hP, hK⟩ := hv
  have hx := B.exec
  have hb := B.bytes
  have hr := B.returns
  have hts := atoms_spec (ws := wsX12_toDeny) B.pre
  have hown : s.vm.findClass RX12 = some m.cls := findClass_of_methodNamed B.named
  have hlocks := B.notSynchronized
  have hl := lv_entry ([.ref (A0 0), .int reader, .int what]) (n := 8) (Nat.le_of_ble_eq_true rfl)
  rw [lg_entry_eq]
  generalize (lg_sl ([.ref (A0 0), .int reader, .int what]) ++ List.replicate (8 - (lg_sl ([.ref (A0 0), .int reader, .int what])).length) Slot.unset).toArray = ls at hl ⊢
  have hl : lv_has ls 8 [(0, .ref (A0 0)), (1, .int reader), (2, .int what)] := hl
  refine lv_aload_n hx hb dX12_toDeny_0 rfl (lv_at hl 0 rfl) ?_
  refine lv_iload_n hx hb dX12_toDeny_1 rfl (lv_at hl 1 rfl) ?_
  refine b_call (va_runV (As := [.int reader]) (rest := []) ⟨hx, hb, hml, hown, hts⟩ (c_X12_isReader l D cI cZ cT A0 ss tp fk fp ap sp tk vl ac tr la ma it sr bt nw dr pa im kp tc reader) (cwV 1 hts gX12_toDeny_X12_isReader rfl rfl rfl (by decide +kernel) ⟨(Nat.le_of_ble_eq_true rfl), (Nat.le_of_ble_eq_true rfl)⟩) (b_pV hK hP [0, 1, 2, 3, 4, 5, 6, 7, 8, 9, 10, 11] rfl 0 rfl rfl) rfl rfl hl.1 rfl (lv_room (Nat.le_of_ble_eq_true rfl)) dX12_toDeny_2 ⟨Nat.zero_le _, Nat.zero_le _⟩).run ?_
  refine b_ifeq (tgt := 17) hx hb dX12_toDeny_5 (by decide) (fun c1 => ?_) (fun c1 => ?_)
  · refine lv_ldc (v := (-1000001)) hx hb hown (hts (.constant RX12 58 (-1000001)) (List.mem_of_getElem? (i := 1) rfl)) dX12_toDeny_17 ?_
    exact b_ret hx hb hr (by first | (simp only [m_toDeny, eq_false c1, bI, not_true_eq_false, not_false_eq_true, ite_true, ite_false, if_true, if_false, and_self, and_true, true_and, false_and, and_false, or_true, true_or, or_false, false_or, eq_self]; done) | (simp [m_toDeny, eq_false c1, bI]; done)) dX12_toDeny_19 hlocks
  · refine lv_iload_n hx hb dX12_toDeny_8 rfl (lv_at hl 2 rfl) ?_
    refine lv_iconst (v := 0) hx hb dX12_toDeny_9 (by decide) ?_
    refine lv_iconst (v := 1) hx hb dX12_toDeny_10 (by decide) ?_
    refine b_call (va_runS (As := [.int what, .int 0, .int 1]) (rest := []) ⟨hx, hb, hml, hown, hts⟩ (c_X12_in l D cI cZ cT what 0 1) (va_cwS 3 hts gX12_toDeny_X12_in rfl rfl rfl (by decide +kernel) ⟨(Nat.le_of_ble_eq_true rfl), (Nat.le_of_ble_eq_true rfl)⟩) (b_pS0 hK) rfl rfl hl.1 rfl (lv_room (Nat.le_of_ble_eq_true rfl)) dX12_toDeny_11 ⟨Nat.zero_le _, Nat.zero_le _⟩).run ?_
    refine b_ifne (tgt := 20) hx hb dX12_toDeny_14 (by decide) (fun c2 => ?_) (fun c2 => ?_)
    · obtain ⟨r, hh_r, rfl⟩ : ∃ r : Nat, r ≤ 5 ∧ reader = nI r := i_rd hW c1
      have hl : lv_has ls 8 [(0, .ref (A0 0)), (1, .int (nI (r))), (2, .int what)] := hl
      have htr : tn (nI r) = r := tn_nI hh_r
      refine lv_iconst (v := (nI 4)) hx hb dX12_toDeny_20 (by decide) ?_
      refine lv_iconst (v := (nI 4)) hx hb dX12_toDeny_21 (by decide) ?_
      refine lv_iload_n hx hb dX12_toDeny_22 rfl (lv_at hl 1 rfl) ?_
      refine b_mul hx hb dX12_toDeny_23 ?_
      refine b_add hx hb dX12_toDeny_24 ?_
      refine lv_istore_n (lv' := [(3, .int (nI (4 + (4 * r)))), (0, .ref (A0 0)), (1, .int (nI (r))), (2, .int what)]) hx hb dX12_toDeny_25 rfl hl (by decide) rfl (fun ls hl => ?_)
      refine lv_ldc (v := (-1000000)) hx hb hown (hts (.constant RX12 44 (-1000000)) (List.mem_of_getElem? (i := 2) rfl)) dX12_toDeny_26 ?_
      refine lv_istore (lv' := [(4, .int (-1000000)), (3, .int (nI (4 + (4 * r)))), (0, .ref (A0 0)), (1, .int (nI (r))), (2, .int what)]) hx hb dX12_toDeny_28 hl (by decide) rfl (fun ls hl => ?_)
      refine lv_iconst (v := (nI 0)) hx hb dX12_toDeny_30 (by decide) ?_
      refine lv_istore (lv' := [(5, .int (nI 0)), (4, .int (-1000000)), (3, .int (nI (4 + (4 * r)))), (0, .ref (A0 0)), (1, .int (nI (r))), (2, .int what)]) hx hb dX12_toDeny_31 hl (by decide) rfl (fun ls hl => ?_)
      refine b_loopR (N := 64) (I := fun k ls => lv_has ls 8 [(5, .int (nI (k))), (4, .int (tdB nw r k)), (0, .ref (A0 0)), (1, .int (nI (r))), (2, .int what), (3, .int (nI (4 + (4 * r))))]) (fun k hk ih3 ls hI => ?_) 0 (by omega) (lv_sub hl [0, 1, 3, 4, 5, 2] rfl)
      have hl := hI
      have hl : lv_has ls 8 [(5, .int (nI (k))), (4, .int (tdB nw r k)), (0, .ref (A0 0)), (1, .int (nI (r))), (2, .int what), (3, .int (nI (4 + (4 * r))))] := hl
      refine lv_iload hx hb dX12_toDeny_33 (lv_at hl 0 rfl) ?_
      refine lv_bipush (v := (nI 64)) hx hb dX12_toDeny_35 (by decide) ?_
      refine b_ge (tgt := 152) hx hb (by omega) (by omega) dX12_toDeny_37 (by decide) (fun c4 => ?_) (fun c4 => ?_)
      · have h_k : 64 = k := by omega
        subst h_k
        refine lv_iload hx hb dX12_toDeny_152 (lv_at hl 1 rfl) ?_
        refine lv_ldc (v := (-1000000)) hx hb hown (hts (.constant RX12 44 (-1000000)) (List.mem_of_getElem? (i := 2) rfl)) dX12_toDeny_154 ?_
        refine lv_icmp_eq (tgt := 164) hx hb dX12_toDeny_156 (by decide) (fun c5 => ?_) (fun c5 => ?_)
        · refine lv_iload hx hb dX12_toDeny_164 (lv_at hl 1 rfl) ?_
          refine lv_goto (tgt := 174) hx hb dX12_toDeny_166 (by decide) ?_
          exact b_ret hx hb hr (by first | (simp only [m_toDeny, eq_true c1, eq_true c2, eq_true c4, eq_true c5, htr, bI, not_true_eq_false, not_false_eq_true, ite_true, ite_false, if_true, if_false, and_self, and_true, true_and, false_and, and_false, or_true, true_or, or_false, false_or, eq_self]; done) | (simp [m_toDeny, eq_true c1, eq_true c2, eq_true c4, eq_true c5, htr, bI]; done)) dX12_toDeny_174 hlocks
        · refine lv_iload_n hx hb dX12_toDeny_159 rfl (lv_at hl 4 rfl) ?_
          refine lv_iconst (v := 1) hx hb dX12_toDeny_160 (by decide) ?_
          refine lv_icmp_ne (tgt := 169) hx hb dX12_toDeny_161 (by decide) (fun c6 => ?_) (fun c6 => ?_)
          · refine lv_iload hx hb dX12_toDeny_169 (lv_at hl 1 rfl) ?_
            refine b_call (va_runS (As := [.int (tdB nw r 64)]) (rest := []) ⟨hx, hb, hml, hown, hts⟩ (c_X12_ones l D cI cZ cT (tdB nw r 64)) (va_cwS 1 hts gX12_toDeny_X12_ones rfl rfl rfl (by decide +kernel) ⟨(Nat.le_of_ble_eq_true rfl), (Nat.le_of_ble_eq_true rfl)⟩) (b_pS0 hK) rfl rfl hl.1 rfl (lv_room (Nat.le_of_ble_eq_true rfl)) dX12_toDeny_171 ⟨Nat.zero_le _, Nat.zero_le _⟩).run ?_
            exact b_ret hx hb hr (by first | (simp only [m_toDeny, eq_true c1, eq_true c2, eq_true c4, eq_false c5, eq_false c6, htr, bI, not_true_eq_false, not_false_eq_true, ite_true, ite_false, if_true, if_false, and_self, and_true, true_and, false_and, and_false, or_true, true_or, or_false, false_or, eq_self]; done) | (simp [m_toDeny, eq_true c1, eq_true c2, eq_true c4, eq_false c5, eq_false c6, htr, bI]; done)) dX12_toDeny_174 hlocks
          · refine lv_iload hx hb dX12_toDeny_164 (lv_at hl 1 rfl) ?_
            refine lv_goto (tgt := 174) hx hb dX12_toDeny_166 (by decide) ?_
            exact b_ret hx hb hr (by first | (simp only [m_toDeny, eq_true c1, eq_true c2, eq_true c4, eq_false c5, eq_true c6, htr, bI, not_true_eq_false, not_false_eq_true, ite_true, ite_false, if_true, if_false, and_self, and_true, true_and, false_and, and_false, or_true, true_or, or_false, false_or, eq_self]; done) | (simp [m_toDeny, eq_true c1, eq_true c2, eq_true c4, eq_false c5, eq_true c6, htr, bI]; done)) dX12_toDeny_174 hlocks
      · refine lv_aload_n hx hb dX12_toDeny_40 rfl (lv_at hl 2 rfl) ?_
        refine lv_iload_n hx hb dX12_toDeny_41 rfl (lv_at hl 3 rfl) ?_
        refine lv_aload_n hx hb dX12_toDeny_42 rfl (lv_at hl 2 rfl) ?_
        refine va_get (D := D) (ci := 11) (v := .ref (A0 6)) (C := RX12) (T := TX12) (N := 21) hx hb hts u_X12_toDeny_X12 hown hK.1 hP 0 rfl rfl 13 (by decide) (hts (.fieldLink RX12 25 "NoticeWeekModel" "now" "[I") (List.mem_of_getElem? (i := 3) rfl)) (fun _ h9 => h9) rfl dX12_toDeny_43 ?_
        refine lv_iload_n hx hb dX12_toDeny_46 rfl (lv_at hl 5 rfl) ?_
        refine b_ald hx hb hK hP 6 rfl (by omega) (by decide) dX12_toDeny_47 ?_
        refine lv_aload_n hx hb dX12_toDeny_48 rfl (lv_at hl 2 rfl) ?_
        refine va_get (D := D) (ci := 11) (v := .ref (A0 6)) (C := RX12) (T := TX12) (N := 21) hx hb hts u_X12_toDeny_X12 hown hK.1 hP 0 rfl rfl 13 (by decide) (hts (.fieldLink RX12 25 "NoticeWeekModel" "now" "[I") (List.mem_of_getElem? (i := 3) rfl)) (fun _ h9 => h9) rfl dX12_toDeny_49 ?_
        refine lv_iload_n hx hb dX12_toDeny_52 rfl (lv_at hl 5 rfl) ?_
        refine lv_iconst (v := (nI 1)) hx hb dX12_toDeny_53 (by decide) ?_
        refine b_add hx hb dX12_toDeny_54 ?_
        refine b_ald hx hb hK hP 6 rfl (by omega) (by decide) dX12_toDeny_55 ?_
        refine lv_iload hx hb dX12_toDeny_56 (lv_at hl 0 rfl) ?_
        refine lv_iconst (v := (-1)) hx hb dX12_toDeny_58 (by decide) ?_
        refine lv_ixor hx hb dX12_toDeny_59 ?_
        refine lv_iand hx hb dX12_toDeny_60 ?_
        refine lv_aload_n hx hb dX12_toDeny_61 rfl (lv_at hl 2 rfl) ?_
        refine va_get (D := D) (ci := 11) (v := .ref (A0 6)) (C := RX12) (T := TX12) (N := 21) hx hb hts u_X12_toDeny_X12 hown hK.1 hP 0 rfl rfl 13 (by decide) (hts (.fieldLink RX12 25 "NoticeWeekModel" "now" "[I") (List.mem_of_getElem? (i := 3) rfl)) (fun _ h9 => h9) rfl dX12_toDeny_62 ?_
        refine lv_iload_n hx hb dX12_toDeny_65 rfl (lv_at hl 5 rfl) ?_
        refine lv_iconst (v := (nI 2)) hx hb dX12_toDeny_66 (by decide) ?_
        refine b_add hx hb dX12_toDeny_67 ?_
        refine b_ald hx hb hK hP 6 rfl (by omega) (by decide) dX12_toDeny_68 ?_
        refine lv_bipush (v := (nI 60)) hx hb dX12_toDeny_69 (by decide) ?_
        refine b_call (va_runV (As := [.int (nI (r)), .int (nw (4 + (4 * r))), .int ((nw (4 + (4 * r) + 1)) &&& ((nI (k)) ^^^ (-1))), .int (nw (4 + (4 * r) + 2)), .int (nI 60)]) (rest := []) ⟨hx, hb, hml, hown, hts⟩ (c_X12_doneIn l D cI cZ cT A0 ss tp fk fp ap sp tk vl ac tr la ma it sr bt nw dr pa im kp tc r (nw (4 + (4 * r))) ((nw (4 + (4 * r) + 1)) &&& ((nI (k)) ^^^ (-1))) (nw (4 + (4 * r) + 2)) 60 n (by omega) (by omega) hW) (cwV 5 hts gX12_toDeny_X12_doneIn rfl rfl rfl (by decide +kernel) ⟨(Nat.le_of_ble_eq_true rfl), (Nat.le_of_ble_eq_true rfl)⟩) (b_pV hK hP [0, 1, 2, 3, 4, 5, 6, 7, 8, 9, 10, 11] rfl 0 rfl rfl) rfl rfl hl.1 rfl (lv_room (Nat.le_of_ble_eq_true rfl)) dX12_toDeny_71 ⟨Nat.zero_le _, Nat.zero_le _⟩).run ?_
        refine lv_topi (fun x7 ex7 => ?_)
        refine lv_istore (lv' := [(6, .int x7), (5, .int (nI (k))), (4, .int (tdB nw r k)), (0, .ref (A0 0)), (1, .int (nI (r))), (2, .int what), (3, .int (nI (4 + (4 * r))))]) hx hb dX12_toDeny_74 hl (by decide) rfl (fun ls hl => ?_)
        have hx6 : x7 = tdD nw r k := ex7
        rw [hx6] at hl
        have hl : lv_has ls 8 [(6, .int (tdD nw r k)), (5, .int (nI (k))), (4, .int (tdB nw r k)), (0, .ref (A0 0)), (1, .int (nI (r))), (2, .int what), (3, .int (nI (4 + (4 * r))))] := hl
        refine b_join (jpc := 110) (rest' := []) (P := fun v : Int32 => v = ((bI (tdP nw r k)) : Int32)) (fun v8 ev8 => ?_) (fun K9 => ?_)
        · subst ev8
          refine lv_istore (lv' := [(7, .int (bI (tdP nw r k))), (6, .int (tdD nw r k)), (5, .int (nI (k))), (4, .int (tdB nw r k)), (0, .ref (A0 0)), (1, .int (nI (r))), (2, .int what), (3, .int (nI (4 + (4 * r))))]) hx hb dX12_toDeny_110 hl (by decide) rfl (fun ls hl => ?_)
          refine b_join (jpc := 144) (rest' := []) (P := fun v : Int32 => v = ((if (tdP nw r k) ∧ ((tdB nw r k) = -1000000 ∨ ¬ ones8 (tdB nw r k) ≤ ones8 (nI k)) then nI k else (tdB nw r k)) : Int32)) (fun v10 ev10 => ?_) (fun K11 => ?_)
          · subst ev10
            refine lv_topi (fun x12 ex12 => ?_)
            refine lv_istore (lv' := [(4, .int x12), (7, .int (bI (tdP nw r k))), (6, .int (tdD nw r k)), (5, .int (nI (k))), (0, .ref (A0 0)), (1, .int (nI (r))), (2, .int what), (3, .int (nI (4 + (4 * r))))]) hx hb dX12_toDeny_144 hl (by decide) rfl (fun ls hl => ?_)
            refine lv_iinc (v := (nI (k + 1))) (lv' := [(5, .int (nI (k + 1))), (4, .int x12), (7, .int (bI (tdP nw r k))), (6, .int (tdD nw r k)), (0, .ref (A0 0)), (1, .int (nI (r))), (2, .int what), (3, .int (nI (4 + (4 * r))))]) hx hb dX12_toDeny_146 hl (k := 3) rfl (nI_add _ _) (by decide) rfl (fun ls hl => ?_)
            refine lv_goto (tgt := 33) hx hb dX12_toDeny_149 (by decide) ?_
            try subst ex12
            try subst ex7
            exact ih3 (by omega) ls (lv_sub hl [0, 1, 4, 5, 6, 7] rfl)
          · refine lv_iload hx hb dX12_toDeny_112 (lv_at hl 0 rfl) ?_
            refine b_ifeq (tgt := 142) hx hb dX12_toDeny_114 (by decide) (fun c13 => ?_) (fun c13 => ?_)
            · refine lv_iload hx hb dX12_toDeny_142 (lv_at hl 3 rfl) ?_
              exact K11 _ (by first | with_reducible rfl | (simp only [bI, eq_true c1, eq_true c2, eq_true c4, eq_false c13, not_true_eq_false, not_false_eq_true, ite_true, ite_false, if_true, if_false, and_self, and_true, true_and, false_and, and_false, or_true, true_or, or_false, false_or]; done) | (simp [bI, eq_true c1, eq_true c2, eq_true c4, eq_false c13]; done) | omega)
            · refine lv_iload hx hb dX12_toDeny_117 (lv_at hl 3 rfl) ?_
              refine lv_ldc (v := (-1000000)) hx hb hown (hts (.constant RX12 44 (-1000000)) (List.mem_of_getElem? (i := 2) rfl)) dX12_toDeny_119 ?_
              refine lv_icmp_eq (tgt := 137) hx hb dX12_toDeny_121 (by decide) (fun c14 => ?_) (fun c14 => ?_)
              · refine lv_iload hx hb dX12_toDeny_137 (lv_at hl 2 rfl) ?_
                refine lv_goto (tgt := 144) hx hb dX12_toDeny_139 (by decide) ?_
                exact K11 _ (by first | with_reducible rfl | (simp only [bI, eq_true c1, eq_true c2, eq_true c4, eq_true c13, eq_true c14, not_true_eq_false, not_false_eq_true, ite_true, ite_false, if_true, if_false, and_self, and_true, true_and, false_and, and_false, or_true, true_or, or_false, false_or]; done) | (simp [bI, eq_true c1, eq_true c2, eq_true c4, eq_true c13, eq_true c14]; done) | omega)
              · refine lv_iload hx hb dX12_toDeny_124 (lv_at hl 2 rfl) ?_
                refine b_call (va_runS (As := [.int (nI (k))]) (rest := []) ⟨hx, hb, hml, hown, hts⟩ (c_X12_ones l D cI cZ cT (nI (k))) (va_cwS 1 hts gX12_toDeny_X12_ones rfl rfl rfl (by decide +kernel) ⟨(Nat.le_of_ble_eq_true rfl), (Nat.le_of_ble_eq_true rfl)⟩) (b_pS0 hK) rfl rfl hl.1 rfl (lv_room (Nat.le_of_ble_eq_true rfl)) dX12_toDeny_126 ⟨Nat.zero_le _, Nat.zero_le _⟩).run ?_
                refine lv_iload hx hb dX12_toDeny_129 (lv_at hl 3 rfl) ?_
                refine b_call (va_runS (As := [.int (tdB nw r k)]) (rest := [.int (ones8 (nI (k)))]) ⟨hx, hb, hml, hown, hts⟩ (c_X12_ones l D cI cZ cT (tdB nw r k)) (va_cwS 1 hts gX12_toDeny_X12_ones rfl rfl rfl (by decide +kernel) ⟨(Nat.le_of_ble_eq_true rfl), (Nat.le_of_ble_eq_true rfl)⟩) (b_pS0 hK) rfl rfl hl.1 rfl (lv_room (Nat.le_of_ble_eq_true rfl)) dX12_toDeny_131 ⟨Nat.zero_le _, Nat.zero_le _⟩).run ?_
                refine lv_icmp_ge (tgt := 142) hx hb dX12_toDeny_134 (by decide) (fun c15 => ?_) (fun c15 => ?_)
                · refine lv_iload hx hb dX12_toDeny_142 (lv_at hl 3 rfl) ?_
                  exact K11 _ (by first | with_reducible rfl | (simp only [bI, eq_true c1, eq_true c2, eq_true c4, eq_true c13, eq_false c14, eq_true c15, not_true_eq_false, not_false_eq_true, ite_true, ite_false, if_true, if_false, and_self, and_true, true_and, false_and, and_false, or_true, true_or, or_false, false_or]; done) | (simp [bI, eq_true c1, eq_true c2, eq_true c4, eq_true c13, eq_false c14, eq_true c15]; done) | omega)
                · refine lv_iload hx hb dX12_toDeny_137 (lv_at hl 2 rfl) ?_
                  refine lv_goto (tgt := 144) hx hb dX12_toDeny_139 (by decide) ?_
                  exact K11 _ (by first | with_reducible rfl | (simp only [bI, eq_true c1, eq_true c2, eq_true c4, eq_true c13, eq_false c14, eq_false c15, not_true_eq_false, not_false_eq_true, ite_true, ite_false, if_true, if_false, and_self, and_true, true_and, false_and, and_false, or_true, true_or, or_false, false_or]; done) | (simp [bI, eq_true c1, eq_true c2, eq_true c4, eq_true c13, eq_false c14, eq_false c15]; done) | omega)
        · refine lv_iload hx hb dX12_toDeny_76 (lv_at hl 1 rfl) ?_
          refine lv_aload_n hx hb dX12_toDeny_78 rfl (lv_at hl 3 rfl) ?_
          refine va_get (D := D) (ci := 11) (v := .ref (A0 6)) (C := RX12) (T := TX12) (N := 21) hx hb hts u_X12_toDeny_X12 hown hK.1 hP 0 rfl rfl 13 (by decide) (hts (.fieldLink RX12 25 "NoticeWeekModel" "now" "[I") (List.mem_of_getElem? (i := 3) rfl)) (fun _ h9 => h9) rfl dX12_toDeny_79 ?_
          refine lv_iload_n hx hb dX12_toDeny_82 rfl (lv_at hl 6 rfl) ?_
          refine lv_iconst (v := (nI 1)) hx hb dX12_toDeny_83 (by decide) ?_
          refine b_add hx hb dX12_toDeny_84 ?_
          refine b_ald hx hb hK hP 6 rfl (by omega) (by decide) dX12_toDeny_85 ?_
          refine lv_iconst (v := (-1)) hx hb dX12_toDeny_86 (by decide) ?_
          refine lv_ixor hx hb dX12_toDeny_87 ?_
          refine lv_iand hx hb dX12_toDeny_88 ?_
          refine lv_if_ne (tgt := 109) hx hb dX12_toDeny_89 (by decide) (fun c16 => ?_) (fun c16 => ?_)
          · refine lv_iconst (v := 0) hx hb dX12_toDeny_109 (by decide) ?_
            exact K9 _ (by first | with_reducible rfl | (simp only [bI, tdP, eq_true c1, eq_true c2, eq_true c4, eq_false c16, not_true_eq_false, not_false_eq_true, ite_true, ite_false, if_true, if_false, and_self, and_true, true_and, false_and, and_false, or_true, true_or, or_false, false_or]; done) | (simp [bI, tdP, eq_true c1, eq_true c2, eq_true c4, eq_false c16]; done) | omega)
          · refine lv_iload hx hb dX12_toDeny_92 (lv_at hl 0 rfl) ?_
            refine lv_aload_n hx hb dX12_toDeny_94 rfl (lv_at hl 3 rfl) ?_
            refine va_get (D := D) (ci := 11) (v := .ref (A0 6)) (C := RX12) (T := TX12) (N := 21) hx hb hts u_X12_toDeny_X12 hown hK.1 hP 0 rfl rfl 13 (by decide) (hts (.fieldLink RX12 25 "NoticeWeekModel" "now" "[I") (List.mem_of_getElem? (i := 3) rfl)) (fun _ h9 => h9) rfl dX12_toDeny_95 ?_
            refine lv_iload_n hx hb dX12_toDeny_98 rfl (lv_at hl 6 rfl) ?_
            refine lv_iconst (v := (nI 2)) hx hb dX12_toDeny_99 (by decide) ?_
            refine b_add hx hb dX12_toDeny_100 ?_
            refine b_ald hx hb hK hP 6 rfl (by omega) (by decide) dX12_toDeny_101 ?_
            refine lv_icmp_ne (tgt := 109) hx hb dX12_toDeny_102 (by decide) (fun c17 => ?_) (fun c17 => ?_)
            · refine lv_iconst (v := 0) hx hb dX12_toDeny_109 (by decide) ?_
              exact K9 _ (by first | with_reducible rfl | (simp only [bI, tdP, eq_true c1, eq_true c2, eq_true c4, eq_true c16, eq_false c17, not_true_eq_false, not_false_eq_true, ite_true, ite_false, if_true, if_false, and_self, and_true, true_and, false_and, and_false, or_true, true_or, or_false, false_or]; done) | (simp [bI, tdP, eq_true c1, eq_true c2, eq_true c4, eq_true c16, eq_false c17]; done) | omega)
            · refine lv_iconst (v := 1) hx hb dX12_toDeny_105 (by decide) ?_
              refine lv_goto (tgt := 110) hx hb dX12_toDeny_106 (by decide) ?_
              exact K9 _ (by first | with_reducible rfl | (simp only [bI, tdP, eq_true c1, eq_true c2, eq_true c4, eq_true c16, eq_true c17, not_true_eq_false, not_false_eq_true, ite_true, ite_false, if_true, if_false, and_self, and_true, true_and, false_and, and_false, or_true, true_or, or_false, false_or]; done) | (simp [bI, tdP, eq_true c1, eq_true c2, eq_true c4, eq_true c16, eq_true c17]; done) | omega)
    · refine lv_ldc (v := (-1000001)) hx hb hown (hts (.constant RX12 58 (-1000001)) (List.mem_of_getElem? (i := 1) rfl)) dX12_toDeny_17 ?_
      exact b_ret hx hb hr (by first | (simp only [m_toDeny, eq_true c1, eq_false c2, bI, not_true_eq_false, not_false_eq_true, ite_true, ite_false, if_true, if_false, and_self, and_true, true_and, false_and, and_false, or_true, true_or, or_false, false_or, eq_self]; done) | (simp [m_toDeny, eq_true c1, eq_false c2, bI]; done)) dX12_toDeny_19 hlocks
theorem u_X12_print_X12 : ∀ w ∈ wsX120, w ∈ wsX12_print := fun _ h => List.mem_cons_of_mem _ (List.mem_append_right _ h)
set_option maxHeartbeats 4000000 in
set_option maxRecDepth 100000 in
theorem c_X12_print (l : Launch) (D : va_G) (cI cZ cT : ClassId) (A0 : Nat → Nat) (ss tp fk fp ap sp tk vl ac tr : Int32) (la ma it sr bt nw dr pa im kp tc : Nat → Int32) (what : Int32) (n : Nat) (hW : TK nw n) : Met l yX12_print wsX12_print ({ frames := 1, cells := 0, slots := 0, locals := 22 }) (pR D cI cZ cT [.ref (A0 0), .int what] (wM cI cZ A0 ss tp fk fp ap sp tk vl ac tr la ma it sr bt nw dr pa im kp tc)) (QcRead (m_print nw n what)) 0 0 (fun _ => False) := by
  refine Met.ofW (cc := cX12_print) (maxL := 9) (ret := (some .int)) (by decide) rfl ?_
  intro p e s m args below meth c s₁ B hml hv
  obtain ⟨rfl, hP, hK⟩ := hv
  have hx := B.exec
  have hb := B.bytes
  have hr := B.returns
  have hts := atoms_spec (ws := wsX12_print) B.pre
  have hown : s.vm.findClass RX12 = some m.cls := findClass_of_methodNamed B.named
  have hlocks := B.notSynchronized
  have hl := lv_entry ([.ref (A0 0), .int what]) (n := 9) (Nat.le_of_ble_eq_true rfl)
  rw [lg_entry_eq]
  generalize (lg_sl ([.ref (A0 0), .int what]) ++ List.replicate (9 - (lg_sl ([.ref (A0 0), .int what])).length) Slot.unset).toArray = ls at hl ⊢
  have hl : lv_has ls 9 [(0, .ref (A0 0)), (1, .int what)] := hl
  have hn6 := hW.1
  obtain ⟨pw, hpw1, hpw64, hpw2, hpw⟩ := shl1 hn6
  refine lv_aload_n hx hb dX12_print_0 rfl (lv_at hl 0 rfl) ?_
  refine b_call (va_runV (As := []) (rest := []) ⟨hx, hb, hml, hown, hts⟩ (c_X12_isTown l D cI cZ cT A0 ss tp fk fp ap sp tk vl ac tr la ma it sr bt nw dr pa im kp tc) (cwV 0 hts gX12_print_X12_isTown rfl rfl rfl (by decide +kernel) ⟨(Nat.le_of_ble_eq_true rfl), (Nat.le_of_ble_eq_true rfl)⟩) (b_pV hK hP [0, 1, 2, 3, 4, 5, 6, 7, 8, 9, 10, 11] rfl 0 rfl rfl) rfl rfl hl.1 rfl (lv_room (Nat.le_of_ble_eq_true rfl)) dX12_print_1 ⟨Nat.zero_le _, Nat.zero_le _⟩).run ?_
  refine b_ifne (tgt := 10) hx hb dX12_print_4 (by decide) (fun c1 => ?_) (fun c1 => ?_)
  · refine lv_iload_n hx hb dX12_print_10 rfl (lv_at hl 1 rfl) ?_
    refine lv_iconst (v := 0) hx hb dX12_print_11 (by decide) ?_
    refine lv_iconst (v := 1) hx hb dX12_print_12 (by decide) ?_
    refine b_call (va_runS (As := [.int what, .int 0, .int 1]) (rest := []) ⟨hx, hb, hml, hown, hts⟩ (c_X12_in l D cI cZ cT what 0 1) (va_cwS 3 hts gX12_print_X12_in rfl rfl rfl (by decide +kernel) ⟨(Nat.le_of_ble_eq_true rfl), (Nat.le_of_ble_eq_true rfl)⟩) (b_pS0 hK) rfl rfl hl.1 rfl (lv_room (Nat.le_of_ble_eq_true rfl)) dX12_print_13 ⟨Nat.zero_le _, Nat.zero_le _⟩).run ?_
    refine b_ifne (tgt := 22) hx hb dX12_print_16 (by decide) (fun c2 => ?_) (fun c2 => ?_)
    · refine lv_iconst (v := 0) hx hb dX12_print_22 (by decide) ?_
      refine lv_istore_n (lv' := [(2, .int 0), (0, .ref (A0 0)), (1, .int what)]) hx hb dX12_print_23 rfl hl (by decide) rfl (fun ls hl => ?_)
      refine lv_iconst (v := 0) hx hb dX12_print_24 (by decide) ?_
      refine lv_istore_n (lv' := [(3, .int 0), (2, .int 0), (0, .ref (A0 0)), (1, .int what)]) hx hb dX12_print_25 rfl hl (by decide) rfl (fun ls hl => ?_)
      refine lv_iconst (v := (nI 1)) hx hb dX12_print_26 (by decide) ?_
      refine lv_istore (lv' := [(4, .int (nI 1)), (3, .int 0), (2, .int 0), (0, .ref (A0 0)), (1, .int what)]) hx hb dX12_print_27 hl (by decide) rfl (fun ls hl => ?_)
      refine b_loopR (N := pw - 1) (I := fun j ls => lv_has ls 9 [(4, .int (nI (j + 1))), (2, .int ((plL nw n j).1)), (3, .int ((plL nw n j).2)), (0, .ref (A0 0)), (1, .int what)]) (fun j hj ih3 ls hI => ?_) 0 (by omega) (lv_sub hl [0, 2, 1, 3, 4] rfl)
      have hl := hI
      have hl : lv_has ls 9 [(4, .int (nI (j + 1))), (2, .int ((plL nw n j).1)), (3, .int ((plL nw n j).2)), (0, .ref (A0 0)), (1, .int what)] := hl
      refine lv_iload hx hb dX12_print_29 (lv_at hl 0 rfl) ?_
      refine lv_iconst (v := 1) hx hb dX12_print_31 (by decide) ?_
      refine lv_aload_n hx hb dX12_print_32 rfl (lv_at hl 3 rfl) ?_
      refine va_get (D := D) (ci := 11) (v := .ref (A0 6)) (C := RX12) (T := TX12) (N := 21) hx hb hts u_X12_print_X12 hown hK.1 hP 0 rfl rfl 13 (by decide) (hts (.fieldLink RX12 25 "NoticeWeekModel" "now" "[I") (List.mem_of_getElem? (i := 3) rfl)) (fun _ h9 => h9) rfl dX12_print_33 ?_
      refine lv_iconst (v := (nI 3)) hx hb dX12_print_36 (by decide) ?_
      refine b_ald hx hb hK hP 6 rfl (by omega) (by decide) dX12_print_37 ?_
      rw [hW.2.1]
      refine lv_ishl hx hb dX12_print_38 ?_
      rw [hpw]
      refine b_ge (tgt := 220) hx hb (by omega) (by omega) dX12_print_39 (by decide) (fun c4 => ?_) (fun c4 => ?_)
      · have hj : j = 2 ^ n - 1 := by rw [← hpw2]; omega
        refine lv_iload_n hx hb dX12_print_220 rfl (lv_at hl 4 rfl) ?_
        refine lv_if_ne (tgt := 228) hx hb dX12_print_221 (by decide) (fun c5 => ?_) (fun c5 => ?_)
        · refine lv_iload_n hx hb dX12_print_228 rfl (lv_at hl 1 rfl) ?_
          exact b_ret hx hb hr (by unfold m_print; rw [if_neg (fun z => z c1), if_neg (fun z => z c2), if_neg c5, hj]) dX12_print_229 hlocks
        · refine lv_iload_n hx hb dX12_print_224 rfl (lv_at hl 2 rfl) ?_
          refine lv_goto (tgt := 229) hx hb dX12_print_225 (by decide) ?_
          exact b_ret hx hb hr (by unfold m_print; rw [if_neg (fun z => z c1), if_neg (fun z => z c2), if_pos c5, hj]) dX12_print_229 hlocks
      · refine lv_iconst (v := 0) hx hb dX12_print_42 (by decide) ?_
        refine lv_istore (lv' := [(5, .int 0), (4, .int (nI (j + 1))), (2, .int ((plL nw n j).1)), (3, .int ((plL nw n j).2)), (0, .ref (A0 0)), (1, .int what)]) hx hb dX12_print_43 hl (by decide) rfl (fun ls hl => ?_)
        refine lv_iconst (v := 0) hx hb dX12_print_45 (by decide) ?_
        refine lv_istore (lv' := [(6, .int 0), (5, .int 0), (4, .int (nI (j + 1))), (2, .int ((plL nw n j).1)), (3, .int ((plL nw n j).2)), (0, .ref (A0 0)), (1, .int what)]) hx hb dX12_print_46 hl (by decide) rfl (fun ls hl => ?_)
        refine lv_iconst (v := (nI 0)) hx hb dX12_print_48 (by decide) ?_
        refine lv_istore (lv' := [(7, .int (nI 0)), (6, .int 0), (5, .int 0), (4, .int (nI (j + 1))), (2, .int ((plL nw n j).1)), (3, .int ((plL nw n j).2)), (0, .ref (A0 0)), (1, .int what)]) hx hb dX12_print_49 hl (by decide) rfl (fun ls hl => ?_)
        refine b_loopR (N := n) (I := fun i ls => lv_has ls 9 [(7, .int (nI (i))), (5, .int (plA nw (nI (j + 1)) i)), (6, .int (plB nw (nI (j + 1)) i)), (4, .int (nI (j + 1))), (2, .int ((plL nw n j).1)), (3, .int ((plL nw n j).2)), (0, .ref (A0 0)), (1, .int what)]) (fun i hi ih6 ls hI => ?_) 0 (by omega) (lv_sub hl [0, 2, 1, 3, 4, 5, 6, 7] rfl)
        have hl := hI
        have hl : lv_has ls 9 [(7, .int (nI (i))), (5, .int (plA nw (nI (j + 1)) i)), (6, .int (plB nw (nI (j + 1)) i)), (4, .int (nI (j + 1))), (2, .int ((plL nw n j).1)), (3, .int ((plL nw n j).2)), (0, .ref (A0 0)), (1, .int what)] := hl
        refine lv_iload hx hb dX12_print_51 (lv_at hl 0 rfl) ?_
        refine lv_aload_n hx hb dX12_print_53 rfl (lv_at hl 6 rfl) ?_
        refine va_get (D := D) (ci := 11) (v := .ref (A0 6)) (C := RX12) (T := TX12) (N := 21) hx hb hts u_X12_print_X12 hown hK.1 hP 0 rfl rfl 13 (by decide) (hts (.fieldLink RX12 25 "NoticeWeekModel" "now" "[I") (List.mem_of_getElem? (i := 3) rfl)) (fun _ h9 => h9) rfl dX12_print_54 ?_
        refine lv_iconst (v := (nI 3)) hx hb dX12_print_57 (by decide) ?_
        refine b_ald hx hb hK hP 6 rfl (by omega) (by decide) dX12_print_58 ?_
        rw [hW.2.1]
        refine b_ge (tgt := 148) hx hb (by omega) (by omega) dX12_print_59 (by decide) (fun c7 => ?_) (fun c7 => ?_)
        · have h_i : n = i := by omega
          subst h_i
          refine b_join (jpc := 188) (rest' := []) (P := fun v : Int32 => v = ((bI (plP nw n (nI (j + 1)) (plL nw n j))) : Int32)) (fun v8 ev8 => ?_) (fun K9 => ?_)
          · subst ev8
            refine lv_istore (lv' := [(7, .int (bI (plP nw n (nI (j + 1)) (plL nw n j)))), (5, .int (plA nw (nI (j + 1)) n)), (6, .int (plB nw (nI (j + 1)) n)), (4, .int (nI (j + 1))), (2, .int ((plL nw n j).1)), (3, .int ((plL nw n j).2)), (0, .ref (A0 0)), (1, .int what)]) hx hb dX12_print_188 hl (by decide) rfl (fun ls hl => ?_)
            refine b_join (jpc := 201) (rest' := []) (P := fun v : Int32 => v = ((if plP nw n (nI (j + 1)) (plL nw n j) then nI (j + 1) else (plL nw n j).1) : Int32)) (fun v10 ev10 => ?_) (fun K11 => ?_)
            · subst ev10
              refine lv_topi (fun x12 ex12 => ?_)
              refine lv_istore_n (lv' := [(2, .int x12), (7, .int (bI (plP nw n (nI (j + 1)) (plL nw n j)))), (5, .int (plA nw (nI (j + 1)) n)), (6, .int (plB nw (nI (j + 1)) n)), (4, .int (nI (j + 1))), (3, .int ((plL nw n j).2)), (0, .ref (A0 0)), (1, .int what)]) hx hb dX12_print_201 rfl hl (by decide) rfl (fun ls hl => ?_)
              refine b_join (jpc := 213) (rest' := []) (P := fun v : Int32 => v = ((if plP nw n (nI (j + 1)) (plL nw n j) then plB nw (nI (j + 1)) n else (plL nw n j).2) : Int32)) (fun v13 ev13 => ?_) (fun K14 => ?_)
              · subst ev13
                refine lv_topi (fun x15 ex15 => ?_)
                refine lv_istore_n (lv' := [(3, .int x15), (2, .int x12), (7, .int (bI (plP nw n (nI (j + 1)) (plL nw n j)))), (5, .int (plA nw (nI (j + 1)) n)), (6, .int (plB nw (nI (j + 1)) n)), (4, .int (nI (j + 1))), (0, .ref (A0 0)), (1, .int what)]) hx hb dX12_print_213 rfl hl (by decide) rfl (fun ls hl => ?_)
                refine lv_iinc (v := (nI (j + 1 + 1))) (lv' := [(4, .int (nI (j + 1 + 1))), (3, .int x15), (2, .int x12), (7, .int (bI (plP nw n (nI (j + 1)) (plL nw n j)))), (5, .int (plA nw (nI (j + 1)) n)), (6, .int (plB nw (nI (j + 1)) n)), (0, .ref (A0 0)), (1, .int what)]) hx hb dX12_print_214 hl (k := 5) rfl (nI_add _ _) (by decide) rfl (fun ls hl => ?_)
                refine lv_goto (tgt := 29) hx hb dX12_print_217 (by decide) ?_
                have st16 : x12 = (plL nw n (j + 1)).1 := ex12.trans plL_1.symm
                rw [st16] at hl
                have st17 : x15 = (plL nw n (j + 1)).2 := ex15.trans plL_2.symm
                rw [st17] at hl
                exact ih3 (by omega) ls (lv_sub hl [0, 2, 1, 6, 7] rfl)
              · refine lv_iload hx hb dX12_print_202 (lv_at hl 1 rfl) ?_
                refine b_ifeq (tgt := 212) hx hb dX12_print_204 (by decide) (fun c18 => ?_) (fun c18 => ?_)
                · refine lv_iload_n hx hb dX12_print_212 rfl (lv_at hl 5 rfl) ?_
                  exact K14 _ (by first | with_reducible rfl | (simp only [bI, eq_true c1, eq_true c2, eq_true c4, eq_true c7, eq_false c18, not_true_eq_false, not_false_eq_true, ite_true, ite_false, if_true, if_false, and_self, and_true, true_and, false_and, and_false, or_true, true_or, or_false, false_or]; done) | (simp [bI, eq_true c1, eq_true c2, eq_true c4, eq_true c7, eq_false c18]; done) | omega)
                · refine lv_iload hx hb dX12_print_207 (lv_at hl 3 rfl) ?_
                  refine lv_goto (tgt := 213) hx hb dX12_print_209 (by decide) ?_
                  exact K14 _ (by first | with_reducible rfl | (simp only [bI, eq_true c1, eq_true c2, eq_true c4, eq_true c7, eq_true c18, not_true_eq_false, not_false_eq_true, ite_true, ite_false, if_true, if_false, and_self, and_true, true_and, false_and, and_false, or_true, true_or, or_false, false_or]; done) | (simp [bI, eq_true c1, eq_true c2, eq_true c4, eq_true c7, eq_true c18]; done) | omega)
            · refine lv_iload hx hb dX12_print_190 (lv_at hl 0 rfl) ?_
              refine b_ifeq (tgt := 200) hx hb dX12_print_192 (by decide) (fun c19 => ?_) (fun c19 => ?_)
              · refine lv_iload_n hx hb dX12_print_200 rfl (lv_at hl 4 rfl) ?_
                exact K11 _ (by first | with_reducible rfl | (simp only [bI, eq_true c1, eq_true c2, eq_true c4, eq_true c7, eq_false c19, not_true_eq_false, not_false_eq_true, ite_true, ite_false, if_true, if_false, and_self, and_true, true_and, false_and, and_false, or_true, true_or, or_false, false_or]; done) | (simp [bI, eq_true c1, eq_true c2, eq_true c4, eq_true c7, eq_false c19]; done) | omega)
              · refine lv_iload hx hb dX12_print_195 (lv_at hl 3 rfl) ?_
                refine lv_goto (tgt := 201) hx hb dX12_print_197 (by decide) ?_
                exact K11 _ (by first | with_reducible rfl | (simp only [bI, eq_true c1, eq_true c2, eq_true c4, eq_true c7, eq_true c19, not_true_eq_false, not_false_eq_true, ite_true, ite_false, if_true, if_false, and_self, and_true, true_and, false_and, and_false, or_true, true_or, or_false, false_or]; done) | (simp [bI, eq_true c1, eq_true c2, eq_true c4, eq_true c7, eq_true c19]; done) | omega)
          · refine lv_iload hx hb dX12_print_148 (lv_at hl 1 rfl) ?_
            refine lv_aload_n hx hb dX12_print_150 rfl (lv_at hl 6 rfl) ?_
            refine va_get (D := D) (ci := 11) (v := .ref (A0 6)) (C := RX12) (T := TX12) (N := 21) hx hb hts u_X12_print_X12 hown hK.1 hP 0 rfl rfl 13 (by decide) (hts (.fieldLink RX12 25 "NoticeWeekModel" "now" "[I") (List.mem_of_getElem? (i := 3) rfl)) (fun _ h9 => h9) rfl dX12_print_151 ?_
            refine lv_iconst (v := (nI 1)) hx hb dX12_print_154 (by decide) ?_
            refine b_ald hx hb hK hP 6 rfl (by omega) (by decide) dX12_print_155 ?_
            refine lv_icmp_gt (tgt := 187) hx hb dX12_print_156 (by decide) (fun c20 => ?_) (fun c20 => ?_)
            · refine lv_iconst (v := 0) hx hb dX12_print_187 (by decide) ?_
              exact K9 _ (by first | with_reducible rfl | (simp only [bI, plP, eq_true c1, eq_true c2, eq_true c4, eq_true c7, eq_true c20, not_true_eq_false, not_false_eq_true, ite_true, ite_false, if_true, if_false, and_self, and_true, true_and, false_and, and_false, or_true, true_or, or_false, false_or]; done) | (simp [bI, plP, eq_true c1, eq_true c2, eq_true c4, eq_true c7, eq_true c20]; done) | omega)
            · refine lv_iload hx hb dX12_print_159 (lv_at hl 2 rfl) ?_
              refine lv_iload_n hx hb dX12_print_161 rfl (lv_at hl 5 rfl) ?_
              refine lv_icmp_gt (tgt := 183) hx hb dX12_print_162 (by decide) (fun c21 => ?_) (fun c21 => ?_)
              · refine lv_iconst (v := 1) hx hb dX12_print_183 (by decide) ?_
                refine lv_goto (tgt := 188) hx hb dX12_print_184 (by decide) ?_
                exact K9 _ (by first | with_reducible rfl | (simp only [bI, plP, eq_true c1, eq_true c2, eq_true c4, eq_true c7, eq_false c20, eq_true c21, not_true_eq_false, not_false_eq_true, ite_true, ite_false, if_true, if_false, and_self, and_true, true_and, false_and, and_false, or_true, true_or, or_false, false_or]; done) | (simp [bI, plP, eq_true c1, eq_true c2, eq_true c4, eq_true c7, eq_false c20, eq_true c21]; done) | omega)
              · refine lv_iload hx hb dX12_print_165 (lv_at hl 2 rfl) ?_
                refine lv_iload_n hx hb dX12_print_167 rfl (lv_at hl 5 rfl) ?_
                refine lv_icmp_ne (tgt := 187) hx hb dX12_print_168 (by decide) (fun c22 => ?_) (fun c22 => ?_)
                · refine lv_iconst (v := 0) hx hb dX12_print_187 (by decide) ?_
                  exact K9 _ (by first | with_reducible rfl | (simp only [bI, plP, eq_true c1, eq_true c2, eq_true c4, eq_true c7, eq_false c20, eq_false c21, eq_false c22, not_true_eq_false, not_false_eq_true, ite_true, ite_false, if_true, if_false, and_self, and_true, true_and, false_and, and_false, or_true, true_or, or_false, false_or]; done) | (simp [bI, plP, eq_true c1, eq_true c2, eq_true c4, eq_true c7, eq_false c20, eq_false c21, eq_false c22]; done) | omega)
                · refine lv_iload hx hb dX12_print_171 (lv_at hl 3 rfl) ?_
                  refine b_call (va_runS (As := [.int (nI (j + 1))]) (rest := []) ⟨hx, hb, hml, hown, hts⟩ (c_X12_ones l D cI cZ cT (nI (j + 1))) (va_cwS 1 hts gX12_print_X12_ones rfl rfl rfl (by decide +kernel) ⟨(Nat.le_of_ble_eq_true rfl), (Nat.le_of_ble_eq_true rfl)⟩) (b_pS0 hK) rfl rfl hl.1 rfl (lv_room (Nat.le_of_ble_eq_true rfl)) dX12_print_173 ⟨Nat.zero_le _, Nat.zero_le _⟩).run ?_
                  refine lv_iload_n hx hb dX12_print_176 rfl (lv_at hl 4 rfl) ?_
                  refine b_call (va_runS (As := [.int ((plL nw n j).1)]) (rest := [.int (ones8 (nI (j + 1)))]) ⟨hx, hb, hml, hown, hts⟩ (c_X12_ones l D cI cZ cT ((plL nw n j).1)) (va_cwS 1 hts gX12_print_X12_ones rfl rfl rfl (by decide +kernel) ⟨(Nat.le_of_ble_eq_true rfl), (Nat.le_of_ble_eq_true rfl)⟩) (b_pS0 hK) rfl rfl hl.1 rfl (lv_room (Nat.le_of_ble_eq_true rfl)) dX12_print_177 ⟨Nat.zero_le _, Nat.zero_le _⟩).run ?_
                  refine lv_icmp_ge (tgt := 187) hx hb dX12_print_180 (by decide) (fun c23 => ?_) (fun c23 => ?_)
                  · refine lv_iconst (v := 0) hx hb dX12_print_187 (by decide) ?_
                    exact K9 _ (by first | with_reducible rfl | (simp only [bI, plP, eq_true c1, eq_true c2, eq_true c4, eq_true c7, eq_false c20, eq_false c21, eq_true c22, eq_true c23, not_true_eq_false, not_false_eq_true, ite_true, ite_false, if_true, if_false, and_self, and_true, true_and, false_and, and_false, or_true, true_or, or_false, false_or]; done) | (simp [bI, plP, eq_true c1, eq_true c2, eq_true c4, eq_true c7, eq_false c20, eq_false c21, eq_true c22, eq_true c23]; done) | omega)
                  · refine lv_iconst (v := 1) hx hb dX12_print_183 (by decide) ?_
                    refine lv_goto (tgt := 188) hx hb dX12_print_184 (by decide) ?_
                    exact K9 _ (by first | with_reducible rfl | (simp only [bI, plP, eq_true c1, eq_true c2, eq_true c4, eq_true c7, eq_false c20, eq_false c21, eq_true c22, eq_false c23, not_true_eq_false, not_false_eq_true, ite_true, ite_false, if_true, if_false, and_self, and_true, true_and, false_and, and_false, or_true, true_or, or_false, false_or]; done) | (simp [bI, plP, eq_true c1, eq_true c2, eq_true c4, eq_true c7, eq_false c20, eq_false c21, eq_true c22, eq_false c23]; done) | omega)
        · refine lv_iconst (v := (nI 4)) hx hb dX12_print_62 (by decide) ?_
          refine lv_iconst (v := (nI 4)) hx hb dX12_print_63 (by decide) ?_
          refine lv_iload hx hb dX12_print_64 (lv_at hl 0 rfl) ?_
          refine b_mul hx hb dX12_print_66 ?_
          refine b_add hx hb dX12_print_67 ?_
          refine lv_istore (lv' := [(8, .int (nI (4 + (4 * i)))), (7, .int (nI (i))), (5, .int (plA nw (nI (j + 1)) i)), (6, .int (plB nw (nI (j + 1)) i)), (4, .int (nI (j + 1))), (2, .int ((plL nw n j).1)), (3, .int ((plL nw n j).2)), (0, .ref (A0 0)), (1, .int what)]) hx hb dX12_print_68 hl (by decide) rfl (fun ls hl => ?_)
          refine lv_iload hx hb dX12_print_70 (lv_at hl 2 rfl) ?_
          refine b_join (jpc := 98) (rest' := [.int (plA nw (nI (j + 1)) i)]) (P := fun v : Int32 => v = ((if hasb (nI (j + 1)) i then ones8 (nw (4 + 4 * i + 2)) else 0) : Int32)) (fun v24 ev24 => ?_) (fun K25 => ?_)
          · subst ev24
            refine lv_iadd hx hb dX12_print_98 ?_
            refine lv_topi (fun x26 ex26 => ?_)
            refine lv_istore (lv' := [(5, .int x26), (8, .int (nI (4 + (4 * i)))), (7, .int (nI (i))), (6, .int (plB nw (nI (j + 1)) i)), (4, .int (nI (j + 1))), (2, .int ((plL nw n j).1)), (3, .int ((plL nw n j).2)), (0, .ref (A0 0)), (1, .int what)]) hx hb dX12_print_99 hl (by decide) rfl (fun ls hl => ?_)
            refine lv_iload hx hb dX12_print_101 (lv_at hl 3 rfl) ?_
            refine b_join (jpc := 139) (rest' := [.int (plB nw (nI (j + 1)) i)]) (P := fun v : Int32 => v = ((if hasb (nI (j + 1)) i then ones8 (nw (4 + 4 * i + 2) &&& nw (4 + 4 * i + 1)) else 0) : Int32)) (fun v27 ev27 => ?_) (fun K28 => ?_)
            · subst ev27
              refine lv_iadd hx hb dX12_print_139 ?_
              refine lv_topi (fun x29 ex29 => ?_)
              refine lv_istore (lv' := [(6, .int x29), (5, .int x26), (8, .int (nI (4 + (4 * i)))), (7, .int (nI (i))), (4, .int (nI (j + 1))), (2, .int ((plL nw n j).1)), (3, .int ((plL nw n j).2)), (0, .ref (A0 0)), (1, .int what)]) hx hb dX12_print_140 hl (by decide) rfl (fun ls hl => ?_)
              refine lv_iinc (v := (nI (i + 1))) (lv' := [(7, .int (nI (i + 1))), (6, .int x29), (5, .int x26), (8, .int (nI (4 + (4 * i)))), (4, .int (nI (j + 1))), (2, .int ((plL nw n j).1)), (3, .int ((plL nw n j).2)), (0, .ref (A0 0)), (1, .int what)]) hx hb dX12_print_142 hl (k := 3) rfl (nI_add _ _) (by decide) rfl (fun ls hl => ?_)
              refine lv_goto (tgt := 51) hx hb dX12_print_145 (by decide) ?_
              try subst ex29
              try subst ex26
              exact ih6 (by omega) ls (lv_sub hl [0, 2, 1, 4, 5, 6, 7, 8] rfl)
            · refine lv_iload hx hb dX12_print_103 (lv_at hl 4 rfl) ?_
              refine lv_iload hx hb dX12_print_105 (lv_at hl 2 rfl) ?_
              refine b_call (va_runS (As := [.int (nI (j + 1)), .int (nI (i))]) (rest := [.int (plB nw (nI (j + 1)) i)]) ⟨hx, hb, hml, hown, hts⟩ (c_X12_has l D cI cZ cT (nI (j + 1)) i) (va_cwS 2 hts gX12_print_X12_has rfl rfl rfl (by decide +kernel) ⟨(Nat.le_of_ble_eq_true rfl), (Nat.le_of_ble_eq_true rfl)⟩) (b_pS0 hK) rfl rfl hl.1 rfl (lv_room (Nat.le_of_ble_eq_true rfl)) dX12_print_107 ⟨Nat.zero_le _, Nat.zero_le _⟩).run ?_
              refine b_ifeq (tgt := 138) hx hb dX12_print_110 (by decide) (fun c30 => ?_) (fun c30 => ?_)
              · refine lv_iconst (v := 0) hx hb dX12_print_138 (by decide) ?_
                exact K28 _ (by first | with_reducible rfl | (simp only [bI, eq_true c1, eq_true c2, eq_true c4, eq_true c7, eq_false c30, not_true_eq_false, not_false_eq_true, ite_true, ite_false, if_true, if_false, and_self, and_true, true_and, false_and, and_false, or_true, true_or, or_false, false_or]; done) | (simp [bI, eq_true c1, eq_true c2, eq_true c4, eq_true c7, eq_false c30]; done) | omega)
              · refine lv_aload_n hx hb dX12_print_113 rfl (lv_at hl 7 rfl) ?_
                refine va_get (D := D) (ci := 11) (v := .ref (A0 6)) (C := RX12) (T := TX12) (N := 21) hx hb hts u_X12_print_X12 hown hK.1 hP 0 rfl rfl 13 (by decide) (hts (.fieldLink RX12 25 "NoticeWeekModel" "now" "[I") (List.mem_of_getElem? (i := 3) rfl)) (fun _ h9 => h9) rfl dX12_print_114 ?_
                refine lv_iload hx hb dX12_print_117 (lv_at hl 1 rfl) ?_
                refine lv_iconst (v := (nI 2)) hx hb dX12_print_119 (by decide) ?_
                refine b_add hx hb dX12_print_120 ?_
                refine b_ald hx hb hK hP 6 rfl (by omega) (by decide) dX12_print_121 ?_
                refine lv_aload_n hx hb dX12_print_122 rfl (lv_at hl 7 rfl) ?_
                refine va_get (D := D) (ci := 11) (v := .ref (A0 6)) (C := RX12) (T := TX12) (N := 21) hx hb hts u_X12_print_X12 hown hK.1 hP 0 rfl rfl 13 (by decide) (hts (.fieldLink RX12 25 "NoticeWeekModel" "now" "[I") (List.mem_of_getElem? (i := 3) rfl)) (fun _ h9 => h9) rfl dX12_print_123 ?_
                refine lv_iload hx hb dX12_print_126 (lv_at hl 1 rfl) ?_
                refine lv_iconst (v := (nI 1)) hx hb dX12_print_128 (by decide) ?_
                refine b_add hx hb dX12_print_129 ?_
                refine b_ald hx hb hK hP 6 rfl (by omega) (by decide) dX12_print_130 ?_
                refine lv_iand hx hb dX12_print_131 ?_
                refine b_call (va_runS (As := [.int ((nw (4 + (4 * i) + 2)) &&& (nw (4 + (4 * i) + 1)))]) (rest := [.int (plB nw (nI (j + 1)) i)]) ⟨hx, hb, hml, hown, hts⟩ (c_X12_ones l D cI cZ cT ((nw (4 + (4 * i) + 2)) &&& (nw (4 + (4 * i) + 1)))) (va_cwS 1 hts gX12_print_X12_ones rfl rfl rfl (by decide +kernel) ⟨(Nat.le_of_ble_eq_true rfl), (Nat.le_of_ble_eq_true rfl)⟩) (b_pS0 hK) rfl rfl hl.1 rfl (lv_room (Nat.le_of_ble_eq_true rfl)) dX12_print_132 ⟨Nat.zero_le _, Nat.zero_le _⟩).run ?_
                refine lv_goto (tgt := 139) hx hb dX12_print_135 (by decide) ?_
                exact K28 _ (by first | with_reducible rfl | (simp only [bI, eq_true c1, eq_true c2, eq_true c4, eq_true c7, eq_true c30, not_true_eq_false, not_false_eq_true, ite_true, ite_false, if_true, if_false, and_self, and_true, true_and, false_and, and_false, or_true, true_or, or_false, false_or]; done) | (simp [bI, eq_true c1, eq_true c2, eq_true c4, eq_true c7, eq_true c30]; done) | omega)
          · refine lv_iload hx hb dX12_print_72 (lv_at hl 4 rfl) ?_
            refine lv_iload hx hb dX12_print_74 (lv_at hl 1 rfl) ?_
            refine b_call (va_runS (As := [.int (nI (j + 1)), .int (nI (i))]) (rest := [.int (plA nw (nI (j + 1)) i)]) ⟨hx, hb, hml, hown, hts⟩ (c_X12_has l D cI cZ cT (nI (j + 1)) i) (va_cwS 2 hts gX12_print_X12_has rfl rfl rfl (by decide +kernel) ⟨(Nat.le_of_ble_eq_true rfl), (Nat.le_of_ble_eq_true rfl)⟩) (b_pS0 hK) rfl rfl hl.1 rfl (lv_room (Nat.le_of_ble_eq_true rfl)) dX12_print_76 ⟨Nat.zero_le _, Nat.zero_le _⟩).run ?_
            refine b_ifeq (tgt := 97) hx hb dX12_print_79 (by decide) (fun c31 => ?_) (fun c31 => ?_)
            · refine lv_iconst (v := 0) hx hb dX12_print_97 (by decide) ?_
              exact K25 _ (by first | with_reducible rfl | (simp only [bI, eq_true c1, eq_true c2, eq_true c4, eq_true c7, eq_false c31, not_true_eq_false, not_false_eq_true, ite_true, ite_false, if_true, if_false, and_self, and_true, true_and, false_and, and_false, or_true, true_or, or_false, false_or]; done) | (simp [bI, eq_true c1, eq_true c2, eq_true c4, eq_true c7, eq_false c31]; done) | omega)
            · refine lv_aload_n hx hb dX12_print_82 rfl (lv_at hl 7 rfl) ?_
              refine va_get (D := D) (ci := 11) (v := .ref (A0 6)) (C := RX12) (T := TX12) (N := 21) hx hb hts u_X12_print_X12 hown hK.1 hP 0 rfl rfl 13 (by decide) (hts (.fieldLink RX12 25 "NoticeWeekModel" "now" "[I") (List.mem_of_getElem? (i := 3) rfl)) (fun _ h9 => h9) rfl dX12_print_83 ?_
              refine lv_iload hx hb dX12_print_86 (lv_at hl 0 rfl) ?_
              refine lv_iconst (v := (nI 2)) hx hb dX12_print_88 (by decide) ?_
              refine b_add hx hb dX12_print_89 ?_
              refine b_ald hx hb hK hP 6 rfl (by omega) (by decide) dX12_print_90 ?_
              refine b_call (va_runS (As := [.int (nw (4 + (4 * i) + 2))]) (rest := [.int (plA nw (nI (j + 1)) i)]) ⟨hx, hb, hml, hown, hts⟩ (c_X12_ones l D cI cZ cT (nw (4 + (4 * i) + 2))) (va_cwS 1 hts gX12_print_X12_ones rfl rfl rfl (by decide +kernel) ⟨(Nat.le_of_ble_eq_true rfl), (Nat.le_of_ble_eq_true rfl)⟩) (b_pS0 hK) rfl rfl hl.1 rfl (lv_room (Nat.le_of_ble_eq_true rfl)) dX12_print_91 ⟨Nat.zero_le _, Nat.zero_le _⟩).run ?_
              refine lv_goto (tgt := 98) hx hb dX12_print_94 (by decide) ?_
              exact K25 _ (by first | with_reducible rfl | (simp only [bI, eq_true c1, eq_true c2, eq_true c4, eq_true c7, eq_true c31, not_true_eq_false, not_false_eq_true, ite_true, ite_false, if_true, if_false, and_self, and_true, true_and, false_and, and_false, or_true, true_or, or_false, false_or]; done) | (simp [bI, eq_true c1, eq_true c2, eq_true c4, eq_true c7, eq_true c31]; done) | omega)
    · refine lv_ldc (v := (-1000001)) hx hb hown (hts (.constant RX12 58 (-1000001)) (List.mem_of_getElem? (i := 2) rfl)) dX12_print_19 ?_
      exact b_ret hx hb hr (by first | (simp only [m_print, eq_true c1, eq_false c2, bI, not_true_eq_false, not_false_eq_true, ite_true, ite_false, if_true, if_false, and_self, and_true, true_and, false_and, and_false, or_true, true_or, or_false, false_or, eq_self]; done) | (simp [m_print, eq_true c1, eq_false c2, bI]; done)) dX12_print_21 hlocks
  · refine lv_ldc (v := (-1000002)) hx hb hown (hts (.constant RX12 159 (-1000002)) (List.mem_of_getElem? (i := 1) rfl)) dX12_print_7 ?_
    exact b_ret hx hb hr (by first | (simp only [m_print, eq_false c1, bI, not_true_eq_false, not_false_eq_true, ite_true, ite_false, if_true, if_false, and_self, and_true, true_and, false_and, and_false, or_true, true_or, or_false, false_or, eq_self]; done) | (simp [m_print, eq_false c1, bI]; done)) dX12_print_9 hlocks
theorem u_X12_goesSo_X12 : ∀ w ∈ wsX120, w ∈ wsX12_goesSo := fun _ h => List.mem_cons_of_mem _ (List.mem_append_right _ h)
set_option maxHeartbeats 4000000 in
set_option maxRecDepth 100000 in
theorem c_X12_goesSo (l : Launch) (D : va_G) (cI cZ cT : ClassId) (A0 : Nat → Nat) (ss tp fk fp ap sp tk vl ac tr : Int32) (la ma it sr bt nw dr pa im kp tc : Nat → Int32) (r : Nat) (kd nt : Int32) (fr x n : Nat) (hr_ : r ≤ 5) (hx16 : x ≤ 16) (hfr : fr + x ≤ 320) (hW : TK nw n) : Met l yX12_goesSo wsX12_goesSo ({ frames := 4, cells := 0, slots := 0, locals := 95 }) (pR D cI cZ cT [.ref (A0 0), .int (nI (r)), .int kd, .int nt, .int (nI (fr)), .int (nI (x))] (wM cI cZ A0 ss tp fk fp ap sp tk vl ac tr la ma it sr bt nw dr pa im kp tc)) (QcRead (bI (gsb nw it r kd nt fr x = true))) 0 0 (fun _ => False) := by
  refine Met.ofW (cc := cX12_goesSo) (maxL := 8) (ret := (some .boolean)) (by decide) rfl ?_
  intro p e s m args below meth c s₁ B hml hv
  obtain ⟨rfl, hP, hK⟩ := hv
  have hx := B.exec
  have hb := B.bytes
  have hr := B.returns
  have hts := atoms_spec (ws := wsX12_goesSo) B.pre
  have hown : s.vm.findClass RX12 = some m.cls := findClass_of_methodNamed B.named
  have hlocks := B.notSynchronized
  have hl := lv_entry ([.ref (A0 0), .int (nI (r)), .int kd, .int nt, .int (nI (fr)), .int (nI (x))]) (n := 8) (Nat.le_of_ble_eq_true rfl)
  rw [lg_entry_eq]
  generalize (lg_sl ([.ref (A0 0), .int (nI (r)), .int kd, .int nt, .int (nI (fr)), .int (nI (x))]) ++ List.replicate (8 - (lg_sl ([.ref (A0 0), .int (nI (r)), .int kd, .int nt, .int (nI (fr)), .int (nI (x))])).length) Slot.unset).toArray = ls at hl ⊢
  have hl : lv_has ls 8 [(0, .ref (A0 0)), (1, .int (nI (r))), (2, .int kd), (3, .int nt), (4, .int (nI (fr))), (5, .int (nI (x)))] := hl
  refine lv_iconst (v := 1) hx hb dX12_goesSo_0 (by decide) ?_
  refine lv_istore (lv' := [(6, .int 1), (0, .ref (A0 0)), (1, .int (nI (r))), (2, .int kd), (3, .int nt), (4, .int (nI (fr))), (5, .int (nI (x)))]) hx hb dX12_goesSo_1 hl (by decide) rfl (fun ls hl => ?_)
  refine lv_iconst (v := (nI 1)) hx hb dX12_goesSo_3 (by decide) ?_
  refine lv_istore (lv' := [(7, .int (nI 1)), (6, .int 1), (0, .ref (A0 0)), (1, .int (nI (r))), (2, .int kd), (3, .int nt), (4, .int (nI (fr))), (5, .int (nI (x)))]) hx hb dX12_goesSo_4 hl (by decide) rfl (fun ls hl => ?_)
  refine b_loopR (N := x) (I := fun j ls => lv_has ls 8 [(7, .int (nI (j + 1))), (6, .int (bI (gsb nw it r kd nt fr j = true))), (0, .ref (A0 0)), (1, .int (nI (r))), (2, .int kd), (3, .int nt), (4, .int (nI (fr))), (5, .int (nI (x)))]) (fun j hj ih1 ls hI => ?_) 0 (by omega) (lv_sub hl [0, 1, 2, 3, 4, 5, 6, 7] rfl)
  have hl := hI
  have hl : lv_has ls 8 [(7, .int (nI (j + 1))), (6, .int (bI (gsb nw it r kd nt fr j = true))), (0, .ref (A0 0)), (1, .int (nI (r))), (2, .int kd), (3, .int nt), (4, .int (nI (fr))), (5, .int (nI (x)))] := hl
  refine lv_iload hx hb dX12_goesSo_6 (lv_at hl 0 rfl) ?_
  refine lv_iload hx hb dX12_goesSo_8 (lv_at hl 7 rfl) ?_
  refine b_gt (tgt := 67) hx hb (by omega) (by omega) dX12_goesSo_10 (by decide) (fun c2 => ?_) (fun c2 => ?_)
  · refine lv_iload hx hb dX12_goesSo_67 (lv_at hl 1 rfl) ?_
    exact b_zret hx hb hr (gsb_x (by omega) (Or.inl (by omega))) dX12_goesSo_69 hlocks
  · refine lv_iload hx hb dX12_goesSo_13 (lv_at hl 1 rfl) ?_
    refine b_ifeq (tgt := 67) hx hb dX12_goesSo_15 (by decide) (fun c3 => ?_) (fun c3 => ?_)
    · refine lv_iload hx hb dX12_goesSo_67 (lv_at hl 1 rfl) ?_
      exact b_zret hx hb hr (gsb_x (by omega) (Or.inr c3)) dX12_goesSo_69 hlocks
    · refine b_join (jpc := 59) (rest' := []) (P := fun v : Int32 => v = ((bI (gsV nw r kd nt (j + 1) = it (fr + (j + 1) - 1))) : Int32)) (fun v4 ev4 => ?_) (fun K5 => ?_)
      · subst ev4
        refine lv_istore (lv' := [(6, .int (bI (gsV nw r kd nt (j + 1) = it (fr + (j + 1) - 1)))), (7, .int (nI (j + 1))), (0, .ref (A0 0)), (1, .int (nI (r))), (2, .int kd), (3, .int nt), (4, .int (nI (fr))), (5, .int (nI (x)))]) hx hb dX12_goesSo_59 hl (by decide) rfl (fun ls hl => ?_)
        refine lv_iinc (v := (nI (j + 1 + 1))) (lv' := [(7, .int (nI (j + 1 + 1))), (6, .int (bI (gsV nw r kd nt (j + 1) = it (fr + (j + 1) - 1)))), (0, .ref (A0 0)), (1, .int (nI (r))), (2, .int kd), (3, .int nt), (4, .int (nI (fr))), (5, .int (nI (x)))]) hx hb dX12_goesSo_61 hl (k := 1) rfl (nI_add _ _) (by decide) rfl (fun ls hl => ?_)
        refine lv_goto (tgt := 6) hx hb dX12_goesSo_64 (by decide) ?_
        have st6 : (bI (gsV nw r kd nt (j + 1) = it (fr + (j + 1) - 1))) = (bI (gsb nw it r kd nt fr (j + 1) = true)) := gsb_t c3
        rw [st6] at hl
        exact ih1 (by omega) ls (lv_sub hl [0, 1, 2, 3, 4, 5, 6, 7] rfl)
      · refine lv_aload_n hx hb dX12_goesSo_18 rfl (lv_at hl 2 rfl) ?_
        refine lv_iload_n hx hb dX12_goesSo_19 rfl (lv_at hl 3 rfl) ?_
        refine lv_iload_n hx hb dX12_goesSo_20 rfl (lv_at hl 4 rfl) ?_
        refine lv_aload_n hx hb dX12_goesSo_21 rfl (lv_at hl 2 rfl) ?_
        refine va_get (D := D) (ci := 11) (v := .ref (A0 6)) (C := RX12) (T := TX12) (N := 21) hx hb hts u_X12_goesSo_X12 hown hK.1 hP 0 rfl rfl 13 (by decide) (hts (.fieldLink RX12 25 "NoticeWeekModel" "now" "[I") (List.mem_of_getElem? (i := 1) rfl)) (fun _ h9 => h9) rfl dX12_goesSo_22 ?_
        refine lv_iconst (v := (nI 4)) hx hb dX12_goesSo_25 (by decide) ?_
        refine lv_iconst (v := (nI 4)) hx hb dX12_goesSo_26 (by decide) ?_
        refine lv_iload_n hx hb dX12_goesSo_27 rfl (lv_at hl 3 rfl) ?_
        refine b_mul hx hb dX12_goesSo_28 ?_
        refine b_add hx hb dX12_goesSo_29 ?_
        refine lv_iconst (v := (nI 1)) hx hb dX12_goesSo_30 (by decide) ?_
        refine b_add hx hb dX12_goesSo_31 ?_
        refine b_ald hx hb hK hP 6 rfl (by omega) (by decide) dX12_goesSo_32 ?_
        refine lv_iload_n hx hb dX12_goesSo_33 rfl (lv_at hl 5 rfl) ?_
        refine lv_iload hx hb dX12_goesSo_34 (lv_at hl 0 rfl) ?_
        refine b_call (va_runV (As := [.int (nI (r)), .int kd, .int (nw (4 + (4 * r) + 1)), .int nt, .int (nI (j + 1))]) (rest := []) ⟨hx, hb, hml, hown, hts⟩ (c_X12_doneIn l D cI cZ cT A0 ss tp fk fp ap sp tk vl ac tr la ma it sr bt nw dr pa im kp tc r kd (nw (4 + (4 * r) + 1)) nt (j + 1) n hr_ (by omega) hW) (cwV 5 hts gX12_goesSo_X12_doneIn rfl rfl rfl (by decide +kernel) ⟨(Nat.le_of_ble_eq_true rfl), (Nat.le_of_ble_eq_true rfl)⟩) (b_pV hK hP [0, 1, 2, 3, 4, 5, 6, 7, 8, 9, 10, 11] rfl 0 rfl rfl) rfl rfl hl.1 rfl (lv_room (Nat.le_of_ble_eq_true rfl)) dX12_goesSo_36 ⟨Nat.zero_le _, Nat.zero_le _⟩).run ?_
        refine lv_aload_n hx hb dX12_goesSo_39 rfl (lv_at hl 2 rfl) ?_
        refine va_get (D := D) (ci := 11) (v := .ref (A0 3)) (C := RX12) (T := TX12) (N := 21) hx hb hts u_X12_goesSo_X12 hown hK.1 hP 0 rfl rfl 2 (by decide) (hts (.fieldLink RX12 16 "NoticeWeekModel" "items" "[I") (List.mem_of_getElem? (i := 2) rfl)) (fun _ h9 => h9) rfl dX12_goesSo_40 ?_
        refine lv_iload hx hb dX12_goesSo_43 (lv_at hl 6 rfl) ?_
        refine lv_iload hx hb dX12_goesSo_45 (lv_at hl 0 rfl) ?_
        refine b_add hx hb dX12_goesSo_47 ?_
        refine lv_iconst (v := (nI 1)) hx hb dX12_goesSo_48 (by decide) ?_
        refine b_sub hx hb (by omega) dX12_goesSo_49 ?_
        refine b_ald hx hb hK hP 3 rfl (by omega) (by decide) dX12_goesSo_50 ?_
        refine lv_icmp_ne (tgt := 58) hx hb dX12_goesSo_51 (by decide) (fun c7 => ?_) (fun c7 => ?_)
        · refine lv_iconst (v := 0) hx hb dX12_goesSo_58 (by decide) ?_
          exact K5 _ (by unfold gsV; exact (if_neg c7).symm)
        · refine lv_iconst (v := 1) hx hb dX12_goesSo_54 (by decide) ?_
          refine lv_goto (tgt := 59) hx hb dX12_goesSo_55 (by decide) ?_
          exact K5 _ (by unfold gsV; exact (if_pos c7).symm)
theorem u_X12_temper_X12 : ∀ w ∈ wsX120, w ∈ wsX12_temper := fun _ h => List.mem_cons_of_mem _ (List.mem_append_right _ h)
set_option maxHeartbeats 4000000 in
set_option maxRecDepth 100000 in
theorem c_X12_temper (l : Launch) (D : va_G) (cI cZ cT : ClassId) (A0 : Nat → Nat) (ss tp fk fp ap sp tk vl ac tr : Int32) (la ma it sr bt nw dr pa im kp tc : Nat → Int32) (reader row i x : Int32) (n : Nat) (hW : TK nw n) (hM : ∀ r, r ≤ 7 → ∃ n, n ≤ 40 ∧ ma r = nI n) : Met l yX12_temper wsX12_temper ({ frames := 5, cells := 0, slots := 0, locals := 122 }) (pM D cI cZ cT [.ref (A0 0), .int reader, .int row, .int i, .int x] (wM cI cZ A0 ss tp fk fp ap sp tk vl ac tr la ma it sr bt nw dr pa im kp tc)) (qM D (some (.int ((m_temper ss nw la ma it reader row i x).1))) (wM cI cZ A0 ((m_temper ss nw la ma it reader row i x).2) tp fk fp ap sp tk vl ac tr la ma it sr bt nw dr pa im kp tc) (adr (wM cI cZ A0 ss tp fk fp ap sp tk vl ac tr la ma it sr bt nw dr pa im kp tc))) 0 0 (adr (wM cI cZ A0 ss tp fk fp ap sp tk vl ac tr la ma it sr bt nw dr pa im kp tc)) := by
  refine Met.ofW (cc := cX12_temper) (maxL := 7) (ret := (some .int)) (by decide) rfl ?_
  intro p e s m args below meth c s₁ B hml hv
  obtain ⟨rfl, hP, hD0, hK⟩ := hv
  have hx := B.exec
  have hb := B.bytes
  have hr := B.returns
  have hts := atoms_spec (ws := wsX12_temper) B.pre
  have hown : s.vm.findClass RX12 = some m.cls := findClass_of_methodNamed B.named
  have hlocks := B.notSynchronized
  have hD := hD0.toAdr
  have hS : va_S (adr (wM cI cZ A0 ss tp fk fp ap sp tk vl ac tr la ma it sr bt nw dr pa im kp tc)) s.heap s.heap [] := va_S.rf
  generalize adr (wM cI cZ A0 ss tp fk fp ap sp tk vl ac tr la ma it sr bt nw dr pa im kp tc) = A at hD hS ⊢
  have hl := lv_entry ([.ref (A0 0), .int reader, .int row, .int i, .int x]) (n := 7) (Nat.le_of_ble_eq_true rfl)
  rw [lg_entry_eq]
  generalize (lg_sl ([.ref (A0 0), .int reader, .int row, .int i, .int x]) ++ List.replicate (7 - (lg_sl ([.ref (A0 0), .int reader, .int row, .int i, .int x])).length) Slot.unset).toArray = ls at hl ⊢
  have hl : lv_has ls 7 [(0, .ref (A0 0)), (1, .int reader), (2, .int row), (3, .int i), (4, .int x)] := hl
  refine lv_aload_n hx hb dX12_temper_0 rfl (lv_at hl 0 rfl) ?_
  refine lv_iload_n hx hb dX12_temper_1 rfl (lv_at hl 1 rfl) ?_
  refine b_call (va_runV (As := [.int reader]) (rest := []) ⟨hx, hb, hml, hown, hts⟩ (c_X12_isReader l D cI cZ cT A0 ss tp fk fp ap sp tk vl ac tr la ma it sr bt nw dr pa im kp tc reader) (cwV 1 hts gX12_temper_X12_isReader rfl rfl rfl (by decide +kernel) ⟨(Nat.le_of_ble_eq_true rfl), (Nat.le_of_ble_eq_true rfl)⟩) (b_pV hK hP [0, 1, 2, 3, 4, 5, 6, 7, 8, 9, 10, 11] rfl 0 rfl rfl) rfl rfl hl.1 rfl (lv_room (Nat.le_of_ble_eq_true rfl)) dX12_temper_2 ⟨Nat.zero_le _, Nat.zero_le _⟩).run ?_
  refine b_ifeq (tgt := 26) hx hb dX12_temper_5 (by decide) (fun c1 => ?_) (fun c1 => ?_)
  · refine lv_ldc (v := (-1000001)) hx hb hown (hts (.constant RX12 58 (-1000001)) (List.mem_of_getElem? (i := 1) rfl)) dX12_temper_26 ?_
    have E : m_temper ss nw la ma it reader row i x = ((-1000001), ss) := (by first | (simp only [m_temper, eq_false c1, bI, not_true_eq_false, not_false_eq_true, ite_true, ite_false, if_true, if_false, and_self, and_true, true_and, false_and, and_false, or_true, true_or, or_false, false_or, eq_self]; done) | (simp [m_temper, eq_false c1, bI]; done))
    rw [E]
    exact b_retM hx hb hr hP hS rfl dX12_temper_28 hlocks
  · refine lv_iload_n hx hb dX12_temper_8 rfl (lv_at hl 2 rfl) ?_
    refine b_call (va_runS (As := [.int row]) (rest := []) ⟨hx, hb, hml, hown, hts⟩ (c_X12_isRow l D cI cZ cT row) (va_cwS 1 hts gX12_temper_X12_isRow rfl rfl rfl (by decide +kernel) ⟨(Nat.le_of_ble_eq_true rfl), (Nat.le_of_ble_eq_true rfl)⟩) (b_pS0 hK) rfl rfl hl.1 rfl (lv_room (Nat.le_of_ble_eq_true rfl)) dX12_temper_9 ⟨Nat.zero_le _, Nat.zero_le _⟩).run ?_
    refine b_ifeq (tgt := 26) hx hb dX12_temper_12 (by decide) (fun c2 => ?_) (fun c2 => ?_)
    · refine lv_ldc (v := (-1000001)) hx hb hown (hts (.constant RX12 58 (-1000001)) (List.mem_of_getElem? (i := 1) rfl)) dX12_temper_26 ?_
      have E : m_temper ss nw la ma it reader row i x = ((-1000001), ss) := (by first | (simp only [m_temper, eq_true c1, eq_false c2, bI, not_true_eq_false, not_false_eq_true, ite_true, ite_false, if_true, if_false, and_self, and_true, true_and, false_and, and_false, or_true, true_or, or_false, false_or, eq_self]; done) | (simp [m_temper, eq_true c1, eq_false c2, bI]; done))
      rw [E]
      exact b_retM hx hb hr hP hS rfl dX12_temper_28 hlocks
    · refine lv_iload hx hb dX12_temper_15 (lv_at hl 4 rfl) ?_
      refine lv_iconst (v := 1) hx hb dX12_temper_17 (by decide) ?_
      refine lv_bipush (v := 16) hx hb dX12_temper_18 (by decide) ?_
      refine b_call (va_runS (As := [.int x, .int 1, .int 16]) (rest := []) ⟨hx, hb, hml, hown, hts⟩ (c_X12_in l D cI cZ cT x 1 16) (va_cwS 3 hts gX12_temper_X12_in rfl rfl rfl (by decide +kernel) ⟨(Nat.le_of_ble_eq_true rfl), (Nat.le_of_ble_eq_true rfl)⟩) (b_pS0 hK) rfl rfl hl.1 rfl (lv_room (Nat.le_of_ble_eq_true rfl)) dX12_temper_20 ⟨Nat.zero_le _, Nat.zero_le _⟩).run ?_
      refine b_ifne (tgt := 29) hx hb dX12_temper_23 (by decide) (fun c3 => ?_) (fun c3 => ?_)
      · obtain ⟨r, hh_r, rfl⟩ : ∃ r : Nat, r ≤ 5 ∧ reader = nI r := i_rd hW c1
        have hl : lv_has ls 7 [(0, .ref (A0 0)), (1, .int (nI (r))), (2, .int row), (3, .int i), (4, .int x)] := hl
        have htr : tn (nI r) = r := tn_nI hh_r
        obtain ⟨rv, hh_rv, rfl⟩ : ∃ r : Nat, r ≤ 7 ∧ row = nI r := i_nat 7 c2.1 c2.2 rfl (by decide)
        have hl : lv_has ls 7 [(0, .ref (A0 0)), (1, .int (nI (r))), (2, .int (nI (rv))), (3, .int i), (4, .int x)] := hl
        have htw : tn (nI rv) = rv := tn_nI hh_rv
        obtain ⟨mr, hmr40, hmr⟩ := hM rv hh_rv
        refine lv_aload_n hx hb dX12_temper_29 rfl (lv_at hl 0 rfl) ?_
        refine lv_iload_n hx hb dX12_temper_30 rfl (lv_at hl 2 rfl) ?_
        refine b_call (va_runV (As := [.int (nI (rv))]) (rest := []) ⟨hx, hb, hml, hown, hts⟩ (c_X12_isMissing l D cI cZ cT A0 ss tp fk fp ap sp tk vl ac tr la ma it sr bt nw dr pa im kp tc rv (by omega)) (cwV 1 hts gX12_temper_X12_isMissing rfl rfl rfl (by decide +kernel) ⟨(Nat.le_of_ble_eq_true rfl), (Nat.le_of_ble_eq_true rfl)⟩) (b_pV hK hP [0, 1, 2, 3, 4, 5, 6, 7, 8, 9, 10, 11] rfl 0 rfl rfl) rfl rfl hl.1 rfl (lv_room (Nat.le_of_ble_eq_true rfl)) dX12_temper_31 ⟨Nat.zero_le _, Nat.zero_le _⟩).run ?_
        refine b_ifeq (tgt := 43) hx hb dX12_temper_34 (by decide) (fun c4 => ?_) (fun c4 => ?_)
        · refine lv_aload_n hx hb dX12_temper_43 rfl (lv_at hl 0 rfl) ?_
          refine lv_iload_n hx hb dX12_temper_44 rfl (lv_at hl 2 rfl) ?_
          refine lv_iload_n hx hb dX12_temper_45 rfl (lv_at hl 3 rfl) ?_
          refine lv_iload hx hb dX12_temper_46 (lv_at hl 4 rfl) ?_
          refine b_call (va_runV (As := [.int (nI (rv)), .int i, .int x]) (rest := []) ⟨hx, hb, hml, hown, hts⟩ (c_X12_isPart l D cI cZ cT A0 ss tp fk fp ap sp tk vl ac tr la ma it sr bt nw dr pa im kp tc rv i x (by omega)) (cwV 3 hts gX12_temper_X12_isPart rfl rfl rfl (by decide +kernel) ⟨(Nat.le_of_ble_eq_true rfl), (Nat.le_of_ble_eq_true rfl)⟩) (b_pV hK hP [0, 1, 2, 3, 4, 5, 6, 7, 8, 9, 10, 11] rfl 0 rfl rfl) rfl rfl hl.1 rfl (lv_room (Nat.le_of_ble_eq_true rfl)) dX12_temper_48 ⟨Nat.zero_le _, Nat.zero_le _⟩).run ?_
          refine b_ifne (tgt := 60) hx hb dX12_temper_51 (by decide) (fun c5 => ?_) (fun c5 => ?_)
          · have hq1 := c5
            rw [hmr] at hq1
            obtain ⟨iv, nv, hin, rfl, rfl⟩ := i_part hmr40 hq1
            have hl : lv_has ls 7 [(0, .ref (A0 0)), (1, .int (nI (r))), (2, .int (nI (rv))), (3, .int (nI (iv))), (4, .int (nI (nv)))] := hl
            have hnv : nv ≤ 16 := by have z := c3.2; rw [i_lt, nI_toInt (by omega)] at z; have : (16 : Int32).toInt = 16 := rfl; omega
            have htiv : tn (nI iv) = iv := tn_nI (show iv ≤ 40 by omega)
            have htnv : tn (nI nv) = nv := tn_nI (show nv ≤ 40 by omega)
            refine lv_iconst (v := 0) hx hb dX12_temper_60 (by decide) ?_
            refine lv_istore (lv' := [(5, .int 0), (0, .ref (A0 0)), (1, .int (nI (r))), (2, .int (nI (rv))), (3, .int (nI (iv))), (4, .int (nI (nv)))]) hx hb dX12_temper_61 hl (by decide) rfl (fun ls hl => ?_)
            refine lv_iconst (v := (nI 1)) hx hb dX12_temper_63 (by decide) ?_
            refine lv_istore (lv' := [(6, .int (nI 1)), (5, .int 0), (0, .ref (A0 0)), (1, .int (nI (r))), (2, .int (nI (rv))), (3, .int (nI (iv))), (4, .int (nI (nv)))]) hx hb dX12_temper_64 hl (by decide) rfl (fun ls hl => ?_)
            refine b_loopM (N := 5) (I := fun j ls H locs => lv_has ls 7 [(6, .int (nI (j + 1))), (5, .int (tmF nw it r (40 * rv + iv) nv j)), (0, .ref (A0 0)), (1, .int (nI (r))), (2, .int (nI (rv))), (3, .int (nI (iv))), (4, .int (nI (nv)))] ∧ va_P D vwCl (wM cI cZ A0 ss tp fk fp ap sp tk vl ac tr la ma it sr bt nw dr pa im kp tc) H ∧ va_S A s.heap H locs) (fun j hj ih6 ls H locs hI => ?_) 0 (by omega) ⟨lv_sub hl [0, 1, 2, 3, 4, 5, 6] rfl, hP, hS⟩
            obtain ⟨hl, hP, hS⟩ := hI
            have hl : lv_has ls 7 [(6, .int (nI (j + 1))), (5, .int (tmF nw it r (40 * rv + iv) nv j)), (0, .ref (A0 0)), (1, .int (nI (r))), (2, .int (nI (rv))), (3, .int (nI (iv))), (4, .int (nI (nv)))] := hl
            have hP : va_P D vwCl (wM cI cZ A0 ss tp fk fp ap sp tk vl ac tr la ma it sr bt nw dr pa im kp tc) H := hP
            have hD : va_D A (wM cI cZ A0 ss tp fk fp ap sp tk vl ac tr la ma it sr bt nw dr pa im kp tc) := hD.sameA [(A0 0), (A0 1), (A0 2), (A0 3), (A0 4), (A0 5), (A0 6), (A0 7), (A0 8), (A0 9), (A0 10), (A0 11)] rfl rfl
            refine lv_iload hx hb dX12_temper_66 (lv_at hl 0 rfl) ?_
            refine lv_bipush (v := (nI 6)) hx hb dX12_temper_68 (by decide) ?_
            refine b_ge (tgt := 122) hx hb (by omega) (by omega) dX12_temper_70 (by decide) (fun c7 => ?_) (fun c7 => ?_)
            · have h_j : 5 = j := by omega
              subst h_j
              refine lv_aload_n hx hb dX12_temper_122 rfl (lv_at hl 2 rfl) ?_
              refine lv_iload hx hb dX12_temper_123 (lv_at hl 1 rfl) ?_
              refine b_callM [0, 1, 2, 3, 4, 5, 6, 7, 8, 9, 10, 11] (va_runV (As := [.int (tmF nw it r (40 * rv + iv) nv 5)]) (rest := []) ⟨hx, hb, hml, hown, hts⟩ (c_X12_well l D cI cZ cT A0 ss tp fk fp ap sp tk vl ac tr la ma it sr bt nw dr pa im kp tc (tmF nw it r (40 * rv + iv) nv 5)) (cwV 1 hts gX12_temper_X12_well rfl rfl rfl (by decide +kernel) ⟨(Nat.le_of_ble_eq_true rfl), (Nat.le_of_ble_eq_true rfl)⟩) (b_pVM hK hP hD [0, 1, 2, 3, 4, 5, 6, 7, 8, 9, 10, 11] (by decide) rfl rfl 0 rfl rfl) rfl rfl hl.1 rfl (lv_room (Nat.le_of_ble_eq_true rfl)) dX12_temper_125 ⟨Nat.zero_le _, Nat.zero_le _⟩).run hP hD hS rfl (Nat.le_of_ble_eq_true rfl) (fun H locs hP hS => ?_)
              have hP : va_P D vwCl (wM cI cZ A0 0 tp fk fp ap sp tk vl ac tr la ma it sr bt nw dr pa im kp tc) H := hP
              have hD : va_D A (wM cI cZ A0 0 tp fk fp ap sp tk vl ac tr la ma it sr bt nw dr pa im kp tc) := hD.sameA [(A0 0), (A0 1), (A0 2), (A0 3), (A0 4), (A0 5), (A0 6), (A0 7), (A0 8), (A0 9), (A0 10), (A0 11)] rfl rfl
              have E : m_temper ss nw la ma it (nI r) (nI rv) (nI iv) (nI nv) = ((tmF nw it r (40 * rv + iv) nv 5), 0) := (by first | (simp only [m_temper, eq_true c1, eq_true c2, eq_true c3, eq_false c4, eq_true c5, eq_true c7, htr, htw, htiv, htnv, bI, not_true_eq_false, not_false_eq_true, ite_true, ite_false, if_true, if_false, and_self, and_true, true_and, false_and, and_false, or_true, true_or, or_false, false_or, eq_self]; done) | (simp [m_temper, eq_true c1, eq_true c2, eq_true c3, eq_false c4, eq_true c5, eq_true c7, htr, htw, htiv, htnv, bI]; done))
              rw [E]
              exact b_retM hx hb hr hP hS rfl dX12_temper_128 hlocks
            · refine lv_iload hx hb dX12_temper_73 (lv_at hl 1 rfl) ?_
              refine b_join (jpc := 113) (rest' := [.int (tmF nw it r (40 * rv + iv) nv j)]) (P := fun v : Int32 => v = ((if gsb nw it r (nI (j + 1)) (nw (4 + 4 * r + 2)) (40 * rv + iv) nv = true then 1 <<< (nI (j + 1) &&& 31) else 0) : Int32)) (fun v8 ev8 => ?_) (fun K9 => ?_)
              · subst ev8
                refine lv_ior hx hb dX12_temper_113 ?_
                refine lv_topi (fun x10 ex10 => ?_)
                refine lv_istore (lv' := [(5, .int x10), (6, .int (nI (j + 1))), (0, .ref (A0 0)), (1, .int (nI (r))), (2, .int (nI (rv))), (3, .int (nI (iv))), (4, .int (nI (nv)))]) hx hb dX12_temper_114 hl (by decide) rfl (fun ls hl => ?_)
                refine lv_iinc (v := (nI (j + 1 + 1))) (lv' := [(6, .int (nI (j + 1 + 1))), (5, .int x10), (0, .ref (A0 0)), (1, .int (nI (r))), (2, .int (nI (rv))), (3, .int (nI (iv))), (4, .int (nI (nv)))]) hx hb dX12_temper_116 hl (k := 1) rfl (nI_add _ _) (by decide) rfl (fun ls hl => ?_)
                refine lv_goto (tgt := 66) hx hb dX12_temper_119 (by decide) ?_
                try subst ex10
                exact ih6 (by omega) ls H locs ⟨lv_sub hl [0, 1, 2, 3, 4, 5, 6] rfl, hP, hS⟩
              · refine lv_aload_n hx hb dX12_temper_75 rfl (lv_at hl 2 rfl) ?_
                refine lv_iload_n hx hb dX12_temper_76 rfl (lv_at hl 3 rfl) ?_
                refine lv_iload hx hb dX12_temper_77 (lv_at hl 0 rfl) ?_
                refine lv_aload_n hx hb dX12_temper_79 rfl (lv_at hl 2 rfl) ?_
                refine va_get (D := D) (ci := 11) (v := .ref (A0 6)) (C := RX12) (T := TX12) (N := 21) hx hb hts u_X12_temper_X12 hown hK.1 hP 0 rfl rfl 13 (by decide) (hts (.fieldLink RX12 25 "NoticeWeekModel" "now" "[I") (List.mem_of_getElem? (i := 2) rfl)) (fun _ h9 => h9) rfl dX12_temper_80 ?_
                refine lv_iconst (v := (nI 4)) hx hb dX12_temper_83 (by decide) ?_
                refine lv_iconst (v := (nI 4)) hx hb dX12_temper_84 (by decide) ?_
                refine lv_iload_n hx hb dX12_temper_85 rfl (lv_at hl 3 rfl) ?_
                refine b_mul hx hb dX12_temper_86 ?_
                refine b_add hx hb dX12_temper_87 ?_
                refine lv_iconst (v := (nI 2)) hx hb dX12_temper_88 (by decide) ?_
                refine b_add hx hb dX12_temper_89 ?_
                refine b_ald hx hb hK hP 6 rfl (by omega) (by decide) dX12_temper_90 ?_
                refine lv_bipush (v := (nI 40)) hx hb dX12_temper_91 (by decide) ?_
                refine lv_iload_n hx hb dX12_temper_93 rfl (lv_at hl 4 rfl) ?_
                refine b_mul hx hb dX12_temper_94 ?_
                refine lv_iload_n hx hb dX12_temper_95 rfl (lv_at hl 5 rfl) ?_
                refine b_add hx hb dX12_temper_96 ?_
                refine lv_iload hx hb dX12_temper_97 (lv_at hl 6 rfl) ?_
                refine b_call (va_runV (As := [.int (nI (r)), .int (nI (j + 1)), .int (nw (4 + (4 * r) + 2)), .int (nI (40 * rv + iv)), .int (nI (nv))]) (rest := [.int (tmF nw it r (40 * rv + iv) nv j)]) ⟨hx, hb, hml, hown, hts⟩ (c_X12_goesSo l D cI cZ cT A0 ss tp fk fp ap sp tk vl ac tr la ma it sr bt nw dr pa im kp tc r (nI (j + 1)) (nw (4 + (4 * r) + 2)) (40 * rv + iv) nv n (by omega) (by omega) (by omega) hW) (cwV 5 hts gX12_temper_X12_goesSo rfl rfl rfl (by decide +kernel) ⟨(Nat.le_of_ble_eq_true rfl), (Nat.le_of_ble_eq_true rfl)⟩) (b_pV hK hP [0, 1, 2, 3, 4, 5, 6, 7, 8, 9, 10, 11] rfl 0 rfl rfl) rfl rfl hl.1 rfl (lv_room (Nat.le_of_ble_eq_true rfl)) dX12_temper_99 ⟨Nat.zero_le _, Nat.zero_le _⟩).run ?_
                refine b_ifeq (tgt := 112) hx hb dX12_temper_102 (by decide) (fun c11 => ?_) (fun c11 => ?_)
                · refine lv_iconst (v := 0) hx hb dX12_temper_112 (by decide) ?_
                  exact K9 _ (by first | with_reducible rfl | (simp only [bI, eq_true c1, eq_true c2, eq_true c3, eq_false c4, eq_true c5, eq_true c7, eq_false c11, not_true_eq_false, not_false_eq_true, ite_true, ite_false, if_true, if_false, and_self, and_true, true_and, false_and, and_false, or_true, true_or, or_false, false_or]; done) | (simp [bI, eq_true c1, eq_true c2, eq_true c3, eq_false c4, eq_true c5, eq_true c7, eq_false c11]; done) | omega)
                · refine lv_iconst (v := 1) hx hb dX12_temper_105 (by decide) ?_
                  refine lv_iload hx hb dX12_temper_106 (lv_at hl 0 rfl) ?_
                  refine lv_ishl hx hb dX12_temper_108 ?_
                  refine lv_goto (tgt := 113) hx hb dX12_temper_109 (by decide) ?_
                  exact K9 _ (by first | with_reducible rfl | (simp only [bI, eq_true c1, eq_true c2, eq_true c3, eq_false c4, eq_true c5, eq_true c7, eq_true c11, not_true_eq_false, not_false_eq_true, ite_true, ite_false, if_true, if_false, and_self, and_true, true_and, false_and, and_false, or_true, true_or, or_false, false_or]; done) | (simp [bI, eq_true c1, eq_true c2, eq_true c3, eq_false c4, eq_true c5, eq_true c7, eq_true c11]; done) | omega)
          · refine lv_aload_n hx hb dX12_temper_54 rfl (lv_at hl 0 rfl) ?_
            refine lv_iconst (v := 2) hx hb dX12_temper_55 (by decide) ?_
            refine b_callM [0, 1, 2, 3, 4, 5, 6, 7, 8, 9, 10, 11] (va_runV (As := [.int 2]) (rest := []) ⟨hx, hb, hml, hown, hts⟩ (c_X12_found l D cI cZ cT A0 ss tp fk fp ap sp tk vl ac tr la ma it sr bt nw dr pa im kp tc 2) (cwV 1 hts gX12_temper_X12_found rfl rfl rfl (by decide +kernel) ⟨(Nat.le_of_ble_eq_true rfl), (Nat.le_of_ble_eq_true rfl)⟩) (b_pVM hK hP hD [0, 1, 2, 3, 4, 5, 6, 7, 8, 9, 10, 11] (by decide) rfl rfl 0 rfl rfl) rfl rfl hl.1 rfl (lv_room (Nat.le_of_ble_eq_true rfl)) dX12_temper_56 ⟨Nat.zero_le _, Nat.zero_le _⟩).run hP hD hS rfl (Nat.le_of_ble_eq_true rfl) (fun H locs hP hS => ?_)
            have hP : va_P D vwCl (wM cI cZ A0 2 tp fk fp ap sp tk vl ac tr la ma it sr bt nw dr pa im kp tc) H := hP
            have hD : va_D A (wM cI cZ A0 2 tp fk fp ap sp tk vl ac tr la ma it sr bt nw dr pa im kp tc) := hD.sameA [(A0 0), (A0 1), (A0 2), (A0 3), (A0 4), (A0 5), (A0 6), (A0 7), (A0 8), (A0 9), (A0 10), (A0 11)] rfl rfl
            have E : m_temper ss nw la ma it (nI r) (nI rv) i x = ((-1000010) - 2, 2) := (by first | (simp only [m_temper, eq_true c1, eq_true c2, eq_true c3, eq_false c4, eq_false c5, htr, htw, bI, not_true_eq_false, not_false_eq_true, ite_true, ite_false, if_true, if_false, and_self, and_true, true_and, false_and, and_false, or_true, true_or, or_false, false_or, eq_self]; done) | (simp [m_temper, eq_true c1, eq_true c2, eq_true c3, eq_false c4, eq_false c5, htr, htw, bI]; done))
            rw [E]
            exact b_retM hx hb hr hP hS rfl dX12_temper_59 hlocks
        · refine lv_aload_n hx hb dX12_temper_37 rfl (lv_at hl 0 rfl) ?_
          refine lv_iconst (v := 1) hx hb dX12_temper_38 (by decide) ?_
          refine b_callM [0, 1, 2, 3, 4, 5, 6, 7, 8, 9, 10, 11] (va_runV (As := [.int 1]) (rest := []) ⟨hx, hb, hml, hown, hts⟩ (c_X12_found l D cI cZ cT A0 ss tp fk fp ap sp tk vl ac tr la ma it sr bt nw dr pa im kp tc 1) (cwV 1 hts gX12_temper_X12_found rfl rfl rfl (by decide +kernel) ⟨(Nat.le_of_ble_eq_true rfl), (Nat.le_of_ble_eq_true rfl)⟩) (b_pVM hK hP hD [0, 1, 2, 3, 4, 5, 6, 7, 8, 9, 10, 11] (by decide) rfl rfl 0 rfl rfl) rfl rfl hl.1 rfl (lv_room (Nat.le_of_ble_eq_true rfl)) dX12_temper_39 ⟨Nat.zero_le _, Nat.zero_le _⟩).run hP hD hS rfl (Nat.le_of_ble_eq_true rfl) (fun H locs hP hS => ?_)
          have hP : va_P D vwCl (wM cI cZ A0 1 tp fk fp ap sp tk vl ac tr la ma it sr bt nw dr pa im kp tc) H := hP
          have hD : va_D A (wM cI cZ A0 1 tp fk fp ap sp tk vl ac tr la ma it sr bt nw dr pa im kp tc) := hD.sameA [(A0 0), (A0 1), (A0 2), (A0 3), (A0 4), (A0 5), (A0 6), (A0 7), (A0 8), (A0 9), (A0 10), (A0 11)] rfl rfl
          have E : m_temper ss nw la ma it (nI r) (nI rv) i x = ((-1000010) - 1, 1) := (by first | (simp only [m_temper, eq_true c1, eq_true c2, eq_true c3, eq_true c4, htr, htw, bI, not_true_eq_false, not_false_eq_true, ite_true, ite_false, if_true, if_false, and_self, and_true, true_and, false_and, and_false, or_true, true_or, or_false, false_or, eq_self]; done) | (simp [m_temper, eq_true c1, eq_true c2, eq_true c3, eq_true c4, htr, htw, bI]; done))
          rw [E]
          exact b_retM hx hb hr hP hS rfl dX12_temper_42 hlocks
      · refine lv_ldc (v := (-1000001)) hx hb hown (hts (.constant RX12 58 (-1000001)) (List.mem_of_getElem? (i := 1) rfl)) dX12_temper_26 ?_
        have E : m_temper ss nw la ma it reader row i x = ((-1000001), ss) := (by first | (simp only [m_temper, eq_true c1, eq_true c2, eq_false c3, bI, not_true_eq_false, not_false_eq_true, ite_true, ite_false, if_true, if_false, and_self, and_true, true_and, false_and, and_false, or_true, true_or, or_false, false_or, eq_self]; done) | (simp [m_temper, eq_true c1, eq_true c2, eq_false c3, bI]; done))
        rw [E]
        exact b_retM hx hb hr hP hS rfl dX12_temper_28 hlocks
theorem u_X12_told_X12 : ∀ w ∈ wsX120, w ∈ wsX12_told := fun _ h => List.mem_cons_of_mem _ (List.mem_append_right _ h)
set_option maxHeartbeats 4000000 in
set_option maxRecDepth 100000 in
theorem c_X12_told (l : Launch) (D : va_G) (cI cZ cT : ClassId) (A0 : Nat → Nat) (ss tp fk fp ap sp tk vl ac tr : Int32) (la ma it sr bt nw dr pa im kp tc : Nat → Int32) (reader row i x what : Int32) (n : Nat) (hW : TK nw n) (hM : ∀ r, r ≤ 7 → ∃ n, n ≤ 40 ∧ ma r = nI n) : Met l yX12_told wsX12_told ({ frames := 5, cells := 0, slots := 0, locals := 122 }) (pM D cI cZ cT [.ref (A0 0), .int reader, .int row, .int i, .int x, .int what] (wM cI cZ A0 ss tp fk fp ap sp tk vl ac tr la ma it sr bt nw dr pa im kp tc)) (qM D (some (.int ((m_told ss nw la ma it reader row i x what).1))) (wM cI cZ A0 ((m_told ss nw la ma it reader row i x what).2) tp fk fp ap sp tk vl ac tr la ma it sr bt nw dr pa im kp tc) (adr (wM cI cZ A0 ss tp fk fp ap sp tk vl ac tr la ma it sr bt nw dr pa im kp tc))) 0 0 (adr (wM cI cZ A0 ss tp fk fp ap sp tk vl ac tr la ma it sr bt nw dr pa im kp tc)) := by
  refine Met.ofW (cc := cX12_told) (maxL := 10) (ret := (some .int)) (by decide) rfl ?_
  intro p e s m args below meth c s₁ B hml hv
  obtain ⟨rfl, hP, hD0, hK⟩ := hv
  have hx := B.exec
  have hb := B.bytes
  have hr := B.returns
  have hts := atoms_spec (ws := wsX12_told) B.pre
  have hown : s.vm.findClass RX12 = some m.cls := findClass_of_methodNamed B.named
  have hlocks := B.notSynchronized
  have hD := hD0.toAdr
  have hS : va_S (adr (wM cI cZ A0 ss tp fk fp ap sp tk vl ac tr la ma it sr bt nw dr pa im kp tc)) s.heap s.heap [] := va_S.rf
  generalize adr (wM cI cZ A0 ss tp fk fp ap sp tk vl ac tr la ma it sr bt nw dr pa im kp tc) = A at hD hS ⊢
  have hl := lv_entry ([.ref (A0 0), .int reader, .int row, .int i, .int x, .int what]) (n := 10) (Nat.le_of_ble_eq_true rfl)
  rw [lg_entry_eq]
  generalize (lg_sl ([.ref (A0 0), .int reader, .int row, .int i, .int x, .int what]) ++ List.replicate (10 - (lg_sl ([.ref (A0 0), .int reader, .int row, .int i, .int x, .int what])).length) Slot.unset).toArray = ls at hl ⊢
  have hl : lv_has ls 10 [(0, .ref (A0 0)), (1, .int reader), (2, .int row), (3, .int i), (4, .int x), (5, .int what)] := hl
  refine lv_aload_n hx hb dX12_told_0 rfl (lv_at hl 0 rfl) ?_
  refine lv_iload_n hx hb dX12_told_1 rfl (lv_at hl 1 rfl) ?_
  refine b_call (va_runV (As := [.int reader]) (rest := []) ⟨hx, hb, hml, hown, hts⟩ (c_X12_isReader l D cI cZ cT A0 ss tp fk fp ap sp tk vl ac tr la ma it sr bt nw dr pa im kp tc reader) (cwV 1 hts gX12_told_X12_isReader rfl rfl rfl (by decide +kernel) ⟨(Nat.le_of_ble_eq_true rfl), (Nat.le_of_ble_eq_true rfl)⟩) (b_pV hK hP [0, 1, 2, 3, 4, 5, 6, 7, 8, 9, 10, 11] rfl 0 rfl rfl) rfl rfl hl.1 rfl (lv_room (Nat.le_of_ble_eq_true rfl)) dX12_told_2 ⟨Nat.zero_le _, Nat.zero_le _⟩).run ?_
  refine b_ifeq (tgt := 36) hx hb dX12_told_5 (by decide) (fun c1 => ?_) (fun c1 => ?_)
  · refine lv_ldc (v := (-1000001)) hx hb hown (hts (.constant RX12 58 (-1000001)) (List.mem_of_getElem? (i := 1) rfl)) dX12_told_36 ?_
    have E : m_told ss nw la ma it reader row i x what = ((-1000001), ss) := (by first | (simp only [m_told, eq_false c1, bI, not_true_eq_false, not_false_eq_true, ite_true, ite_false, if_true, if_false, and_self, and_true, true_and, false_and, and_false, or_true, true_or, or_false, false_or, eq_self]; done) | (simp [m_told, eq_false c1, bI]; done))
    rw [E]
    exact b_retM hx hb hr hP hS rfl dX12_told_38 hlocks
  · refine lv_iload_n hx hb dX12_told_8 rfl (lv_at hl 2 rfl) ?_
    refine b_call (va_runS (As := [.int row]) (rest := []) ⟨hx, hb, hml, hown, hts⟩ (c_X12_isRow l D cI cZ cT row) (va_cwS 1 hts gX12_told_X12_isRow rfl rfl rfl (by decide +kernel) ⟨(Nat.le_of_ble_eq_true rfl), (Nat.le_of_ble_eq_true rfl)⟩) (b_pS0 hK) rfl rfl hl.1 rfl (lv_room (Nat.le_of_ble_eq_true rfl)) dX12_told_9 ⟨Nat.zero_le _, Nat.zero_le _⟩).run ?_
    refine b_ifeq (tgt := 36) hx hb dX12_told_12 (by decide) (fun c2 => ?_) (fun c2 => ?_)
    · refine lv_ldc (v := (-1000001)) hx hb hown (hts (.constant RX12 58 (-1000001)) (List.mem_of_getElem? (i := 1) rfl)) dX12_told_36 ?_
      have E : m_told ss nw la ma it reader row i x what = ((-1000001), ss) := (by first | (simp only [m_told, eq_true c1, eq_false c2, bI, not_true_eq_false, not_false_eq_true, ite_true, ite_false, if_true, if_false, and_self, and_true, true_and, false_and, and_false, or_true, true_or, or_false, false_or, eq_self]; done) | (simp [m_told, eq_true c1, eq_false c2, bI]; done))
      rw [E]
      exact b_retM hx hb hr hP hS rfl dX12_told_38 hlocks
    · refine lv_iload hx hb dX12_told_15 (lv_at hl 4 rfl) ?_
      refine lv_iconst (v := 1) hx hb dX12_told_17 (by decide) ?_
      refine lv_bipush (v := 16) hx hb dX12_told_18 (by decide) ?_
      refine b_call (va_runS (As := [.int x, .int 1, .int 16]) (rest := []) ⟨hx, hb, hml, hown, hts⟩ (c_X12_in l D cI cZ cT x 1 16) (va_cwS 3 hts gX12_told_X12_in rfl rfl rfl (by decide +kernel) ⟨(Nat.le_of_ble_eq_true rfl), (Nat.le_of_ble_eq_true rfl)⟩) (b_pS0 hK) rfl rfl hl.1 rfl (lv_room (Nat.le_of_ble_eq_true rfl)) dX12_told_20 ⟨Nat.zero_le _, Nat.zero_le _⟩).run ?_
      refine b_ifeq (tgt := 36) hx hb dX12_told_23 (by decide) (fun c3 => ?_) (fun c3 => ?_)
      · refine lv_ldc (v := (-1000001)) hx hb hown (hts (.constant RX12 58 (-1000001)) (List.mem_of_getElem? (i := 1) rfl)) dX12_told_36 ?_
        have E : m_told ss nw la ma it reader row i x what = ((-1000001), ss) := (by first | (simp only [m_told, eq_true c1, eq_true c2, eq_false c3, bI, not_true_eq_false, not_false_eq_true, ite_true, ite_false, if_true, if_false, and_self, and_true, true_and, false_and, and_false, or_true, true_or, or_false, false_or, eq_self]; done) | (simp [m_told, eq_true c1, eq_true c2, eq_false c3, bI]; done))
        rw [E]
        exact b_retM hx hb hr hP hS rfl dX12_told_38 hlocks
      · refine lv_iload hx hb dX12_told_26 (lv_at hl 5 rfl) ?_
        refine lv_iconst (v := 0) hx hb dX12_told_28 (by decide) ?_
        refine lv_iconst (v := 1) hx hb dX12_told_29 (by decide) ?_
        refine b_call (va_runS (As := [.int what, .int 0, .int 1]) (rest := []) ⟨hx, hb, hml, hown, hts⟩ (c_X12_in l D cI cZ cT what 0 1) (va_cwS 3 hts gX12_told_X12_in rfl rfl rfl (by decide +kernel) ⟨(Nat.le_of_ble_eq_true rfl), (Nat.le_of_ble_eq_true rfl)⟩) (b_pS0 hK) rfl rfl hl.1 rfl (lv_room (Nat.le_of_ble_eq_true rfl)) dX12_told_30 ⟨Nat.zero_le _, Nat.zero_le _⟩).run ?_
        refine b_ifne (tgt := 39) hx hb dX12_told_33 (by decide) (fun c4 => ?_) (fun c4 => ?_)
        · obtain ⟨r, hh_r, rfl⟩ : ∃ r : Nat, r ≤ 5 ∧ reader = nI r := i_rd hW c1
          have hl : lv_has ls 10 [(0, .ref (A0 0)), (1, .int (nI (r))), (2, .int row), (3, .int i), (4, .int x), (5, .int what)] := hl
          have htr : tn (nI r) = r := tn_nI hh_r
          obtain ⟨rv, hh_rv, rfl⟩ : ∃ r : Nat, r ≤ 7 ∧ row = nI r := i_nat 7 c2.1 c2.2 rfl (by decide)
          have hl : lv_has ls 10 [(0, .ref (A0 0)), (1, .int (nI (r))), (2, .int (nI (rv))), (3, .int i), (4, .int x), (5, .int what)] := hl
          have htw : tn (nI rv) = rv := tn_nI hh_rv
          obtain ⟨mr, hmr40, hmr⟩ := hM rv hh_rv
          refine lv_aload_n hx hb dX12_told_39 rfl (lv_at hl 0 rfl) ?_
          refine lv_iload_n hx hb dX12_told_40 rfl (lv_at hl 2 rfl) ?_
          refine b_call (va_runV (As := [.int (nI (rv))]) (rest := []) ⟨hx, hb, hml, hown, hts⟩ (c_X12_isMissing l D cI cZ cT A0 ss tp fk fp ap sp tk vl ac tr la ma it sr bt nw dr pa im kp tc rv (by omega)) (cwV 1 hts gX12_told_X12_isMissing rfl rfl rfl (by decide +kernel) ⟨(Nat.le_of_ble_eq_true rfl), (Nat.le_of_ble_eq_true rfl)⟩) (b_pV hK hP [0, 1, 2, 3, 4, 5, 6, 7, 8, 9, 10, 11] rfl 0 rfl rfl) rfl rfl hl.1 rfl (lv_room (Nat.le_of_ble_eq_true rfl)) dX12_told_41 ⟨Nat.zero_le _, Nat.zero_le _⟩).run ?_
          refine b_ifeq (tgt := 53) hx hb dX12_told_44 (by decide) (fun c5 => ?_) (fun c5 => ?_)
          · refine lv_aload_n hx hb dX12_told_53 rfl (lv_at hl 0 rfl) ?_
            refine lv_iload_n hx hb dX12_told_54 rfl (lv_at hl 2 rfl) ?_
            refine lv_iload_n hx hb dX12_told_55 rfl (lv_at hl 3 rfl) ?_
            refine lv_iload hx hb dX12_told_56 (lv_at hl 4 rfl) ?_
            refine b_call (va_runV (As := [.int (nI (rv)), .int i, .int x]) (rest := []) ⟨hx, hb, hml, hown, hts⟩ (c_X12_isPart l D cI cZ cT A0 ss tp fk fp ap sp tk vl ac tr la ma it sr bt nw dr pa im kp tc rv i x (by omega)) (cwV 3 hts gX12_told_X12_isPart rfl rfl rfl (by decide +kernel) ⟨(Nat.le_of_ble_eq_true rfl), (Nat.le_of_ble_eq_true rfl)⟩) (b_pV hK hP [0, 1, 2, 3, 4, 5, 6, 7, 8, 9, 10, 11] rfl 0 rfl rfl) rfl rfl hl.1 rfl (lv_room (Nat.le_of_ble_eq_true rfl)) dX12_told_58 ⟨Nat.zero_le _, Nat.zero_le _⟩).run ?_
            refine b_ifne (tgt := 70) hx hb dX12_told_61 (by decide) (fun c6 => ?_) (fun c6 => ?_)
            · have hq1 := c6
              rw [hmr] at hq1
              obtain ⟨iv, nv, hin, rfl, rfl⟩ := i_part hmr40 hq1
              have hl : lv_has ls 10 [(0, .ref (A0 0)), (1, .int (nI (r))), (2, .int (nI (rv))), (3, .int (nI (iv))), (4, .int (nI (nv))), (5, .int what)] := hl
              have hnv : nv ≤ 16 := by have z := c3.2; rw [i_lt, nI_toInt (by omega)] at z; have : (16 : Int32).toInt = 16 := rfl; omega
              have htiv : tn (nI iv) = iv := tn_nI (show iv ≤ 40 by omega)
              have htnv : tn (nI nv) = nv := tn_nI (show nv ≤ 40 by omega)
              refine lv_iconst (v := 0) hx hb dX12_told_70 (by decide) ?_
              refine lv_istore (lv' := [(6, .int 0), (0, .ref (A0 0)), (1, .int (nI (r))), (2, .int (nI (rv))), (3, .int (nI (iv))), (4, .int (nI (nv))), (5, .int what)]) hx hb dX12_told_71 hl (by decide) rfl (fun ls hl => ?_)
              refine lv_ldc (v := (-1000000)) hx hb hown (hts (.constant RX12 44 (-1000000)) (List.mem_of_getElem? (i := 2) rfl)) dX12_told_73 ?_
              refine lv_istore (lv' := [(7, .int (-1000000)), (6, .int 0), (0, .ref (A0 0)), (1, .int (nI (r))), (2, .int (nI (rv))), (3, .int (nI (iv))), (4, .int (nI (nv))), (5, .int what)]) hx hb dX12_told_75 hl (by decide) rfl (fun ls hl => ?_)
              refine lv_iconst (v := (nI 0)) hx hb dX12_told_77 (by decide) ?_
              refine lv_istore (lv' := [(8, .int (nI 0)), (7, .int (-1000000)), (6, .int 0), (0, .ref (A0 0)), (1, .int (nI (r))), (2, .int (nI (rv))), (3, .int (nI (iv))), (4, .int (nI (nv))), (5, .int what)]) hx hb dX12_told_78 hl (by decide) rfl (fun ls hl => ?_)
              refine b_loopM (N := 64) (I := fun k ls H locs => lv_has ls 10 [(8, .int (nI (k))), (6, .int ((tlS nw it r (40 * rv + iv) nv k).1)), (7, .int ((tlS nw it r (40 * rv + iv) nv k).2)), (0, .ref (A0 0)), (1, .int (nI (r))), (2, .int (nI (rv))), (3, .int (nI (iv))), (4, .int (nI (nv))), (5, .int what)] ∧ va_P D vwCl (wM cI cZ A0 ss tp fk fp ap sp tk vl ac tr la ma it sr bt nw dr pa im kp tc) H ∧ va_S A s.heap H locs) (fun k hk ih7 ls H locs hI => ?_) 0 (by omega) ⟨lv_sub hl [0, 2, 1, 3, 4, 5, 6, 7, 8] rfl, hP, hS⟩
              obtain ⟨hl, hP, hS⟩ := hI
              have hl : lv_has ls 10 [(8, .int (nI (k))), (6, .int ((tlS nw it r (40 * rv + iv) nv k).1)), (7, .int ((tlS nw it r (40 * rv + iv) nv k).2)), (0, .ref (A0 0)), (1, .int (nI (r))), (2, .int (nI (rv))), (3, .int (nI (iv))), (4, .int (nI (nv))), (5, .int what)] := hl
              have hP : va_P D vwCl (wM cI cZ A0 ss tp fk fp ap sp tk vl ac tr la ma it sr bt nw dr pa im kp tc) H := hP
              have hD : va_D A (wM cI cZ A0 ss tp fk fp ap sp tk vl ac tr la ma it sr bt nw dr pa im kp tc) := hD.sameA [(A0 0), (A0 1), (A0 2), (A0 3), (A0 4), (A0 5), (A0 6), (A0 7), (A0 8), (A0 9), (A0 10), (A0 11)] rfl rfl
              refine lv_iload hx hb dX12_told_80 (lv_at hl 0 rfl) ?_
              refine lv_bipush (v := (nI 64)) hx hb dX12_told_82 (by decide) ?_
              refine b_ge (tgt := 154) hx hb (by omega) (by omega) dX12_told_84 (by decide) (fun c8 => ?_) (fun c8 => ?_)
              · have h64 : k = 64 := by omega
                refine lv_aload_n hx hb dX12_told_154 rfl (lv_at hl 3 rfl) ?_
                refine b_join (jpc := 167) (rest' := [.ref (A0 0)]) (P := fun v : Int32 => v = ((if what = 0 then (tlS nw it r (40 * rv + iv) nv k).1 else (tlS nw it r (40 * rv + iv) nv k).2) : Int32)) (fun v9 ev9 => ?_) (fun K10 => ?_)
                · subst ev9
                  refine b_callM [0, 1, 2, 3, 4, 5, 6, 7, 8, 9, 10, 11] (va_runV (As := [.int (if what = 0 then (tlS nw it r (40 * rv + iv) nv k).1 else (tlS nw it r (40 * rv + iv) nv k).2)]) (rest := []) ⟨hx, hb, hml, hown, hts⟩ (c_X12_well l D cI cZ cT A0 ss tp fk fp ap sp tk vl ac tr la ma it sr bt nw dr pa im kp tc (if what = 0 then (tlS nw it r (40 * rv + iv) nv k).1 else (tlS nw it r (40 * rv + iv) nv k).2)) (cwV 1 hts gX12_told_X12_well rfl rfl rfl (by decide +kernel) ⟨(Nat.le_of_ble_eq_true rfl), (Nat.le_of_ble_eq_true rfl)⟩) (b_pVM hK hP hD [0, 1, 2, 3, 4, 5, 6, 7, 8, 9, 10, 11] (by decide) rfl rfl 0 rfl rfl) rfl rfl hl.1 rfl (lv_room (Nat.le_of_ble_eq_true rfl)) dX12_told_167 ⟨Nat.zero_le _, Nat.zero_le _⟩).run hP hD hS rfl (Nat.le_of_ble_eq_true rfl) (fun H locs hP hS => ?_)
                  have hP : va_P D vwCl (wM cI cZ A0 0 tp fk fp ap sp tk vl ac tr la ma it sr bt nw dr pa im kp tc) H := hP
                  have hD : va_D A (wM cI cZ A0 0 tp fk fp ap sp tk vl ac tr la ma it sr bt nw dr pa im kp tc) := hD.sameA [(A0 0), (A0 1), (A0 2), (A0 3), (A0 4), (A0 5), (A0 6), (A0 7), (A0 8), (A0 9), (A0 10), (A0 11)] rfl rfl
                  have E : m_told ss nw la ma it (nI r) (nI rv) (nI iv) (nI nv) what = ((if what = 0 then (tlS nw it r (40 * rv + iv) nv k).1 else (tlS nw it r (40 * rv + iv) nv k).2), 0) := (by first | (simp only [m_told, eq_true c1, eq_true c2, eq_true c3, eq_true c4, eq_false c5, eq_true c6, eq_true c8, htr, htw, htiv, htnv, tlE_1 h64, tlE_2 h64, bI, not_true_eq_false, not_false_eq_true, ite_true, ite_false, if_true, if_false, and_self, and_true, true_and, false_and, and_false, or_true, true_or, or_false, false_or, eq_self]; done) | (simp [m_told, eq_true c1, eq_true c2, eq_true c3, eq_true c4, eq_false c5, eq_true c6, eq_true c8, htr, htw, htiv, htnv, tlE_1 h64, tlE_2 h64, bI]; done))
                  rw [E]
                  exact b_retM hx hb hr hP hS rfl dX12_told_170 hlocks
                · refine lv_iload hx hb dX12_told_155 (lv_at hl 8 rfl) ?_
                  refine lv_if_ne (tgt := 165) hx hb dX12_told_157 (by decide) (fun c11 => ?_) (fun c11 => ?_)
                  · refine lv_iload hx hb dX12_told_165 (lv_at hl 2 rfl) ?_
                    exact K10 _ (by first | with_reducible rfl | (simp only [bI, eq_true c1, eq_true c2, eq_true c3, eq_true c4, eq_false c5, eq_true c6, eq_true c8, eq_false c11, not_true_eq_false, not_false_eq_true, ite_true, ite_false, if_true, if_false, and_self, and_true, true_and, false_and, and_false, or_true, true_or, or_false, false_or]; done) | (simp [bI, eq_true c1, eq_true c2, eq_true c3, eq_true c4, eq_false c5, eq_true c6, eq_true c8, eq_false c11]; done) | omega)
                  · refine lv_iload hx hb dX12_told_160 (lv_at hl 1 rfl) ?_
                    refine lv_goto (tgt := 167) hx hb dX12_told_162 (by decide) ?_
                    exact K10 _ (by first | with_reducible rfl | (simp only [bI, eq_true c1, eq_true c2, eq_true c3, eq_true c4, eq_false c5, eq_true c6, eq_true c8, eq_true c11, not_true_eq_false, not_false_eq_true, ite_true, ite_false, if_true, if_false, and_self, and_true, true_and, false_and, and_false, or_true, true_or, or_false, false_or]; done) | (simp [bI, eq_true c1, eq_true c2, eq_true c3, eq_true c4, eq_false c5, eq_true c6, eq_true c8, eq_true c11]; done) | omega)
              · refine lv_aload_n hx hb dX12_told_87 rfl (lv_at hl 3 rfl) ?_
                refine lv_iload_n hx hb dX12_told_88 rfl (lv_at hl 4 rfl) ?_
                refine lv_aload_n hx hb dX12_told_89 rfl (lv_at hl 3 rfl) ?_
                refine va_get (D := D) (ci := 11) (v := .ref (A0 6)) (C := RX12) (T := TX12) (N := 21) hx hb hts u_X12_told_X12 hown hK.1 hP 0 rfl rfl 13 (by decide) (hts (.fieldLink RX12 25 "NoticeWeekModel" "now" "[I") (List.mem_of_getElem? (i := 3) rfl)) (fun _ h9 => h9) rfl dX12_told_90 ?_
                refine lv_iconst (v := (nI 4)) hx hb dX12_told_93 (by decide) ?_
                refine lv_iconst (v := (nI 4)) hx hb dX12_told_94 (by decide) ?_
                refine lv_iload_n hx hb dX12_told_95 rfl (lv_at hl 4 rfl) ?_
                refine b_mul hx hb dX12_told_96 ?_
                refine b_add hx hb dX12_told_97 ?_
                refine b_ald hx hb hK hP 6 rfl (by omega) (by decide) dX12_told_98 ?_
                refine lv_iload hx hb dX12_told_99 (lv_at hl 0 rfl) ?_
                refine lv_bipush (v := (nI 40)) hx hb dX12_told_101 (by decide) ?_
                refine lv_iload_n hx hb dX12_told_103 rfl (lv_at hl 5 rfl) ?_
                refine b_mul hx hb dX12_told_104 ?_
                refine lv_iload_n hx hb dX12_told_105 rfl (lv_at hl 6 rfl) ?_
                refine b_add hx hb dX12_told_106 ?_
                refine lv_iload hx hb dX12_told_107 (lv_at hl 7 rfl) ?_
                refine b_call (va_runV (As := [.int (nI (r)), .int (nw (4 + (4 * r))), .int (nI (k)), .int (nI (40 * rv + iv)), .int (nI (nv))]) (rest := []) ⟨hx, hb, hml, hown, hts⟩ (c_X12_goesSo l D cI cZ cT A0 ss tp fk fp ap sp tk vl ac tr la ma it sr bt nw dr pa im kp tc r (nw (4 + (4 * r))) (nI (k)) (40 * rv + iv) nv n (by omega) (by omega) (by omega) hW) (cwV 5 hts gX12_told_X12_goesSo rfl rfl rfl (by decide +kernel) ⟨(Nat.le_of_ble_eq_true rfl), (Nat.le_of_ble_eq_true rfl)⟩) (b_pV hK hP [0, 1, 2, 3, 4, 5, 6, 7, 8, 9, 10, 11] rfl 0 rfl rfl) rfl rfl hl.1 rfl (lv_room (Nat.le_of_ble_eq_true rfl)) dX12_told_109 ⟨Nat.zero_le _, Nat.zero_le _⟩).run ?_
                refine lv_istore (lv' := [(9, .int (bI (gsb nw it r (nw (4 + (4 * r))) (nI (k)) (40 * rv + iv) nv = true))), (8, .int (nI (k))), (6, .int ((tlS nw it r (40 * rv + iv) nv k).1)), (7, .int ((tlS nw it r (40 * rv + iv) nv k).2)), (0, .ref (A0 0)), (1, .int (nI (r))), (2, .int (nI (rv))), (3, .int (nI (iv))), (4, .int (nI (nv))), (5, .int what)]) hx hb dX12_told_112 hl (by decide) rfl (fun ls hl => ?_)
                refine b_join (jpc := 131) (rest' := []) (P := fun v : Int32 => v = ((if gsb nw it r (nw (4 + 4 * r)) (nI k) (40 * rv + iv) nv = true ∧ (tlS nw it r (40 * rv + iv) nv k).1 = 0 then nI k else (tlS nw it r (40 * rv + iv) nv k).2) : Int32)) (fun v12 ev12 => ?_) (fun K13 => ?_)
                · subst ev12
                  refine lv_topi (fun x14 ex14 => ?_)
                  refine lv_istore (lv' := [(7, .int x14), (9, .int (bI (gsb nw it r (nw (4 + (4 * r))) (nI (k)) (40 * rv + iv) nv = true))), (8, .int (nI (k))), (6, .int ((tlS nw it r (40 * rv + iv) nv k).1)), (0, .ref (A0 0)), (1, .int (nI (r))), (2, .int (nI (rv))), (3, .int (nI (iv))), (4, .int (nI (nv))), (5, .int what)]) hx hb dX12_told_131 hl (by decide) rfl (fun ls hl => ?_)
                  refine lv_iload hx hb dX12_told_133 (lv_at hl 3 rfl) ?_
                  refine b_join (jpc := 145) (rest' := [.int ((tlS nw it r (40 * rv + iv) nv k).1)]) (P := fun v : Int32 => v = ((if gsb nw it r (nw (4 + 4 * r)) (nI k) (40 * rv + iv) nv = true then 1 else 0) : Int32)) (fun v15 ev15 => ?_) (fun K16 => ?_)
                  · subst ev15
                    refine lv_iadd hx hb dX12_told_145 ?_
                    refine lv_topi (fun x17 ex17 => ?_)
                    refine lv_istore (lv' := [(6, .int x17), (7, .int x14), (9, .int (bI (gsb nw it r (nw (4 + (4 * r))) (nI (k)) (40 * rv + iv) nv = true))), (8, .int (nI (k))), (0, .ref (A0 0)), (1, .int (nI (r))), (2, .int (nI (rv))), (3, .int (nI (iv))), (4, .int (nI (nv))), (5, .int what)]) hx hb dX12_told_146 hl (by decide) rfl (fun ls hl => ?_)
                    refine lv_iinc (v := (nI (k + 1))) (lv' := [(8, .int (nI (k + 1))), (6, .int x17), (7, .int x14), (9, .int (bI (gsb nw it r (nw (4 + (4 * r))) (nI (k)) (40 * rv + iv) nv = true))), (0, .ref (A0 0)), (1, .int (nI (r))), (2, .int (nI (rv))), (3, .int (nI (iv))), (4, .int (nI (nv))), (5, .int what)]) hx hb dX12_told_148 hl (k := 3) rfl (nI_add _ _) (by decide) rfl (fun ls hl => ?_)
                    refine lv_goto (tgt := 80) hx hb dX12_told_151 (by decide) ?_
                    have st18 : x17 = (tlS nw it r (40 * rv + iv) nv (k + 1)).1 := ex17.trans tlS_1.symm
                    rw [st18] at hl
                    have st19 : x14 = (tlS nw it r (40 * rv + iv) nv (k + 1)).2 := ex14.trans tlS_2.symm
                    rw [st19] at hl
                    exact ih7 (by omega) ls H locs ⟨lv_sub hl [0, 1, 2, 4, 5, 6, 7, 8, 9] rfl, hP, hS⟩
                  · refine lv_iload hx hb dX12_told_135 (lv_at hl 1 rfl) ?_
                    refine b_ifeq (tgt := 144) hx hb dX12_told_137 (by decide) (fun c20 => ?_) (fun c20 => ?_)
                    · refine lv_iconst (v := 0) hx hb dX12_told_144 (by decide) ?_
                      exact K16 _ (by first | with_reducible rfl | (simp only [bI, eq_true c1, eq_true c2, eq_true c3, eq_true c4, eq_false c5, eq_true c6, eq_true c8, eq_false c20, not_true_eq_false, not_false_eq_true, ite_true, ite_false, if_true, if_false, and_self, and_true, true_and, false_and, and_false, or_true, true_or, or_false, false_or]; done) | (simp [bI, eq_true c1, eq_true c2, eq_true c3, eq_true c4, eq_false c5, eq_true c6, eq_true c8, eq_false c20]; done) | omega)
                    · refine lv_iconst (v := 1) hx hb dX12_told_140 (by decide) ?_
                      refine lv_goto (tgt := 145) hx hb dX12_told_141 (by decide) ?_
                      exact K16 _ (by first | with_reducible rfl | (simp only [bI, eq_true c1, eq_true c2, eq_true c3, eq_true c4, eq_false c5, eq_true c6, eq_true c8, eq_true c20, not_true_eq_false, not_false_eq_true, ite_true, ite_false, if_true, if_false, and_self, and_true, true_and, false_and, and_false, or_true, true_or, or_false, false_or]; done) | (simp [bI, eq_true c1, eq_true c2, eq_true c3, eq_true c4, eq_false c5, eq_true c6, eq_true c8, eq_true c20]; done) | omega)
                · refine lv_iload hx hb dX12_told_114 (lv_at hl 0 rfl) ?_
                  refine b_ifeq (tgt := 129) hx hb dX12_told_116 (by decide) (fun c21 => ?_) (fun c21 => ?_)
                  · refine lv_iload hx hb dX12_told_129 (lv_at hl 3 rfl) ?_
                    exact K13 _ (by first | with_reducible rfl | (simp only [bI, eq_true c1, eq_true c2, eq_true c3, eq_true c4, eq_false c5, eq_true c6, eq_true c8, eq_false c21, not_true_eq_false, not_false_eq_true, ite_true, ite_false, if_true, if_false, and_self, and_true, true_and, false_and, and_false, or_true, true_or, or_false, false_or]; done) | (simp [bI, eq_true c1, eq_true c2, eq_true c3, eq_true c4, eq_false c5, eq_true c6, eq_true c8, eq_false c21]; done) | omega)
                  · refine lv_iload hx hb dX12_told_119 (lv_at hl 2 rfl) ?_
                    refine lv_if_ne (tgt := 129) hx hb dX12_told_121 (by decide) (fun c22 => ?_) (fun c22 => ?_)
                    · refine lv_iload hx hb dX12_told_129 (lv_at hl 3 rfl) ?_
                      exact K13 _ (by first | with_reducible rfl | (simp only [bI, eq_true c1, eq_true c2, eq_true c3, eq_true c4, eq_false c5, eq_true c6, eq_true c8, eq_true c21, eq_false c22, not_true_eq_false, not_false_eq_true, ite_true, ite_false, if_true, if_false, and_self, and_true, true_and, false_and, and_false, or_true, true_or, or_false, false_or]; done) | (simp [bI, eq_true c1, eq_true c2, eq_true c3, eq_true c4, eq_false c5, eq_true c6, eq_true c8, eq_true c21, eq_false c22]; done) | omega)
                    · refine lv_iload hx hb dX12_told_124 (lv_at hl 1 rfl) ?_
                      refine lv_goto (tgt := 131) hx hb dX12_told_126 (by decide) ?_
                      exact K13 _ (by first | with_reducible rfl | (simp only [bI, eq_true c1, eq_true c2, eq_true c3, eq_true c4, eq_false c5, eq_true c6, eq_true c8, eq_true c21, eq_true c22, not_true_eq_false, not_false_eq_true, ite_true, ite_false, if_true, if_false, and_self, and_true, true_and, false_and, and_false, or_true, true_or, or_false, false_or]; done) | (simp [bI, eq_true c1, eq_true c2, eq_true c3, eq_true c4, eq_false c5, eq_true c6, eq_true c8, eq_true c21, eq_true c22]; done) | omega)
            · refine lv_aload_n hx hb dX12_told_64 rfl (lv_at hl 0 rfl) ?_
              refine lv_iconst (v := 2) hx hb dX12_told_65 (by decide) ?_
              refine b_callM [0, 1, 2, 3, 4, 5, 6, 7, 8, 9, 10, 11] (va_runV (As := [.int 2]) (rest := []) ⟨hx, hb, hml, hown, hts⟩ (c_X12_found l D cI cZ cT A0 ss tp fk fp ap sp tk vl ac tr la ma it sr bt nw dr pa im kp tc 2) (cwV 1 hts gX12_told_X12_found rfl rfl rfl (by decide +kernel) ⟨(Nat.le_of_ble_eq_true rfl), (Nat.le_of_ble_eq_true rfl)⟩) (b_pVM hK hP hD [0, 1, 2, 3, 4, 5, 6, 7, 8, 9, 10, 11] (by decide) rfl rfl 0 rfl rfl) rfl rfl hl.1 rfl (lv_room (Nat.le_of_ble_eq_true rfl)) dX12_told_66 ⟨Nat.zero_le _, Nat.zero_le _⟩).run hP hD hS rfl (Nat.le_of_ble_eq_true rfl) (fun H locs hP hS => ?_)
              have hP : va_P D vwCl (wM cI cZ A0 2 tp fk fp ap sp tk vl ac tr la ma it sr bt nw dr pa im kp tc) H := hP
              have hD : va_D A (wM cI cZ A0 2 tp fk fp ap sp tk vl ac tr la ma it sr bt nw dr pa im kp tc) := hD.sameA [(A0 0), (A0 1), (A0 2), (A0 3), (A0 4), (A0 5), (A0 6), (A0 7), (A0 8), (A0 9), (A0 10), (A0 11)] rfl rfl
              have E : m_told ss nw la ma it (nI r) (nI rv) i x what = ((-1000010) - 2, 2) := (by first | (simp only [m_told, eq_true c1, eq_true c2, eq_true c3, eq_true c4, eq_false c5, eq_false c6, htr, htw, bI, not_true_eq_false, not_false_eq_true, ite_true, ite_false, if_true, if_false, and_self, and_true, true_and, false_and, and_false, or_true, true_or, or_false, false_or, eq_self]; done) | (simp [m_told, eq_true c1, eq_true c2, eq_true c3, eq_true c4, eq_false c5, eq_false c6, htr, htw, bI]; done))
              rw [E]
              exact b_retM hx hb hr hP hS rfl dX12_told_69 hlocks
          · refine lv_aload_n hx hb dX12_told_47 rfl (lv_at hl 0 rfl) ?_
            refine lv_iconst (v := 1) hx hb dX12_told_48 (by decide) ?_
            refine b_callM [0, 1, 2, 3, 4, 5, 6, 7, 8, 9, 10, 11] (va_runV (As := [.int 1]) (rest := []) ⟨hx, hb, hml, hown, hts⟩ (c_X12_found l D cI cZ cT A0 ss tp fk fp ap sp tk vl ac tr la ma it sr bt nw dr pa im kp tc 1) (cwV 1 hts gX12_told_X12_found rfl rfl rfl (by decide +kernel) ⟨(Nat.le_of_ble_eq_true rfl), (Nat.le_of_ble_eq_true rfl)⟩) (b_pVM hK hP hD [0, 1, 2, 3, 4, 5, 6, 7, 8, 9, 10, 11] (by decide) rfl rfl 0 rfl rfl) rfl rfl hl.1 rfl (lv_room (Nat.le_of_ble_eq_true rfl)) dX12_told_49 ⟨Nat.zero_le _, Nat.zero_le _⟩).run hP hD hS rfl (Nat.le_of_ble_eq_true rfl) (fun H locs hP hS => ?_)
            have hP : va_P D vwCl (wM cI cZ A0 1 tp fk fp ap sp tk vl ac tr la ma it sr bt nw dr pa im kp tc) H := hP
            have hD : va_D A (wM cI cZ A0 1 tp fk fp ap sp tk vl ac tr la ma it sr bt nw dr pa im kp tc) := hD.sameA [(A0 0), (A0 1), (A0 2), (A0 3), (A0 4), (A0 5), (A0 6), (A0 7), (A0 8), (A0 9), (A0 10), (A0 11)] rfl rfl
            have E : m_told ss nw la ma it (nI r) (nI rv) i x what = ((-1000010) - 1, 1) := (by first | (simp only [m_told, eq_true c1, eq_true c2, eq_true c3, eq_true c4, eq_true c5, htr, htw, bI, not_true_eq_false, not_false_eq_true, ite_true, ite_false, if_true, if_false, and_self, and_true, true_and, false_and, and_false, or_true, true_or, or_false, false_or, eq_self]; done) | (simp [m_told, eq_true c1, eq_true c2, eq_true c3, eq_true c4, eq_true c5, htr, htw, bI]; done))
            rw [E]
            exact b_retM hx hb hr hP hS rfl dX12_told_52 hlocks
        · refine lv_ldc (v := (-1000001)) hx hb hown (hts (.constant RX12 58 (-1000001)) (List.mem_of_getElem? (i := 1) rfl)) dX12_told_36 ?_
          have E : m_told ss nw la ma it reader row i x what = ((-1000001), ss) := (by first | (simp only [m_told, eq_true c1, eq_true c2, eq_true c3, eq_false c4, bI, not_true_eq_false, not_false_eq_true, ite_true, ite_false, if_true, if_false, and_self, and_true, true_and, false_and, and_false, or_true, true_or, or_false, false_or, eq_self]; done) | (simp [m_told, eq_true c1, eq_true c2, eq_true c3, eq_false c4, bI]; done))
          rw [E]
          exact b_retM hx hb hr hP hS rfl dX12_told_38 hlocks
theorem u_X12_image_X12 : ∀ w ∈ wsX120, w ∈ wsX12_image := fun _ h => List.mem_cons_of_mem _ (List.mem_append_right _ h)
set_option maxHeartbeats 4000000 in
set_option maxRecDepth 100000 in
theorem c_X12_image (l : Launch) (D : va_G) (cI cZ cT : ClassId) (A0 : Nat → Nat) (ss tp fk fp ap sp tk vl ac tr : Int32) (la ma it sr bt nw dr pa im kp tc : Nat → Int32) (k : Int32)  : Met l yX12_image wsX12_image ({ frames := 1, cells := 0, slots := 0, locals := 24 }) (pM D cI cZ cT [.ref (A0 0), .int k] (wM cI cZ A0 ss tp fk fp ap sp tk vl ac tr la ma it sr bt nw dr pa im kp tc)) (qM D (some (.int ((m_image nw im kp k).1))) (wM cI cZ A0 ss tp fk fp ap sp tk vl ac tr la ma it sr bt nw dr pa ((m_image nw im kp k).2.1) ((m_image nw im kp k).2.2) tc) (adr (wM cI cZ A0 ss tp fk fp ap sp tk vl ac tr la ma it sr bt nw dr pa im kp tc))) 0 0 (adr (wM cI cZ A0 ss tp fk fp ap sp tk vl ac tr la ma it sr bt nw dr pa im kp tc)) := by
  refine Met.ofW (cc := cX12_image) (maxL := 2) (ret := (some .int)) (by decide) rfl ?_
  intro p e s m args below meth c s₁ B hml hv
  obtain ⟨rfl, hP, hD0, hK⟩ := hv
  have hx := B.exec
  have hb := B.bytes
  have hr := B.returns
  have hts := atoms_spec (ws := wsX12_image) B.pre
  have hown : s.vm.findClass RX12 = some m.cls := findClass_of_methodNamed B.named
  have hlocks := B.notSynchronized
  have hD := hD0.toAdr
  have hS : va_S (adr (wM cI cZ A0 ss tp fk fp ap sp tk vl ac tr la ma it sr bt nw dr pa im kp tc)) s.heap s.heap [] := va_S.rf
  generalize adr (wM cI cZ A0 ss tp fk fp ap sp tk vl ac tr la ma it sr bt nw dr pa im kp tc) = A at hD hS ⊢
  have hl := lv_entry ([.ref (A0 0), .int k]) (n := 2) (Nat.le_of_ble_eq_true rfl)
  rw [lg_entry_eq]
  generalize (lg_sl ([.ref (A0 0), .int k]) ++ List.replicate (2 - (lg_sl ([.ref (A0 0), .int k])).length) Slot.unset).toArray = ls at hl ⊢
  have hl : lv_has ls 2 [(0, .ref (A0 0)), (1, .int k)] := hl
  refine lv_iload_n hx hb dX12_image_0 rfl (lv_at hl 1 rfl) ?_
  refine lv_iconst (v := 0) hx hb dX12_image_1 (by decide) ?_
  refine lv_iconst (v := 1) hx hb dX12_image_2 (by decide) ?_
  refine b_call (va_runS (As := [.int k, .int 0, .int 1]) (rest := []) ⟨hx, hb, hml, hown, hts⟩ (c_X12_in l D cI cZ cT k 0 1) (va_cwS 3 hts gX12_image_X12_in rfl rfl rfl (by decide +kernel) ⟨(Nat.le_of_ble_eq_true rfl), (Nat.le_of_ble_eq_true rfl)⟩) (b_pS0 hK) rfl rfl hl.1 rfl (lv_room (Nat.le_of_ble_eq_true rfl)) dX12_image_3 ⟨Nat.zero_le _, Nat.zero_le _⟩).run ?_
  refine b_ifne (tgt := 12) hx hb dX12_image_6 (by decide) (fun c1 => ?_) (fun c1 => ?_)
  · refine lv_aload_n hx hb dX12_image_12 rfl (lv_at hl 0 rfl) ?_
    refine b_call (va_runV (As := []) (rest := []) ⟨hx, hb, hml, hown, hts⟩ (c_X12_isTown l D cI cZ cT A0 ss tp fk fp ap sp tk vl ac tr la ma it sr bt nw dr pa im kp tc) (cwV 0 hts gX12_image_X12_isTown rfl rfl rfl (by decide +kernel) ⟨(Nat.le_of_ble_eq_true rfl), (Nat.le_of_ble_eq_true rfl)⟩) (b_pV hK hP [0, 1, 2, 3, 4, 5, 6, 7, 8, 9, 10, 11] rfl 0 rfl rfl) rfl rfl hl.1 rfl (lv_room (Nat.le_of_ble_eq_true rfl)) dX12_image_13 ⟨Nat.zero_le _, Nat.zero_le _⟩).run ?_
    refine b_ifne (tgt := 22) hx hb dX12_image_16 (by decide) (fun c2 => ?_) (fun c2 => ?_)
    · obtain ⟨kv, hh_kv, rfl⟩ : ∃ r : Nat, r ≤ 1 ∧ k = nI r := i_nat 1 c1.1 c1.2 rfl (by decide)
      have hl : lv_has ls 2 [(0, .ref (A0 0)), (1, .int (nI (kv)))] := hl
      have htk : tn (nI kv) = kv := tn_nI hh_kv
      refine lv_aload_n hx hb dX12_image_22 rfl (lv_at hl 0 rfl) ?_
      refine va_get (D := D) (ci := 11) (v := .ref (A0 6)) (C := RX12) (T := TX12) (N := 21) hx hb hts u_X12_image_X12 hown hK.1 hP 0 rfl rfl 13 (by decide) (hts (.fieldLink RX12 25 "NoticeWeekModel" "now" "[I") (List.mem_of_getElem? (i := 3) rfl)) (fun _ h9 => h9) rfl dX12_image_23 ?_
      refine lv_iconst (v := (nI 0)) hx hb dX12_image_26 (by decide) ?_
      refine lv_aload_n hx hb dX12_image_27 rfl (lv_at hl 0 rfl) ?_
      refine va_get (D := D) (ci := 11) (v := .ref (A0 9)) (C := RX12) (T := TX12) (N := 21) hx hb hts u_X12_image_X12 hown hK.1 hP 0 rfl rfl 17 (by decide) (hts (.fieldLink RX12 34 "NoticeWeekModel" "images" "[I") (List.mem_of_getElem? (i := 4) rfl)) (fun _ h9 => h9) rfl dX12_image_28 ?_
      refine lv_bipush (v := (nI 28)) hx hb dX12_image_31 (by decide) ?_
      refine lv_iload_n hx hb dX12_image_33 rfl (lv_at hl 1 rfl) ?_
      refine b_mul hx hb dX12_image_34 ?_
      refine b_callM [0, 1, 2, 3, 4, 5, 6, 7, 8, 9, 10, 11] (va_runS (As := [.ref (A0 6), .int (nI 0), .ref (A0 9), .int (nI (28 * kv))]) (rest := []) ⟨hx, hb, hml, hown, hts⟩ (c_X12_copies_ni l D cI cZ cT A0 ss tp fk fp ap sp tk vl ac tr la ma it sr bt nw dr pa im kp tc 0 (28 * kv) (by omega) (by omega)) (va_cwS 4 hts gX12_image_X12_copies rfl rfl rfl (by decide +kernel) ⟨(Nat.le_of_ble_eq_true rfl), (Nat.le_of_ble_eq_true rfl)⟩) (b_pSM hK hP hD [0, 1, 2, 3, 4, 5, 6, 7, 8, 9, 10, 11] (by decide) rfl rfl) rfl rfl hl.1 rfl (lv_room (Nat.le_of_ble_eq_true rfl)) dX12_image_35 ⟨Nat.zero_le _, Nat.zero_le _⟩).run hP hD hS rfl (Nat.le_of_ble_eq_true rfl) (fun H locs hP hS => ?_)
      have hP : va_P D vwCl (wM cI cZ A0 ss tp fk fp ap sp tk vl ac tr la ma it sr bt nw dr pa (cpy nw 0 im (28 * kv) 28) kp tc) H := hP
      have hD : va_D A (wM cI cZ A0 ss tp fk fp ap sp tk vl ac tr la ma it sr bt nw dr pa (cpy nw 0 im (28 * kv) 28) kp tc) := hD.sameA [(A0 0), (A0 1), (A0 2), (A0 3), (A0 4), (A0 5), (A0 6), (A0 7), (A0 8), (A0 9), (A0 10), (A0 11)] rfl rfl
      refine lv_aload_n hx hb dX12_image_38 rfl (lv_at hl 0 rfl) ?_
      refine va_get (D := D) (ci := 11) (v := .ref (A0 10)) (C := RX12) (T := TX12) (N := 21) hx hb hts u_X12_image_X12 hown hK.1 hP 0 rfl rfl 18 (by decide) (hts (.fieldLink RX12 37 "NoticeWeekModel" "kept" "[Z") (List.mem_of_getElem? (i := 5) rfl)) (fun _ h9 => h9) rfl dX12_image_39 ?_
      refine lv_iload_n hx hb dX12_image_42 rfl (lv_at hl 1 rfl) ?_
      refine lv_iconst (v := 1) hx hb dX12_image_43 (by decide) ?_
      refine b_zst hx hb hK hP hD hS 10 rfl (by omega) (by decide) rfl dX12_image_44 (fun H locs hP hS => ?_)
      have hP : va_P D vwCl (wM cI cZ A0 ss tp fk fp ap sp tk vl ac tr la ma it sr bt nw dr pa (cpy nw 0 im (28 * kv) 28) (upd kp kv 1) tc) H := hP
      have hD : va_D A (wM cI cZ A0 ss tp fk fp ap sp tk vl ac tr la ma it sr bt nw dr pa (cpy nw 0 im (28 * kv) 28) (upd kp kv 1) tc) := hD.sameA [(A0 0), (A0 1), (A0 2), (A0 3), (A0 4), (A0 5), (A0 6), (A0 7), (A0 8), (A0 9), (A0 10), (A0 11)] rfl rfl
      refine lv_iconst (v := 1) hx hb dX12_image_45 (by decide) ?_
      have E : m_image nw im kp (nI kv) = (1, (cpy nw 0 im (28 * kv) 28), (upd kp kv 1)) := (by first | (simp only [m_image, eq_true c1, eq_true c2, htk, bI, not_true_eq_false, not_false_eq_true, ite_true, ite_false, if_true, if_false, and_self, and_true, true_and, false_and, and_false, or_true, true_or, or_false, false_or, eq_self]; done) | (simp [m_image, eq_true c1, eq_true c2, htk, bI]; done))
      rw [E]
      exact b_retM hx hb hr hP hS rfl dX12_image_46 hlocks
    · refine lv_ldc (v := (-1000002)) hx hb hown (hts (.constant RX12 159 (-1000002)) (List.mem_of_getElem? (i := 2) rfl)) dX12_image_19 ?_
      have E : m_image nw im kp k = ((-1000002), im, kp) := (by first | (simp only [m_image, eq_true c1, eq_false c2, bI, not_true_eq_false, not_false_eq_true, ite_true, ite_false, if_true, if_false, and_self, and_true, true_and, false_and, and_false, or_true, true_or, or_false, false_or, eq_self]; done) | (simp [m_image, eq_true c1, eq_false c2, bI]; done))
      rw [E]
      exact b_retM hx hb hr hP hS rfl dX12_image_21 hlocks
  · refine lv_ldc (v := (-1000001)) hx hb hown (hts (.constant RX12 58 (-1000001)) (List.mem_of_getElem? (i := 1) rfl)) dX12_image_9 ?_
    have E : m_image nw im kp k = ((-1000001), im, kp) := (by first | (simp only [m_image, eq_false c1, bI, not_true_eq_false, not_false_eq_true, ite_true, ite_false, if_true, if_false, and_self, and_true, true_and, false_and, and_false, or_true, true_or, or_false, false_or, eq_self]; done) | (simp [m_image, eq_false c1, bI]; done))
    rw [E]
    exact b_retM hx hb hr hP hS rfl dX12_image_11 hlocks
theorem u_X12_restore_X12 : ∀ w ∈ wsX120, w ∈ wsX12_restore := fun _ h => List.mem_cons_of_mem _ (List.mem_append_right _ h)
set_option maxHeartbeats 4000000 in
set_option maxRecDepth 100000 in
theorem c_X12_restore (l : Launch) (D : va_G) (cI cZ cT : ClassId) (A0 : Nat → Nat) (ss tp fk fp ap sp tk vl : Int32) (nc : Nat) (tr : Int32) (la ma it sr bt nw dr pa im kp tc : Nat → Int32) (k : Int32)  : Met l yX12_restore wsX12_restore ({ frames := 1, cells := 0, slots := 0, locals := 24 }) (pM D cI cZ cT [.ref (A0 0), .int k] (wM cI cZ A0 ss tp fk fp ap sp tk vl (nI nc) tr la ma it sr bt nw dr pa im kp tc)) (qM D (some (.int ((m_restore nw im kp nc k).1))) (wM cI cZ A0 ss tp fk fp ap sp tk vl (nI (m_restore nw im kp nc k).2.2) tr la ma it sr bt ((m_restore nw im kp nc k).2.1) dr pa im kp tc) (adr (wM cI cZ A0 ss tp fk fp ap sp tk vl (nI nc) tr la ma it sr bt nw dr pa im kp tc))) 0 0 (adr (wM cI cZ A0 ss tp fk fp ap sp tk vl (nI nc) tr la ma it sr bt nw dr pa im kp tc)) := by
  refine Met.ofW (cc := cX12_restore) (maxL := 2) (ret := (some .int)) (by decide) rfl ?_
  intro p e s m args below meth c s₁ B hml hv
  obtain ⟨rfl, hP, hD0, hK⟩ := hv
  have hx := B.exec
  have hb := B.bytes
  have hr := B.returns
  have hts := atoms_spec (ws := wsX12_restore) B.pre
  have hown : s.vm.findClass RX12 = some m.cls := findClass_of_methodNamed B.named
  have hlocks := B.notSynchronized
  have hD := hD0.toAdr
  have hS : va_S (adr (wM cI cZ A0 ss tp fk fp ap sp tk vl (nI nc) tr la ma it sr bt nw dr pa im kp tc)) s.heap s.heap [] := va_S.rf
  generalize adr (wM cI cZ A0 ss tp fk fp ap sp tk vl (nI nc) tr la ma it sr bt nw dr pa im kp tc) = A at hD hS ⊢
  have hl := lv_entry ([.ref (A0 0), .int k]) (n := 2) (Nat.le_of_ble_eq_true rfl)
  rw [lg_entry_eq]
  generalize (lg_sl ([.ref (A0 0), .int k]) ++ List.replicate (2 - (lg_sl ([.ref (A0 0), .int k])).length) Slot.unset).toArray = ls at hl ⊢
  have hl : lv_has ls 2 [(0, .ref (A0 0)), (1, .int k)] := hl
  refine lv_iload_n hx hb dX12_restore_0 rfl (lv_at hl 1 rfl) ?_
  refine lv_iconst (v := 0) hx hb dX12_restore_1 (by decide) ?_
  refine lv_iconst (v := 1) hx hb dX12_restore_2 (by decide) ?_
  refine b_call (va_runS (As := [.int k, .int 0, .int 1]) (rest := []) ⟨hx, hb, hml, hown, hts⟩ (c_X12_in l D cI cZ cT k 0 1) (va_cwS 3 hts gX12_restore_X12_in rfl rfl rfl (by decide +kernel) ⟨(Nat.le_of_ble_eq_true rfl), (Nat.le_of_ble_eq_true rfl)⟩) (b_pS0 hK) rfl rfl hl.1 rfl (lv_room (Nat.le_of_ble_eq_true rfl)) dX12_restore_3 ⟨Nat.zero_le _, Nat.zero_le _⟩).run ?_
  refine b_ifne (tgt := 12) hx hb dX12_restore_6 (by decide) (fun c1 => ?_) (fun c1 => ?_)
  · obtain ⟨kv, hh_kv, rfl⟩ : ∃ r : Nat, r ≤ 1 ∧ k = nI r := i_nat 1 c1.1 c1.2 rfl (by decide)
    have hl : lv_has ls 2 [(0, .ref (A0 0)), (1, .int (nI (kv)))] := hl
    have htk : tn (nI kv) = kv := tn_nI hh_kv
    refine lv_aload_n hx hb dX12_restore_12 rfl (lv_at hl 0 rfl) ?_
    refine va_get (D := D) (ci := 11) (v := .ref (A0 10)) (C := RX12) (T := TX12) (N := 21) hx hb hts u_X12_restore_X12 hown hK.1 hP 0 rfl rfl 18 (by decide) (hts (.fieldLink RX12 37 "NoticeWeekModel" "kept" "[Z") (List.mem_of_getElem? (i := 2) rfl)) (fun _ h9 => h9) rfl dX12_restore_13 ?_
    refine lv_iload_n hx hb dX12_restore_16 rfl (lv_at hl 1 rfl) ?_
    refine b_zld hx hb hK hP 10 rfl (by omega) (by decide) dX12_restore_17 ?_
    refine lv_if_ne (tgt := 24) hx hb dX12_restore_18 (by decide) (fun c2 => ?_) (fun c2 => ?_)
    · refine lv_aload_n hx hb dX12_restore_24 rfl (lv_at hl 0 rfl) ?_
      refine va_get (D := D) (ci := 11) (v := .ref (A0 9)) (C := RX12) (T := TX12) (N := 21) hx hb hts u_X12_restore_X12 hown hK.1 hP 0 rfl rfl 17 (by decide) (hts (.fieldLink RX12 34 "NoticeWeekModel" "images" "[I") (List.mem_of_getElem? (i := 4) rfl)) (fun _ h9 => h9) rfl dX12_restore_25 ?_
      refine lv_bipush (v := (nI 28)) hx hb dX12_restore_28 (by decide) ?_
      refine lv_iload_n hx hb dX12_restore_30 rfl (lv_at hl 1 rfl) ?_
      refine b_mul hx hb dX12_restore_31 ?_
      refine lv_aload_n hx hb dX12_restore_32 rfl (lv_at hl 0 rfl) ?_
      refine va_get (D := D) (ci := 11) (v := .ref (A0 6)) (C := RX12) (T := TX12) (N := 21) hx hb hts u_X12_restore_X12 hown hK.1 hP 0 rfl rfl 13 (by decide) (hts (.fieldLink RX12 25 "NoticeWeekModel" "now" "[I") (List.mem_of_getElem? (i := 5) rfl)) (fun _ h9 => h9) rfl dX12_restore_33 ?_
      refine lv_iconst (v := (nI 0)) hx hb dX12_restore_36 (by decide) ?_
      refine b_callM [0, 1, 2, 3, 4, 5, 6, 7, 8, 9, 10, 11] (va_runS (As := [.ref (A0 9), .int (nI (28 * kv)), .ref (A0 6), .int (nI 0)]) (rest := []) ⟨hx, hb, hml, hown, hts⟩ (c_X12_copies_in l D cI cZ cT A0 ss tp fk fp ap sp tk vl (nI nc) tr la ma it sr bt nw dr pa im kp tc (28 * kv) 0 (by omega) (by omega)) (va_cwS 4 hts gX12_restore_X12_copies rfl rfl rfl (by decide +kernel) ⟨(Nat.le_of_ble_eq_true rfl), (Nat.le_of_ble_eq_true rfl)⟩) (b_pSM hK hP hD [0, 1, 2, 3, 4, 5, 6, 7, 8, 9, 10, 11] (by decide) rfl rfl) rfl rfl hl.1 rfl (lv_room (Nat.le_of_ble_eq_true rfl)) dX12_restore_37 ⟨Nat.zero_le _, Nat.zero_le _⟩).run hP hD hS rfl (Nat.le_of_ble_eq_true rfl) (fun H locs hP hS => ?_)
      have hP : va_P D vwCl (wM cI cZ A0 ss tp fk fp ap sp tk vl (nI nc) tr la ma it sr bt (cpy im (28 * kv) nw 0 28) dr pa im kp tc) H := hP
      have hD : va_D A (wM cI cZ A0 ss tp fk fp ap sp tk vl (nI nc) tr la ma it sr bt (cpy im (28 * kv) nw 0 28) dr pa im kp tc) := hD.sameA [(A0 0), (A0 1), (A0 2), (A0 3), (A0 4), (A0 5), (A0 6), (A0 7), (A0 8), (A0 9), (A0 10), (A0 11)] rfl rfl
      refine lv_aload_n hx hb dX12_restore_40 rfl (lv_at hl 0 rfl) ?_
      refine lv_iconst (v := (nI 0)) hx hb dX12_restore_41 (by decide) ?_
      refine b_put (C := RX12) (T := TX12) (N := 21) hx hb hts u_X12_restore_X12 tyX12 tyX12_ok nmX12 hown hK hP hD hS 0 rfl rfl 16 (by decide) (hts (.fieldLink RX12 129 "NoticeWeekModel" "acts" "I") (List.mem_of_getElem? (i := 6) rfl)) rfl (by decide +kernel) (Nat.le_of_ble_eq_true rfl) dX12_restore_42 (fun H locs hP hS => ?_)
      have hP : va_P D vwCl (wM cI cZ A0 ss tp fk fp ap sp tk vl (nI 0) tr la ma it sr bt (cpy im (28 * kv) nw 0 28) dr pa im kp tc) H := hP
      have hD : va_D A (wM cI cZ A0 ss tp fk fp ap sp tk vl (nI 0) tr la ma it sr bt (cpy im (28 * kv) nw 0 28) dr pa im kp tc) := hD.sameA [(A0 0), (A0 1), (A0 2), (A0 3), (A0 4), (A0 5), (A0 6), (A0 7), (A0 8), (A0 9), (A0 10), (A0 11)] rfl rfl
      refine lv_iconst (v := 1) hx hb dX12_restore_45 (by decide) ?_
      have E : m_restore nw im kp nc (nI kv) = (1, (cpy im (28 * kv) nw 0 28), 0) := (by first | (simp only [m_restore, eq_true c1, eq_false c2, htk, bI, not_true_eq_false, not_false_eq_true, ite_true, ite_false, if_true, if_false, and_self, and_true, true_and, false_and, and_false, or_true, true_or, or_false, false_or, eq_self]; done) | (simp [m_restore, eq_true c1, eq_false c2, htk, bI]; done))
      rw [E]
      exact b_retM hx hb hr hP hS rfl dX12_restore_46 hlocks
    · refine lv_ldc (v := (-1000002)) hx hb hown (hts (.constant RX12 159 (-1000002)) (List.mem_of_getElem? (i := 3) rfl)) dX12_restore_21 ?_
      have E : m_restore nw im kp nc (nI kv) = ((-1000002), nw, nc) := (by first | (simp only [m_restore, eq_true c1, eq_true c2, htk, bI, not_true_eq_false, not_false_eq_true, ite_true, ite_false, if_true, if_false, and_self, and_true, true_and, false_and, and_false, or_true, true_or, or_false, false_or, eq_self]; done) | (simp [m_restore, eq_true c1, eq_true c2, htk, bI]; done))
      rw [E]
      exact b_retM hx hb hr hP hS rfl dX12_restore_23 hlocks
  · refine lv_ldc (v := (-1000001)) hx hb hown (hts (.constant RX12 58 (-1000001)) (List.mem_of_getElem? (i := 1) rfl)) dX12_restore_9 ?_
    have E : m_restore nw im kp nc k = ((-1000001), nw, nc) := (by first | (simp only [m_restore, eq_false c1, bI, not_true_eq_false, not_false_eq_true, ite_true, ite_false, if_true, if_false, and_self, and_true, true_and, false_and, and_false, or_true, true_or, or_false, false_or, eq_self]; done) | (simp [m_restore, eq_false c1, bI]; done))
    rw [E]
    exact b_retM hx hb hr hP hS rfl dX12_restore_11 hlocks
theorem u_X12_kindIn_X12 : ∀ w ∈ wsX120, w ∈ wsX12_kindIn := fun _ h => List.mem_cons_of_mem _ (List.mem_append_right _ h)
set_option maxHeartbeats 4000000 in
set_option maxRecDepth 100000 in
theorem c_X12_kindIn (l : Launch) (D : va_G) (cI cZ cT : ClassId) (A0 : Nat → Nat) (ss tp fk fp ap sp tk vl ac tr : Int32) (la ma it sr bt nw dr pa im kp tc : Nat → Int32) (r : Nat) (hr_ : r ≤ 5) : Met l yX12_kindIn wsX12_kindIn ({ frames := 0, cells := 0, slots := 0, locals := 0 }) (pR D cI cZ cT [.ref (A0 0), .int (nI (r))] (wM cI cZ A0 ss tp fk fp ap sp tk vl ac tr la ma it sr bt nw dr pa im kp tc)) (QcRead (nw (4 + 4 * r))) 0 0 (fun _ => False) := by
  refine Met.ofW (cc := cX12_kindIn) (maxL := 2) (ret := (some .int)) (by decide) rfl ?_
  intro p e s m args below meth c s₁ B hml hv
  obtain ⟨rfl, hP, hK⟩ := hv
  have hx := B.exec
  have hb := B.bytes
  have hr := B.returns
  have hts := atoms_spec (ws := wsX12_kindIn) B.pre
  have hown : s.vm.findClass RX12 = some m.cls := findClass_of_methodNamed B.named
  have hlocks := B.notSynchronized
  have hl := lv_entry ([.ref (A0 0), .int (nI (r))]) (n := 2) (Nat.le_of_ble_eq_true rfl)
  rw [lg_entry_eq]
  generalize (lg_sl ([.ref (A0 0), .int (nI (r))]) ++ List.replicate (2 - (lg_sl ([.ref (A0 0), .int (nI (r))])).length) Slot.unset).toArray = ls at hl ⊢
  have hl : lv_has ls 2 [(0, .ref (A0 0)), (1, .int (nI (r)))] := hl
  refine lv_aload_n hx hb dX12_kindIn_0 rfl (lv_at hl 0 rfl) ?_
  refine va_get (D := D) (ci := 11) (v := .ref (A0 6)) (C := RX12) (T := TX12) (N := 21) hx hb hts u_X12_kindIn_X12 hown hK.1 hP 0 rfl rfl 13 (by decide) (hts (.fieldLink RX12 25 "NoticeWeekModel" "now" "[I") (List.mem_of_getElem? (i := 1) rfl)) (fun _ h9 => h9) rfl dX12_kindIn_1 ?_
  refine lv_iconst (v := (nI 4)) hx hb dX12_kindIn_4 (by decide) ?_
  refine lv_iconst (v := (nI 4)) hx hb dX12_kindIn_5 (by decide) ?_
  refine lv_iload_n hx hb dX12_kindIn_6 rfl (lv_at hl 1 rfl) ?_
  refine b_mul hx hb dX12_kindIn_7 ?_
  refine b_add hx hb dX12_kindIn_8 ?_
  refine b_ald hx hb hK hP 6 rfl (by omega) (by decide) dX12_kindIn_9 ?_
  exact b_ret hx hb hr (by first | with_reducible rfl | (simp only [bI, not_true_eq_false, not_false_eq_true, ite_true, ite_false, if_true, if_false, and_self, and_true, true_and, false_and, and_false, or_true, true_or, or_false, false_or]; done) | (simp [bI]; done) | omega) dX12_kindIn_10 hlocks
set_option maxHeartbeats 4000000 in
set_option maxRecDepth 100000 in
theorem c_X12_kind (l : Launch) (D : va_G) (cI cZ cT : ClassId) (A0 : Nat → Nat) (ss tp fk fp ap sp tk vl ac tr : Int32) (la ma it sr bt nw dr pa im kp tc : Nat → Int32) (reader : Int32) (n : Nat) (hW : TK nw n) : Met l yX12_kind wsX12_kind ({ frames := 2, cells := 0, slots := 0, locals := 43 }) (pR D cI cZ cT [.ref (A0 0), .int reader] (wM cI cZ A0 ss tp fk fp ap sp tk vl ac tr la ma it sr bt nw dr pa im kp tc)) (QcRead (m_kind nw reader)) 0 0 (fun _ => False) := by
  refine Met.ofW (cc := cX12_kind) (maxL := 2) (ret := (some .int)) (by decide) rfl ?_
  intro p e s m args below meth c s₁ B hml hv
  obtain ⟨rfl, hP, hK⟩ := hv
  have hx := B.exec
  have hb := B.bytes
  have hr := B.returns
  have hts := atoms_spec (ws := wsX12_kind) B.pre
  have hown : s.vm.findClass RX12 = some m.cls := findClass_of_methodNamed B.named
  have hlocks := B.notSynchronized
  have hl := lv_entry ([.ref (A0 0), .int reader]) (n := 2) (Nat.le_of_ble_eq_true rfl)
  rw [lg_entry_eq]
  generalize (lg_sl ([.ref (A0 0), .int reader]) ++ List.replicate (2 - (lg_sl ([.ref (A0 0), .int reader])).length) Slot.unset).toArray = ls at hl ⊢
  have hl : lv_has ls 2 [(0, .ref (A0 0)), (1, .int reader)] := hl
  refine lv_aload_n hx hb dX12_kind_0 rfl (lv_at hl 0 rfl) ?_
  refine lv_iload_n hx hb dX12_kind_1 rfl (lv_at hl 1 rfl) ?_
  refine b_call (va_runV (As := [.int reader]) (rest := []) ⟨hx, hb, hml, hown, hts⟩ (c_X12_isReader l D cI cZ cT A0 ss tp fk fp ap sp tk vl ac tr la ma it sr bt nw dr pa im kp tc reader) (cwV 1 hts gX12_kind_X12_isReader rfl rfl rfl (by decide +kernel) ⟨(Nat.le_of_ble_eq_true rfl), (Nat.le_of_ble_eq_true rfl)⟩) (b_pV hK hP [0, 1, 2, 3, 4, 5, 6, 7, 8, 9, 10, 11] rfl 0 rfl rfl) rfl rfl hl.1 rfl (lv_room (Nat.le_of_ble_eq_true rfl)) dX12_kind_2 ⟨Nat.zero_le _, Nat.zero_le _⟩).run ?_
  refine b_ifeq (tgt := 16) hx hb dX12_kind_5 (by decide) (fun c1 => ?_) (fun c1 => ?_)
  · refine lv_ldc (v := (-1000001)) hx hb hown (hts (.constant RX12 58 (-1000001)) (List.mem_of_getElem? (i := 1) rfl)) dX12_kind_16 ?_
    exact b_ret hx hb hr (by first | (simp only [m_kind, eq_false c1, bI, not_true_eq_false, not_false_eq_true, ite_true, ite_false, if_true, if_false, and_self, and_true, true_and, false_and, and_false, or_true, true_or, or_false, false_or, eq_self]; done) | (simp [m_kind, eq_false c1, bI]; done)) dX12_kind_18 hlocks
  · obtain ⟨r, hh_r, rfl⟩ : ∃ r : Nat, r ≤ 5 ∧ reader = nI r := i_rd hW c1
    have hl : lv_has ls 2 [(0, .ref (A0 0)), (1, .int (nI (r)))] := hl
    have htr : tn (nI r) = r := tn_nI hh_r
    refine lv_aload_n hx hb dX12_kind_8 rfl (lv_at hl 0 rfl) ?_
    refine lv_iload_n hx hb dX12_kind_9 rfl (lv_at hl 1 rfl) ?_
    refine b_call (va_runV (As := [.int (nI (r))]) (rest := []) ⟨hx, hb, hml, hown, hts⟩ (c_X12_kindIn l D cI cZ cT A0 ss tp fk fp ap sp tk vl ac tr la ma it sr bt nw dr pa im kp tc r (by omega)) (cwV 1 hts gX12_kind_X12_kindIn rfl rfl rfl (by decide +kernel) ⟨(Nat.le_of_ble_eq_true rfl), (Nat.le_of_ble_eq_true rfl)⟩) (b_pV hK hP [0, 1, 2, 3, 4, 5, 6, 7, 8, 9, 10, 11] rfl 0 rfl rfl) rfl rfl hl.1 rfl (lv_room (Nat.le_of_ble_eq_true rfl)) dX12_kind_10 ⟨Nat.zero_le _, Nat.zero_le _⟩).run ?_
    refine lv_goto (tgt := 18) hx hb dX12_kind_13 (by decide) ?_
    exact b_ret hx hb hr (by first | (simp only [m_kind, eq_true c1, htr, bI, not_true_eq_false, not_false_eq_true, ite_true, ite_false, if_true, if_false, and_self, and_true, true_and, false_and, and_false, or_true, true_or, or_false, false_or, eq_self]; done) | (simp [m_kind, eq_true c1, htr, bI]; done)) dX12_kind_18 hlocks
set_option maxHeartbeats 4000000 in
set_option maxRecDepth 100000 in
theorem c_X12_as (l : Launch) (D : va_G) (cI cZ cT : ClassId) (A0 : Nat → Nat) (ss tp fk fp ap sp tk vl ac tr : Int32) (la ma it sr bt nw dr pa im kp tc : Nat → Int32) (reader kd : Int32) (n : Nat) (hW : TK nw n) : Met l yX12_as wsX12_as ({ frames := 2, cells := 0, slots := 0, locals := 43 }) (pM D cI cZ cT [.ref (A0 0), .int reader, .int kd] (wM cI cZ A0 ss tp fk fp ap sp tk vl ac tr la ma it sr bt nw dr pa im kp tc)) (qM D (some (.int ((m_as ss nw reader kd).1))) (wM cI cZ A0 ((m_as ss nw reader kd).2) tp fk fp ap sp tk vl ac tr la ma it sr bt nw dr pa im kp tc) (adr (wM cI cZ A0 ss tp fk fp ap sp tk vl ac tr la ma it sr bt nw dr pa im kp tc))) 0 0 (adr (wM cI cZ A0 ss tp fk fp ap sp tk vl ac tr la ma it sr bt nw dr pa im kp tc)) := by
  refine Met.ofW (cc := cX12_as) (maxL := 5) (ret := (some .int)) (by decide) rfl ?_
  intro p e s m args below meth c s₁ B hml hv
  obtain ⟨rfl, hP, hD0, hK⟩ := hv
  have hx := B.exec
  have hb := B.bytes
  have hr := B.returns
  have hts := atoms_spec (ws := wsX12_as) B.pre
  have hown : s.vm.findClass RX12 = some m.cls := findClass_of_methodNamed B.named
  have hlocks := B.notSynchronized
  have hD := hD0.toAdr
  have hS : va_S (adr (wM cI cZ A0 ss tp fk fp ap sp tk vl ac tr la ma it sr bt nw dr pa im kp tc)) s.heap s.heap [] := va_S.rf
  generalize adr (wM cI cZ A0 ss tp fk fp ap sp tk vl ac tr la ma it sr bt nw dr pa im kp tc) = A at hD hS ⊢
  have hl := lv_entry ([.ref (A0 0), .int reader, .int kd]) (n := 5) (Nat.le_of_ble_eq_true rfl)
  rw [lg_entry_eq]
  generalize (lg_sl ([.ref (A0 0), .int reader, .int kd]) ++ List.replicate (5 - (lg_sl ([.ref (A0 0), .int reader, .int kd])).length) Slot.unset).toArray = ls at hl ⊢
  have hl : lv_has ls 5 [(0, .ref (A0 0)), (1, .int reader), (2, .int kd)] := hl
  refine lv_aload_n hx hb dX12_as_0 rfl (lv_at hl 0 rfl) ?_
  refine lv_iload_n hx hb dX12_as_1 rfl (lv_at hl 1 rfl) ?_
  refine b_call (va_runV (As := [.int reader]) (rest := []) ⟨hx, hb, hml, hown, hts⟩ (c_X12_isReader l D cI cZ cT A0 ss tp fk fp ap sp tk vl ac tr la ma it sr bt nw dr pa im kp tc reader) (cwV 1 hts gX12_as_X12_isReader rfl rfl rfl (by decide +kernel) ⟨(Nat.le_of_ble_eq_true rfl), (Nat.le_of_ble_eq_true rfl)⟩) (b_pV hK hP [0, 1, 2, 3, 4, 5, 6, 7, 8, 9, 10, 11] rfl 0 rfl rfl) rfl rfl hl.1 rfl (lv_room (Nat.le_of_ble_eq_true rfl)) dX12_as_2 ⟨Nat.zero_le _, Nat.zero_le _⟩).run ?_
  refine b_ifeq (tgt := 17) hx hb dX12_as_5 (by decide) (fun c1 => ?_) (fun c1 => ?_)
  · refine lv_ldc (v := (-1000001)) hx hb hown (hts (.constant RX12 58 (-1000001)) (List.mem_of_getElem? (i := 1) rfl)) dX12_as_17 ?_
    have E : m_as ss nw reader kd = ((-1000001), ss) := (by first | (simp only [m_as, eq_false c1, bI, not_true_eq_false, not_false_eq_true, ite_true, ite_false, if_true, if_false, and_self, and_true, true_and, false_and, and_false, or_true, true_or, or_false, false_or, eq_self]; done) | (simp [m_as, eq_false c1, bI]; done))
    rw [E]
    exact b_retM hx hb hr hP hS rfl dX12_as_19 hlocks
  · refine lv_iload_n hx hb dX12_as_8 rfl (lv_at hl 2 rfl) ?_
    refine lv_iconst (v := 0) hx hb dX12_as_9 (by decide) ?_
    refine lv_iconst (v := 5) hx hb dX12_as_10 (by decide) ?_
    refine b_call (va_runS (As := [.int kd, .int 0, .int 5]) (rest := []) ⟨hx, hb, hml, hown, hts⟩ (c_X12_in l D cI cZ cT kd 0 5) (va_cwS 3 hts gX12_as_X12_in rfl rfl rfl (by decide +kernel) ⟨(Nat.le_of_ble_eq_true rfl), (Nat.le_of_ble_eq_true rfl)⟩) (b_pS0 hK) rfl rfl hl.1 rfl (lv_room (Nat.le_of_ble_eq_true rfl)) dX12_as_11 ⟨Nat.zero_le _, Nat.zero_le _⟩).run ?_
    refine b_ifne (tgt := 20) hx hb dX12_as_14 (by decide) (fun c2 => ?_) (fun c2 => ?_)
    · obtain ⟨r, hh_r, rfl⟩ : ∃ r : Nat, r ≤ 5 ∧ reader = nI r := i_rd hW c1
      have hl : lv_has ls 5 [(0, .ref (A0 0)), (1, .int (nI (r))), (2, .int kd)] := hl
      have htr : tn (nI r) = r := tn_nI hh_r
      refine lv_aload_n hx hb dX12_as_20 rfl (lv_at hl 0 rfl) ?_
      refine lv_iload_n hx hb dX12_as_21 rfl (lv_at hl 1 rfl) ?_
      refine b_call (va_runV (As := [.int (nI (r))]) (rest := []) ⟨hx, hb, hml, hown, hts⟩ (c_X12_kindIn l D cI cZ cT A0 ss tp fk fp ap sp tk vl ac tr la ma it sr bt nw dr pa im kp tc r (by omega)) (cwV 1 hts gX12_as_X12_kindIn rfl rfl rfl (by decide +kernel) ⟨(Nat.le_of_ble_eq_true rfl), (Nat.le_of_ble_eq_true rfl)⟩) (b_pV hK hP [0, 1, 2, 3, 4, 5, 6, 7, 8, 9, 10, 11] rfl 0 rfl rfl) rfl rfl hl.1 rfl (lv_room (Nat.le_of_ble_eq_true rfl)) dX12_as_22 ⟨Nat.zero_le _, Nat.zero_le _⟩).run ?_
      refine lv_topi (fun x3 ex3 => ?_)
      refine lv_istore_n (lv' := [(3, .int x3), (0, .ref (A0 0)), (1, .int (nI (r))), (2, .int kd)]) hx hb dX12_as_25 rfl hl (by decide) rfl (fun ls hl => ?_)
      subst ex3
      refine b_join (jpc := 60) (rest' := []) (P := fun v : Int32 => v = ((bI (asP kd (nw (4 + 4 * r)))) : Int32)) (fun v4 ev4 => ?_) (fun K5 => ?_)
      · subst ev4
        refine lv_istore (lv' := [(4, .int (bI (asP kd (nw (4 + 4 * r))))), (3, .int (nw (4 + 4 * r))), (0, .ref (A0 0)), (1, .int (nI (r))), (2, .int kd)]) hx hb dX12_as_60 hl (by decide) rfl (fun ls hl => ?_)
        refine lv_iload hx hb dX12_as_62 (lv_at hl 0 rfl) ?_
        refine b_ifeq (tgt := 75) hx hb dX12_as_64 (by decide) (fun c6 => ?_) (fun c6 => ?_)
        · refine lv_aload_n hx hb dX12_as_75 rfl (lv_at hl 2 rfl) ?_
          refine lv_iconst (v := 3) hx hb dX12_as_76 (by decide) ?_
          refine b_callM [0, 1, 2, 3, 4, 5, 6, 7, 8, 9, 10, 11] (va_runV (As := [.int 3]) (rest := []) ⟨hx, hb, hml, hown, hts⟩ (c_X12_found l D cI cZ cT A0 ss tp fk fp ap sp tk vl ac tr la ma it sr bt nw dr pa im kp tc 3) (cwV 1 hts gX12_as_X12_found rfl rfl rfl (by decide +kernel) ⟨(Nat.le_of_ble_eq_true rfl), (Nat.le_of_ble_eq_true rfl)⟩) (b_pVM hK hP hD [0, 1, 2, 3, 4, 5, 6, 7, 8, 9, 10, 11] (by decide) rfl rfl 0 rfl rfl) rfl rfl hl.1 rfl (lv_room (Nat.le_of_ble_eq_true rfl)) dX12_as_77 ⟨Nat.zero_le _, Nat.zero_le _⟩).run hP hD hS rfl (Nat.le_of_ble_eq_true rfl) (fun H locs hP hS => ?_)
          have hP : va_P D vwCl (wM cI cZ A0 3 tp fk fp ap sp tk vl ac tr la ma it sr bt nw dr pa im kp tc) H := hP
          have hD : va_D A (wM cI cZ A0 3 tp fk fp ap sp tk vl ac tr la ma it sr bt nw dr pa im kp tc) := hD.sameA [(A0 0), (A0 1), (A0 2), (A0 3), (A0 4), (A0 5), (A0 6), (A0 7), (A0 8), (A0 9), (A0 10), (A0 11)] rfl rfl
          have E : m_as ss nw (nI r) kd = ((-1000010) - 3, 3) := (by first | (simp only [m_as, eq_true c1, eq_true c2, eq_false c6, htr, bI, not_true_eq_false, not_false_eq_true, ite_true, ite_false, if_true, if_false, and_self, and_true, true_and, false_and, and_false, or_true, true_or, or_false, false_or, eq_self]; done) | (simp [m_as, eq_true c1, eq_true c2, eq_false c6, htr, bI]; done))
          rw [E]
          exact b_retM hx hb hr hP hS rfl dX12_as_80 hlocks
        · refine lv_aload_n hx hb dX12_as_67 rfl (lv_at hl 2 rfl) ?_
          refine lv_iload_n hx hb dX12_as_68 rfl (lv_at hl 3 rfl) ?_
          refine b_callM [0, 1, 2, 3, 4, 5, 6, 7, 8, 9, 10, 11] (va_runV (As := [.int (nI (r))]) (rest := []) ⟨hx, hb, hml, hown, hts⟩ (c_X12_well l D cI cZ cT A0 ss tp fk fp ap sp tk vl ac tr la ma it sr bt nw dr pa im kp tc (nI (r))) (cwV 1 hts gX12_as_X12_well rfl rfl rfl (by decide +kernel) ⟨(Nat.le_of_ble_eq_true rfl), (Nat.le_of_ble_eq_true rfl)⟩) (b_pVM hK hP hD [0, 1, 2, 3, 4, 5, 6, 7, 8, 9, 10, 11] (by decide) rfl rfl 0 rfl rfl) rfl rfl hl.1 rfl (lv_room (Nat.le_of_ble_eq_true rfl)) dX12_as_69 ⟨Nat.zero_le _, Nat.zero_le _⟩).run hP hD hS rfl (Nat.le_of_ble_eq_true rfl) (fun H locs hP hS => ?_)
          have hP : va_P D vwCl (wM cI cZ A0 0 tp fk fp ap sp tk vl ac tr la ma it sr bt nw dr pa im kp tc) H := hP
          have hD : va_D A (wM cI cZ A0 0 tp fk fp ap sp tk vl ac tr la ma it sr bt nw dr pa im kp tc) := hD.sameA [(A0 0), (A0 1), (A0 2), (A0 3), (A0 4), (A0 5), (A0 6), (A0 7), (A0 8), (A0 9), (A0 10), (A0 11)] rfl rfl
          refine lv_goto (tgt := 80) hx hb dX12_as_72 (by decide) ?_
          have E : m_as ss nw (nI r) kd = ((nI (r)), 0) := (by first | (simp only [m_as, eq_true c1, eq_true c2, eq_true c6, htr, bI, not_true_eq_false, not_false_eq_true, ite_true, ite_false, if_true, if_false, and_self, and_true, true_and, false_and, and_false, or_true, true_or, or_false, false_or, eq_self]; done) | (simp [m_as, eq_true c1, eq_true c2, eq_true c6, htr, bI]; done))
          rw [E]
          exact b_retM hx hb hr hP hS rfl dX12_as_80 hlocks
      · refine lv_iload_n hx hb dX12_as_26 rfl (lv_at hl 3 rfl) ?_
        refine lv_if_eq (tgt := 55) hx hb dX12_as_27 (by decide) (fun c7 => ?_) (fun c7 => ?_)
        · refine lv_iconst (v := 1) hx hb dX12_as_55 (by decide) ?_
          refine lv_goto (tgt := 60) hx hb dX12_as_56 (by decide) ?_
          exact K5 _ (by first | with_reducible rfl | (simp only [bI, asP, eq_true c1, eq_true c2, eq_true c7, not_true_eq_false, not_false_eq_true, ite_true, ite_false, if_true, if_false, and_self, and_true, true_and, false_and, and_false, or_true, true_or, or_false, false_or]; done) | (simp [bI, asP, eq_true c1, eq_true c2, eq_true c7]; done) | omega)
        · refine lv_iload_n hx hb dX12_as_30 rfl (lv_at hl 3 rfl) ?_
          refine lv_iload_n hx hb dX12_as_31 rfl (lv_at hl 0 rfl) ?_
          refine lv_icmp_eq (tgt := 55) hx hb dX12_as_32 (by decide) (fun c8 => ?_) (fun c8 => ?_)
          · refine lv_iconst (v := 1) hx hb dX12_as_55 (by decide) ?_
            refine lv_goto (tgt := 60) hx hb dX12_as_56 (by decide) ?_
            exact K5 _ (by first | with_reducible rfl | (simp only [bI, asP, eq_true c1, eq_true c2, eq_false c7, eq_true c8, not_true_eq_false, not_false_eq_true, ite_true, ite_false, if_true, if_false, and_self, and_true, true_and, false_and, and_false, or_true, true_or, or_false, false_or]; done) | (simp [bI, asP, eq_true c1, eq_true c2, eq_false c7, eq_true c8]; done) | omega)
          · refine lv_iload_n hx hb dX12_as_35 rfl (lv_at hl 3 rfl) ?_
            refine lv_iconst (v := 1) hx hb dX12_as_36 (by decide) ?_
            refine lv_icmp_ne (tgt := 45) hx hb dX12_as_37 (by decide) (fun c9 => ?_) (fun c9 => ?_)
            · refine lv_iload_n hx hb dX12_as_45 rfl (lv_at hl 3 rfl) ?_
              refine lv_iconst (v := 4) hx hb dX12_as_46 (by decide) ?_
              refine lv_icmp_ne (tgt := 59) hx hb dX12_as_47 (by decide) (fun c10 => ?_) (fun c10 => ?_)
              · refine lv_iconst (v := 0) hx hb dX12_as_59 (by decide) ?_
                exact K5 _ (by first | with_reducible rfl | (simp only [bI, asP, eq_true c1, eq_true c2, eq_false c7, eq_false c8, eq_false c9, eq_false c10, not_true_eq_false, not_false_eq_true, ite_true, ite_false, if_true, if_false, and_self, and_true, true_and, false_and, and_false, or_true, true_or, or_false, false_or]; done) | (simp [bI, asP, eq_true c1, eq_true c2, eq_false c7, eq_false c8, eq_false c9, eq_false c10]; done) | omega)
              · refine lv_iload_n hx hb dX12_as_50 rfl (lv_at hl 0 rfl) ?_
                refine lv_iconst (v := 5) hx hb dX12_as_51 (by decide) ?_
                refine lv_icmp_ne (tgt := 59) hx hb dX12_as_52 (by decide) (fun c11 => ?_) (fun c11 => ?_)
                · refine lv_iconst (v := 0) hx hb dX12_as_59 (by decide) ?_
                  exact K5 _ (by first | with_reducible rfl | (simp only [bI, asP, eq_true c1, eq_true c2, eq_false c7, eq_false c8, eq_false c9, eq_true c10, eq_false c11, not_true_eq_false, not_false_eq_true, ite_true, ite_false, if_true, if_false, and_self, and_true, true_and, false_and, and_false, or_true, true_or, or_false, false_or]; done) | (simp [bI, asP, eq_true c1, eq_true c2, eq_false c7, eq_false c8, eq_false c9, eq_true c10, eq_false c11]; done) | omega)
                · refine lv_iconst (v := 1) hx hb dX12_as_55 (by decide) ?_
                  refine lv_goto (tgt := 60) hx hb dX12_as_56 (by decide) ?_
                  exact K5 _ (by first | with_reducible rfl | (simp only [bI, asP, eq_true c1, eq_true c2, eq_false c7, eq_false c8, eq_false c9, eq_true c10, eq_true c11, not_true_eq_false, not_false_eq_true, ite_true, ite_false, if_true, if_false, and_self, and_true, true_and, false_and, and_false, or_true, true_or, or_false, false_or]; done) | (simp [bI, asP, eq_true c1, eq_true c2, eq_false c7, eq_false c8, eq_false c9, eq_true c10, eq_true c11]; done) | omega)
            · refine lv_iload_n hx hb dX12_as_40 rfl (lv_at hl 0 rfl) ?_
              refine lv_iconst (v := 4) hx hb dX12_as_41 (by decide) ?_
              refine lv_icmp_lt (tgt := 55) hx hb dX12_as_42 (by decide) (fun c12 => ?_) (fun c12 => ?_)
              · refine lv_iconst (v := 1) hx hb dX12_as_55 (by decide) ?_
                refine lv_goto (tgt := 60) hx hb dX12_as_56 (by decide) ?_
                exact K5 _ (by first | with_reducible rfl | (simp only [bI, asP, eq_true c1, eq_true c2, eq_false c7, eq_false c8, eq_true c9, eq_true c12, not_true_eq_false, not_false_eq_true, ite_true, ite_false, if_true, if_false, and_self, and_true, true_and, false_and, and_false, or_true, true_or, or_false, false_or]; done) | (simp [bI, asP, eq_true c1, eq_true c2, eq_false c7, eq_false c8, eq_true c9, eq_true c12]; done) | omega)
              · refine lv_iload_n hx hb dX12_as_45 rfl (lv_at hl 3 rfl) ?_
                refine lv_iconst (v := 4) hx hb dX12_as_46 (by decide) ?_
                refine lv_icmp_ne (tgt := 59) hx hb dX12_as_47 (by decide) (fun c13 => ?_) (fun c13 => ?_)
                · refine lv_iconst (v := 0) hx hb dX12_as_59 (by decide) ?_
                  exact K5 _ (by first | with_reducible rfl | (simp only [bI, asP, eq_true c1, eq_true c2, eq_false c7, eq_false c8, eq_true c9, eq_false c12, eq_false c13, not_true_eq_false, not_false_eq_true, ite_true, ite_false, if_true, if_false, and_self, and_true, true_and, false_and, and_false, or_true, true_or, or_false, false_or]; done) | (simp [bI, asP, eq_true c1, eq_true c2, eq_false c7, eq_false c8, eq_true c9, eq_false c12, eq_false c13]; done) | omega)
                · refine lv_iload_n hx hb dX12_as_50 rfl (lv_at hl 0 rfl) ?_
                  refine lv_iconst (v := 5) hx hb dX12_as_51 (by decide) ?_
                  refine lv_icmp_ne (tgt := 59) hx hb dX12_as_52 (by decide) (fun c14 => ?_) (fun c14 => ?_)
                  · refine lv_iconst (v := 0) hx hb dX12_as_59 (by decide) ?_
                    exact K5 _ (by first | with_reducible rfl | (simp only [bI, asP, eq_true c1, eq_true c2, eq_false c7, eq_false c8, eq_true c9, eq_false c12, eq_true c13, eq_false c14, not_true_eq_false, not_false_eq_true, ite_true, ite_false, if_true, if_false, and_self, and_true, true_and, false_and, and_false, or_true, true_or, or_false, false_or]; done) | (simp [bI, asP, eq_true c1, eq_true c2, eq_false c7, eq_false c8, eq_true c9, eq_false c12, eq_true c13, eq_false c14]; done) | omega)
                  · refine lv_iconst (v := 1) hx hb dX12_as_55 (by decide) ?_
                    refine lv_goto (tgt := 60) hx hb dX12_as_56 (by decide) ?_
                    exact K5 _ (by first | with_reducible rfl | (simp only [bI, asP, eq_true c1, eq_true c2, eq_false c7, eq_false c8, eq_true c9, eq_false c12, eq_true c13, eq_true c14, not_true_eq_false, not_false_eq_true, ite_true, ite_false, if_true, if_false, and_self, and_true, true_and, false_and, and_false, or_true, true_or, or_false, false_or]; done) | (simp [bI, asP, eq_true c1, eq_true c2, eq_false c7, eq_false c8, eq_true c9, eq_false c12, eq_true c13, eq_true c14]; done) | omega)
    · refine lv_ldc (v := (-1000001)) hx hb hown (hts (.constant RX12 58 (-1000001)) (List.mem_of_getElem? (i := 1) rfl)) dX12_as_17 ?_
      have E : m_as ss nw reader kd = ((-1000001), ss) := (by first | (simp only [m_as, eq_true c1, eq_false c2, bI, not_true_eq_false, not_false_eq_true, ite_true, ite_false, if_true, if_false, and_self, and_true, true_and, false_and, and_false, or_true, true_or, or_false, false_or, eq_self]; done) | (simp [m_as, eq_true c1, eq_false c2, bI]; done))
      rw [E]
      exact b_retM hx hb hr hP hS rfl dX12_as_19 hlocks
theorem u_X12_begins_X12 : ∀ w ∈ wsX120, w ∈ wsX12_begins := fun _ h => List.mem_cons_of_mem _ (List.mem_append_right _ h)
set_option maxHeartbeats 4000000 in
set_option maxRecDepth 100000 in
theorem c_X12_begins (l : Launch) (D : va_G) (cI cZ cT : ClassId) (A0 : Nat → Nat) (ss tp fk fp ap sp tk vl ac : Int32) (la ma it sr bt nw dr pa im kp : Nat → Int32) (σ : Nat × (Nat → Int32)) (b : Int32) (hz : σ.1 ≤ 16) : Met l yX12_begins wsX12_begins ({ frames := 0, cells := 0, slots := 0, locals := 0 }) (pM D cI cZ cT [.ref (A0 0), .int b] (wM cI cZ A0 ss tp fk fp ap sp tk vl ac (nI σ.1) la ma it sr bt nw dr pa im kp σ.2)) (qM D none (wM cI cZ A0 ss tp fk fp ap sp tk vl ac (nI (m_beg σ b).1) la ma it sr bt nw dr pa im kp ((m_beg σ b).2)) (adr (wM cI cZ A0 ss tp fk fp ap sp tk vl ac (nI σ.1) la ma it sr bt nw dr pa im kp σ.2))) 0 0 (adr (wM cI cZ A0 ss tp fk fp ap sp tk vl ac (nI σ.1) la ma it sr bt nw dr pa im kp σ.2)) := by
  refine Met.ofW (cc := cX12_begins) (maxL := 2) (ret := none) (by decide) rfl ?_
  intro p e s m args below meth c s₁ B hml hv
  obtain ⟨rfl, hP, hD0, hK⟩ := hv
  have hx := B.exec
  have hb := B.bytes
  have hr := B.returns
  have hts := atoms_spec (ws := wsX12_begins) B.pre
  have hown : s.vm.findClass RX12 = some m.cls := findClass_of_methodNamed B.named
  have hlocks := B.notSynchronized
  have hD := hD0.toAdr
  have hS : va_S (adr (wM cI cZ A0 ss tp fk fp ap sp tk vl ac (nI σ.1) la ma it sr bt nw dr pa im kp σ.2)) s.heap s.heap [] := va_S.rf
  generalize adr (wM cI cZ A0 ss tp fk fp ap sp tk vl ac (nI σ.1) la ma it sr bt nw dr pa im kp σ.2) = A at hD hS ⊢
  have hl := lv_entry ([.ref (A0 0), .int b]) (n := 2) (Nat.le_of_ble_eq_true rfl)
  rw [lg_entry_eq]
  generalize (lg_sl ([.ref (A0 0), .int b]) ++ List.replicate (2 - (lg_sl ([.ref (A0 0), .int b])).length) Slot.unset).toArray = ls at hl ⊢
  have hl : lv_has ls 2 [(0, .ref (A0 0)), (1, .int b)] := hl
  refine lv_aload_n hx hb dX12_begins_0 rfl (lv_at hl 0 rfl) ?_
  refine va_get (D := D) (ci := 11) (v := .int (nI (σ.1))) (C := RX12) (T := TX12) (N := 21) hx hb hts u_X12_begins_X12 hown hK.1 hP 0 rfl rfl 20 (by decide) (hts (.fieldLink RX12 183 "NoticeWeekModel" "traced" "I") (List.mem_of_getElem? (i := 1) rfl)) (fun _ h9 => h9) rfl dX12_begins_1 ?_
  refine lv_bipush (v := (nI 16)) hx hb dX12_begins_4 (by decide) ?_
  refine b_ge (tgt := 29) hx hb (by omega) (by omega) dX12_begins_6 (by decide) (fun c1 => ?_) (fun c1 => ?_)
  · have E : m_beg σ b = σ := (by unfold m_beg; rw [if_pos c1])
    rw [E]
    exact b_vretM hx hb hr hP hS dX12_begins_29 hlocks
  · refine lv_aload_n hx hb dX12_begins_9 rfl (lv_at hl 0 rfl) ?_
    refine va_get (D := D) (ci := 11) (v := .ref (A0 11)) (C := RX12) (T := TX12) (N := 21) hx hb hts u_X12_begins_X12 hown hK.1 hP 0 rfl rfl 19 (by decide) (hts (.fieldLink RX12 41 "NoticeWeekModel" "trace" "[I") (List.mem_of_getElem? (i := 2) rfl)) (fun _ h9 => h9) rfl dX12_begins_10 ?_
    refine lv_aload_n hx hb dX12_begins_13 rfl (lv_at hl 0 rfl) ?_
    refine va_get (D := D) (ci := 11) (v := .int (nI (σ.1))) (C := RX12) (T := TX12) (N := 21) hx hb hts u_X12_begins_X12 hown hK.1 hP 0 rfl rfl 20 (by decide) (hts (.fieldLink RX12 183 "NoticeWeekModel" "traced" "I") (List.mem_of_getElem? (i := 1) rfl)) (fun _ h9 => h9) rfl dX12_begins_14 ?_
    refine lv_iload_n hx hb dX12_begins_17 rfl (lv_at hl 1 rfl) ?_
    refine b_ast hx hb hK hP hD hS 11 rfl (by omega) (by decide) dX12_begins_18 (fun H locs hP hS => ?_)
    have hP : va_P D vwCl (wM cI cZ A0 ss tp fk fp ap sp tk vl ac (nI σ.1) la ma it sr bt nw dr pa im kp (upd σ.2 σ.1 b)) H := hP
    have hD : va_D A (wM cI cZ A0 ss tp fk fp ap sp tk vl ac (nI σ.1) la ma it sr bt nw dr pa im kp (upd σ.2 σ.1 b)) := hD.sameA [(A0 0), (A0 1), (A0 2), (A0 3), (A0 4), (A0 5), (A0 6), (A0 7), (A0 8), (A0 9), (A0 10), (A0 11)] rfl rfl
    refine lv_aload_n hx hb dX12_begins_19 rfl (lv_at hl 0 rfl) ?_
    refine lv_dup hx hb dX12_begins_20 rfl ?_
    refine va_get (D := D) (ci := 11) (v := .int (nI (σ.1))) (C := RX12) (T := TX12) (N := 21) hx hb hts u_X12_begins_X12 hown hK.1 hP 0 rfl rfl 20 (by decide) (hts (.fieldLink RX12 183 "NoticeWeekModel" "traced" "I") (List.mem_of_getElem? (i := 1) rfl)) (fun _ h9 => h9) rfl dX12_begins_21 ?_
    refine lv_iconst (v := (nI 1)) hx hb dX12_begins_24 (by decide) ?_
    refine b_add hx hb dX12_begins_25 ?_
    refine b_put (C := RX12) (T := TX12) (N := 21) hx hb hts u_X12_begins_X12 tyX12 tyX12_ok nmX12 hown hK hP hD hS 0 rfl rfl 20 (by decide) (hts (.fieldLink RX12 183 "NoticeWeekModel" "traced" "I") (List.mem_of_getElem? (i := 1) rfl)) rfl (by decide +kernel) (Nat.le_of_ble_eq_true rfl) dX12_begins_26 (fun H locs hP hS => ?_)
    have hP : va_P D vwCl (wM cI cZ A0 ss tp fk fp ap sp tk vl ac (nI (σ.1 + 1)) la ma it sr bt nw dr pa im kp (upd σ.2 σ.1 b)) H := hP
    have hD : va_D A (wM cI cZ A0 ss tp fk fp ap sp tk vl ac (nI (σ.1 + 1)) la ma it sr bt nw dr pa im kp (upd σ.2 σ.1 b)) := hD.sameA [(A0 0), (A0 1), (A0 2), (A0 3), (A0 4), (A0 5), (A0 6), (A0 7), (A0 8), (A0 9), (A0 10), (A0 11)] rfl rfl
    have E : m_beg σ b = (σ.1 + 1, (upd σ.2 σ.1 b)) := (by unfold m_beg; rw [if_neg (Nat.not_le.mpr c1)])
    rw [E]
    exact b_vretM hx hb hr hP hS dX12_begins_29 hlocks
