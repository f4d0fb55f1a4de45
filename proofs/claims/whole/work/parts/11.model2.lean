/-! MODEL: rows -/
abbrev tn (x : Int32) : Nat := x.toNatClampNeg
theorem tn_nI {n m : Nat} (h : n ≤ m) (hm : m < 2147483648 := by decide) : tn (nI n) = n := nI_clamp (by omega)
theorem i_lt (a b : Int32) : a < b ↔ a.toInt < b.toInt := Int32.lt_iff_toInt_lt
theorem i_le (a b : Int32) : a ≤ b ↔ a.toInt ≤ b.toInt := Int32.le_iff_toInt_le
theorem i_subT {n : Nat} (hn : n ≤ 1000) (j : Nat) (hj : j ≤ 1000) : (nI n - nI j).toInt = (n : Int) - j := pk_sub_toInt (by omega) (by omega)
theorem i_nT {n : Nat} (hn : n ≤ 1000) : (nI n).toInt = (n : Int) := nI_toInt (by omega)
theorem i_below {i : Int32} {n : Nat} (hn : n ≤ 40) (h0 : ¬ i < 0) (h1 : ¬ nI n - 1 < i) : ∃ r : Nat, r ≤ 39 ∧ i = nI r := by
  obtain ⟨j, hj, rfl⟩ := nI_of h0
  have h2 : (nI n - 1).toInt = (n : Int) - 1 := i_subT (by omega) 1 (by omega)
  rw [i_lt, h2, nI_toInt hj] at h1
  exact ⟨j, by omega, rfl⟩
theorem i_part {i n : Int32} {k : Nat} (hk : k ≤ 40) (h : ¬ i < 0 ∧ ¬ n < 0 ∧ ¬ nI k < i ∧ ¬ nI k - i < n) : ∃ a b : Nat, a + b ≤ k ∧ i = nI a ∧ n = nI b := by
  obtain ⟨h0, h1, h2, h3⟩ := h
  obtain ⟨a, ha, rfl⟩ := nI_of h0
  obtain ⟨b, hb, rfl⟩ := nI_of h1
  rw [i_lt, nI_toInt ha, i_nT (by omega)] at h2
  rw [i_lt, i_subT (by omega) a (by omega), nI_toInt hb] at h3
  exact ⟨a, b, by omega, rfl, rfl⟩
def m_row (s : Int32) (la ma it : Nat → Int32) (row lane n : Int32) : Int32 × Int32 × (Nat → Int32) × (Nat → Int32) × (Nat → Int32) :=
  if ¬ (¬ row < 0 ∧ ¬ 7 < row) then (-1000001, s, la, ma, it)
  else if ¬ (¬ lane < 0 ∧ ¬ 2 < lane) then (-1000001, s, la, ma, it)
  else if ¬ n ≤ 40 then (-1000001, s, la, ma, it)
  else if ¬ 0 ≤ n then ((-1000010) - 4, 4, la, ma, it)
  else (n, 0, upd la (tn row) lane, upd ma (tn row) n, itr (fun k f => upd f (40 * tn row + k) 0) 40 it)
def m_set (s : Int32) (la ma it : Nat → Int32) (row i v : Int32) : Int32 × Int32 × (Nat → Int32) :=
  if ¬ (¬ row < 0 ∧ ¬ 7 < row) then (-1000001, s, it)
  else if la (tn row) = -1000000 then ((-1000010) - 1, 1, it)
  else if ¬ (¬ i < 0 ∧ ¬ ma (tn row) - 1 < i) then ((-1000010) - 2, 2, it)
  else (cutf (la (tn row)) v, 0, upd it (40 * tn row + tn i) (cutf (la (tn row)) v))
def partb (ma : Nat → Int32) (r : Nat) (i n : Int32) : Prop := ¬ i < 0 ∧ ¬ n < 0 ∧ ¬ ma r < i ∧ ¬ ma r - i < n
def m_copy (s : Int32) (la ma it sr : Nat → Int32) (a i b j n : Int32) : Int32 × Int32 × (Nat → Int32) × (Nat → Int32) :=
  if ¬ (¬ a < 0 ∧ ¬ 7 < a) then (-1000001, s, it, sr)
  else if ¬ (¬ b < 0 ∧ ¬ 7 < b) then (-1000001, s, it, sr)
  else if la (tn a) = -1000000 then ((-1000010) - 1, 1, it, sr)
  else if la (tn b) = -1000000 then ((-1000010) - 1, 1, it, sr)
  else if ¬ la (tn a) = la (tn b) then ((-1000010) - 5, 5, it, sr)
  else if ¬ (¬ i < 0 ∧ ¬ n < 0 ∧ ¬ ma (tn a) < i ∧ ¬ ma (tn a) - i < n) then ((-1000010) - 2, 2, it, sr)
  else if ¬ (¬ j < 0 ∧ ¬ n < 0 ∧ ¬ ma (tn b) < j ∧ ¬ ma (tn b) - j < n) then ((-1000010) - 2, 2, it, sr)
  else (n, 0, itr (fun k f => upd f (40 * tn b + tn j + k) (itr (fun k f => upd f k (it (40 * tn a + tn i + k))) (tn n) sr k)) (tn n) it, itr (fun k f => upd f k (it (40 * tn a + tn i + k))) (tn n) sr)
def m_drop (s : Int32) (la ma : Nat → Int32) (row : Int32) : Int32 × Int32 × (Nat → Int32) :=
  if ¬ (¬ row < 0 ∧ ¬ 7 < row) then (-1000001, s, la)
  else if la (tn row) = -1000000 then ((-1000010) - 1, 1, la)
  else (ma (tn row), 0, upd la (tn row) (-1000000))
def m_feed (t : Nat) (bt : Nat → Int32) (x : Int32) : Int32 × Nat × (Nat → Int32) :=
  if ¬ (¬ x < 0 ∧ ¬ 255 < x) then (-1000001, t, bt)
  else if t = 120 then (-1000003, t, bt)
  else (nI (t + 1), t + 1, upd bt t x)
/-! MODEL: the text -/
def byt (bt : Nat → Int32) (t k : Nat) : Int32 := if k < t then bt k else -1
abbrev digb (c : Int32) : Prop := ¬ c < 48 ∧ ¬ 57 < c
def rl (bt : Nat → Int32) (t : Nat) : Nat → Nat → Nat
  | _, 0 => 0
  | a, n + 1 => if digb (byt bt t a) then rl bt t (a + 1) n + 1 else 0
def vvf (bt : Nat → Int32) (t a : Nat) (k : Nat) : Int32 := itr (fun j v => if j < 2 then 10 * v + byt bt t (a + j) - 48 else v) k 0
def adA (bt : Nat → Int32) (t a : Nat) : Nat := if digb (byt bt t a) then a + rl bt t a (t - a) else if 0 ≤ byt bt t a then a + 1 else a
def adT (bt : Nat → Int32) (t a : Nat) : Int32 := if digb (byt bt t a) then (if rl bt t a (t - a) < 3 then 2 else 5) else if ¬ 0 ≤ byt bt t a then 0 else if ¬ byt bt t a < 97 ∧ ¬ 122 < byt bt t a then 1 else if byt bt t a = 44 then 3 else if byt bt t a = 59 then 4 else 5
def adV (bt : Nat → Int32) (t a : Nat) : Int32 := if digb (byt bt t a) then vvf bt t a (rl bt t a (t - a)) else byt bt t a
def adv (bt : Nat → Int32) (t a : Nat) : Nat × Int32 × Int32 := (adA bt t a, adT bt t a, adV bt t a)
theorem vvf_lt {bt : Nat → Int32} {t a k : Nat} (h : a + k - a < 2) : 10 * vvf bt t a k + byt bt t (a + k) - 48 = vvf bt t a (k + 1) := by
  show _ = (if k < 2 then _ else _)
  rw [if_pos (by omega)]; rfl
theorem vvf_ge {bt : Nat → Int32} {t a k : Nat} (h : 2 ≤ a + k - a) : vvf bt t a k = vvf bt t a (k + 1) := by
  show _ = (if k < 2 then _ else _)
  rw [if_neg (by omega)]; rfl
theorem byt_lt {bt : Nat → Int32} {t k : Nat} (h : digb (byt bt t k)) : k < t := by
  by_cases hk : k < t
  · exact hk
  · unfold byt at h; rw [if_neg hk] at h; exact absurd (by decide) h.1
theorem rl_yes {bt : Nat → Int32} {t a k n : Nat} (hn : n = k + rl bt t (a + k) (t - a - k)) (h : digb (byt bt t (a + k))) : n = k + 1 + rl bt t (a + (k + 1)) (t - a - (k + 1)) := by
  have hlt := byt_lt h
  rw [hn, show t - a - k = (t - a - (k + 1)) + 1 by omega, rl, if_pos h, show a + k + 1 = a + (k + 1) by omega]; omega
theorem rl_no {bt : Nat → Int32} {t a k n : Nat} (hn : n = k + rl bt t (a + k) (t - a - k)) (h : ¬ digb (byt bt t (a + k))) : n = k := by
  rw [hn]
  cases hq : t - a - k with
  | zero => rfl
  | succ j => rw [rl, if_neg h]; rfl
abbrev PS : Type := Nat × Nat × Int32 × Int32 × Int32 × Int32
def pTake (bt : Nat → Int32) (t : Nat) (is kd : Int32) (σ : PS) : Int32 × PS :=
  if ¬ σ.2.2.2.2.2 < 0 then (0, σ)
  else if is = 0 then (0, σ.1, σ.2.1, σ.2.2.1, σ.2.2.2.1, kd, nI σ.1)
  else (σ.2.2.2.1, σ.2.1, adA bt t σ.2.1, adT bt t σ.2.1, adV bt t σ.2.1, σ.2.2.2.2.1, σ.2.2.2.2.2)
def pFig (bt : Nat → Int32) (t : Nat) (lo hi : Int32) (σ : PS) : Int32 × PS :=
  if σ.2.2.2.2.2 < 0 ∧ ¬ σ.2.2.1 = 2 then pTake bt t 0 1 σ else pTake bt t (bI (¬ σ.2.2.2.1 < lo ∧ ¬ hi < σ.2.2.2.1)) 2 σ
def pNext (bt : Nat → Int32) (t : Nat) (lo hi : Int32) (σ : PS) : Int32 × PS := pFig bt t lo hi (pTake bt t (bI (σ.2.2.1 = 3)) 1 σ).2
theorem u_X12_row_X12 : ∀ w ∈ wsX120, w ∈ wsX12_row := fun _ h => List.mem_cons_of_mem _ (List.mem_append_right _ h)
set_option maxHeartbeats 4000000 in
set_option maxRecDepth 100000 in
theorem c_X12_row (l : Launch) (D : va_G) (cI cZ cT : ClassId) (A0 : Nat → Nat) (ss tp fk fp ap sp tk vl ac tr : Int32) (la ma it sr bt nw dr pa im kp tc : Nat → Int32) (row lane n : Int32)  : Met l yX12_row wsX12_row ({ frames := 2, cells := 0, slots := 0, locals := 42 }) (pM D cI cZ cT [.ref (A0 0), .int row, .int lane, .int n] (wM cI cZ A0 ss tp fk fp ap sp tk vl ac tr la ma it sr bt nw dr pa im kp tc)) (qM D (some (.int ((m_row ss la ma it row lane n).1))) (wM cI cZ A0 ((m_row ss la ma it row lane n).2.1) tp fk fp ap sp tk vl ac tr ((m_row ss la ma it row lane n).2.2.1) ((m_row ss la ma it row lane n).2.2.2.1) ((m_row ss la ma it row lane n).2.2.2.2) sr bt nw dr pa im kp tc) (adr (wM cI cZ A0 ss tp fk fp ap sp tk vl ac tr la ma it sr bt nw dr pa im kp tc))) 0 0 (adr (wM cI cZ A0 ss tp fk fp ap sp tk vl ac tr la ma it sr bt nw dr pa im kp tc)) := by
  refine Met.ofW (cc := cX12_row) (maxL := 5) (ret := (some .int)) (by decide) rfl ?_
  intro p e s m args below meth c s₁ B hml hv
  obtain ⟨rfl, hP, hD0, hK⟩ := hv
  have hx := B.exec
  have hb := B.bytes
  have hr := B.returns
  have hts := atoms_spec (ws := wsX12_row) B.pre
  have hown : s.vm.findClass RX12 = some m.cls := findClass_of_methodNamed B.named
  have hlocks := B.notSynchronized
  have hD := hD0.toAdr
  have hS : va_S (adr (wM cI cZ A0 ss tp fk fp ap sp tk vl ac tr la ma it sr bt nw dr pa im kp tc)) s.heap s.heap [] := va_S.rf
  generalize adr (wM cI cZ A0 ss tp fk fp ap sp tk vl ac tr la ma it sr bt nw dr pa im kp tc) = A at hD hS ⊢
  have hl := lv_entry ([.ref (A0 0), .int row, .int lane, .int n]) (n := 5) (Nat.le_of_ble_eq_true rfl)
  rw [lg_entry_eq]
  generalize (lg_sl ([.ref (A0 0), .int row, .int lane, .int n]) ++ List.replicate (5 - (lg_sl ([.ref (A0 0), .int row, .int lane, .int n])).length) Slot.unset).toArray = ls at hl ⊢
  have hl : lv_has ls 5 [(0, .ref (A0 0)), (1, .int row), (2, .int lane), (3, .int n)] := hl
  refine lv_iload_n hx hb dX12_row_0 rfl (lv_at hl 1 rfl) ?_
  refine b_call (va_runS (As := [.int row]) (rest := []) ⟨hx, hb, hml, hown, hts⟩ (c_X12_isRow l D cI cZ cT row) (va_cwS 1 hts gX12_row_X12_isRow rfl rfl rfl (by decide +kernel) ⟨(Nat.le_of_ble_eq_true rfl), (Nat.le_of_ble_eq_true rfl)⟩) (b_pS0 hK) rfl rfl hl.1 rfl (lv_room (Nat.le_of_ble_eq_true rfl)) dX12_row_1 ⟨Nat.zero_le _, Nat.zero_le _⟩).run ?_
  refine b_ifeq (tgt := 22) hx hb dX12_row_4 (by decide) (fun c1 => ?_) (fun c1 => ?_)
  · refine lv_ldc (v := (-1000001)) hx hb hown (hts (.constant RX12 58 (-1000001)) (List.mem_of_getElem? (i := 1) rfl)) dX12_row_22 ?_
    have E : m_row ss la ma it row lane n = ((-1000001), ss, la, ma, it) := (by first | (simp only [m_row, eq_false c1, bI, not_true_eq_false, not_false_eq_true, ite_true, ite_false, if_true, if_false, and_self, and_true, true_and, false_and, and_false, or_true, true_or, or_false, false_or, eq_self]; done) | (simp [m_row, eq_false c1, bI]; done))
    rw [E]
    exact b_retM hx hb hr hP hS rfl dX12_row_24 hlocks
  · refine lv_iload_n hx hb dX12_row_7 rfl (lv_at hl 2 rfl) ?_
    refine lv_iconst (v := 0) hx hb dX12_row_8 (by decide) ?_
    refine lv_iconst (v := 2) hx hb dX12_row_9 (by decide) ?_
    refine b_call (va_runS (As := [.int lane, .int 0, .int 2]) (rest := []) ⟨hx, hb, hml, hown, hts⟩ (c_X12_in l D cI cZ cT lane 0 2) (va_cwS 3 hts gX12_row_X12_in rfl rfl rfl (by decide +kernel) ⟨(Nat.le_of_ble_eq_true rfl), (Nat.le_of_ble_eq_true rfl)⟩) (b_pS0 hK) rfl rfl hl.1 rfl (lv_room (Nat.le_of_ble_eq_true rfl)) dX12_row_10 ⟨Nat.zero_le _, Nat.zero_le _⟩).run ?_
    refine b_ifeq (tgt := 22) hx hb dX12_row_13 (by decide) (fun c2 => ?_) (fun c2 => ?_)
    · refine lv_ldc (v := (-1000001)) hx hb hown (hts (.constant RX12 58 (-1000001)) (List.mem_of_getElem? (i := 1) rfl)) dX12_row_22 ?_
      have E : m_row ss la ma it row lane n = ((-1000001), ss, la, ma, it) := (by first | (simp only [m_row, eq_true c1, eq_false c2, bI, not_true_eq_false, not_false_eq_true, ite_true, ite_false, if_true, if_false, and_self, and_true, true_and, false_and, and_false, or_true, true_or, or_false, false_or, eq_self]; done) | (simp [m_row, eq_true c1, eq_false c2, bI]; done))
      rw [E]
      exact b_retM hx hb hr hP hS rfl dX12_row_24 hlocks
    · refine lv_iload_n hx hb dX12_row_16 rfl (lv_at hl 3 rfl) ?_
      refine lv_bipush (v := 40) hx hb dX12_row_17 (by decide) ?_
      refine lv_icmp_le (tgt := 25) hx hb dX12_row_19 (by decide) (fun c3 => ?_) (fun c3 => ?_)
      · refine lv_iload_n hx hb dX12_row_25 rfl (lv_at hl 3 rfl) ?_
        refine lv_if_ge (tgt := 35) hx hb dX12_row_26 (by decide) (fun c4 => ?_) (fun c4 => ?_)
        · obtain ⟨r, hh_r, rfl⟩ : ∃ r : Nat, r ≤ 7 ∧ row = nI r := i_nat 7 c1.1 c1.2 rfl (by decide)
          have hl : lv_has ls 5 [(0, .ref (A0 0)), (1, .int (nI (r))), (2, .int lane), (3, .int n)] := hl
          have htr : tn (nI r) = r := tn_nI hh_r
          refine lv_aload_n hx hb dX12_row_35 rfl (lv_at hl 0 rfl) ?_
          refine va_get (D := D) (ci := 11) (v := .ref (A0 1)) (C := RX12) (T := TX12) (N := 21) hx hb hts u_X12_row_X12 hown hK.1 hP 0 rfl rfl 0 (by decide) (hts (.fieldLink RX12 7 "NoticeWeekModel" "lane" "[I") (List.mem_of_getElem? (i := 2) rfl)) (fun _ h9 => h9) rfl dX12_row_36 ?_
          refine lv_iload_n hx hb dX12_row_39 rfl (lv_at hl 1 rfl) ?_
          refine lv_iload_n hx hb dX12_row_40 rfl (lv_at hl 2 rfl) ?_
          refine b_ast hx hb hK hP hD hS 1 rfl (by omega) (by decide) dX12_row_41 (fun H locs hP hS => ?_)
          have hP : va_P D vwCl (wM cI cZ A0 ss tp fk fp ap sp tk vl ac tr (upd la r lane) ma it sr bt nw dr pa im kp tc) H := hP
          have hD : va_D A (wM cI cZ A0 ss tp fk fp ap sp tk vl ac tr (upd la r lane) ma it sr bt nw dr pa im kp tc) := hD.sameA [(A0 0), (A0 1), (A0 2), (A0 3), (A0 4), (A0 5), (A0 6), (A0 7), (A0 8), (A0 9), (A0 10), (A0 11)] rfl rfl
          refine lv_aload_n hx hb dX12_row_42 rfl (lv_at hl 0 rfl) ?_
          refine va_get (D := D) (ci := 11) (v := .ref (A0 2)) (C := RX12) (T := TX12) (N := 21) hx hb hts u_X12_row_X12 hown hK.1 hP 0 rfl rfl 1 (by decide) (hts (.fieldLink RX12 13 "NoticeWeekModel" "many" "[I") (List.mem_of_getElem? (i := 3) rfl)) (fun _ h9 => h9) rfl dX12_row_43 ?_
          refine lv_iload_n hx hb dX12_row_46 rfl (lv_at hl 1 rfl) ?_
          refine lv_iload_n hx hb dX12_row_47 rfl (lv_at hl 3 rfl) ?_
          refine b_ast hx hb hK hP hD hS 2 rfl (by omega) (by decide) dX12_row_48 (fun H locs hP hS => ?_)
          have hP : va_P D vwCl (wM cI cZ A0 ss tp fk fp ap sp tk vl ac tr (upd la r lane) (upd ma r n) it sr bt nw dr pa im kp tc) H := hP
          have hD : va_D A (wM cI cZ A0 ss tp fk fp ap sp tk vl ac tr (upd la r lane) (upd ma r n) it sr bt nw dr pa im kp tc) := hD.sameA [(A0 0), (A0 1), (A0 2), (A0 3), (A0 4), (A0 5), (A0 6), (A0 7), (A0 8), (A0 9), (A0 10), (A0 11)] rfl rfl
          refine lv_iconst (v := (nI 0)) hx hb dX12_row_49 (by decide) ?_
          refine lv_istore (lv' := [(4, .int (nI 0)), (0, .ref (A0 0)), (1, .int (nI (r))), (2, .int lane), (3, .int n)]) hx hb dX12_row_50 hl (by decide) rfl (fun ls hl => ?_)
          refine b_loopM (N := 40) (I := fun k ls H locs => lv_has ls 5 [(4, .int (nI (k))), (0, .ref (A0 0)), (1, .int (nI (r))), (3, .int n)] ∧ va_P D vwCl (wM cI cZ A0 ss tp fk fp ap sp tk vl ac tr (upd la r lane) (upd ma r n) (itr (fun j f => upd f (40 * r + j) 0) k it) sr bt nw dr pa im kp tc) H ∧ va_S A s.heap H locs) (fun k hk ih5 ls H locs hI => ?_) 0 (by omega) ⟨lv_sub hl [0, 1, 2, 4] rfl, hP, hS⟩
          obtain ⟨hl, hP, hS⟩ := hI
          have hl : lv_has ls 5 [(4, .int (nI (k))), (0, .ref (A0 0)), (1, .int (nI (r))), (3, .int n)] := hl
          have hP : va_P D vwCl (wM cI cZ A0 ss tp fk fp ap sp tk vl ac tr (upd la r lane) (upd ma r n) (itr (fun j f => upd f (40 * r + j) 0) k it) sr bt nw dr pa im kp tc) H := hP
          have hD : va_D A (wM cI cZ A0 ss tp fk fp ap sp tk vl ac tr (upd la r lane) (upd ma r n) (itr (fun j f => upd f (40 * r + j) 0) k it) sr bt nw dr pa im kp tc) := hD.sameA [(A0 0), (A0 1), (A0 2), (A0 3), (A0 4), (A0 5), (A0 6), (A0 7), (A0 8), (A0 9), (A0 10), (A0 11)] rfl rfl
          refine lv_iload hx hb dX12_row_52 (lv_at hl 0 rfl) ?_
          refine lv_bipush (v := (nI 40)) hx hb dX12_row_54 (by decide) ?_
          refine b_ge (tgt := 78) hx hb (by omega) (by omega) dX12_row_56 (by decide) (fun c6 => ?_) (fun c6 => ?_)
          · have h_k : 40 = k := by omega
            subst h_k
            refine lv_aload_n hx hb dX12_row_78 rfl (lv_at hl 1 rfl) ?_
            refine lv_iload_n hx hb dX12_row_79 rfl (lv_at hl 3 rfl) ?_
            refine b_callM [0, 1, 2, 3, 4, 5, 6, 7, 8, 9, 10, 11] (va_runV (As := [.int n]) (rest := []) ⟨hx, hb, hml, hown, hts⟩ (c_X12_well l D cI cZ cT A0 ss tp fk fp ap sp tk vl ac tr (upd la r lane) (upd ma r n) (itr (fun j f => upd f (40 * r + j) 0) 40 it) sr bt nw dr pa im kp tc n) (cwV 1 hts gX12_row_X12_well rfl rfl rfl (by decide +kernel) ⟨(Nat.le_of_ble_eq_true rfl), (Nat.le_of_ble_eq_true rfl)⟩) (b_pVM hK hP hD [0, 1, 2, 3, 4, 5, 6, 7, 8, 9, 10, 11] (by decide) rfl rfl 0 rfl rfl) rfl rfl hl.1 rfl (lv_room (Nat.le_of_ble_eq_true rfl)) dX12_row_80 ⟨Nat.zero_le _, Nat.zero_le _⟩).run hP hD hS rfl (Nat.le_of_ble_eq_true rfl) (fun H locs hP hS => ?_)
            have hP : va_P D vwCl (wM cI cZ A0 0 tp fk fp ap sp tk vl ac tr (upd la r lane) (upd ma r n) (itr (fun j f => upd f (40 * r + j) 0) 40 it) sr bt nw dr pa im kp tc) H := hP
            have hD : va_D A (wM cI cZ A0 0 tp fk fp ap sp tk vl ac tr (upd la r lane) (upd ma r n) (itr (fun j f => upd f (40 * r + j) 0) 40 it) sr bt nw dr pa im kp tc) := hD.sameA [(A0 0), (A0 1), (A0 2), (A0 3), (A0 4), (A0 5), (A0 6), (A0 7), (A0 8), (A0 9), (A0 10), (A0 11)] rfl rfl
            have E : m_row ss la ma it (nI r) lane n = (n, 0, (upd la r lane), (upd ma r n), (itr (fun j f => upd f (40 * r + j) 0) 40 it)) := (by first | (simp only [m_row, eq_true c1, eq_true c2, eq_true c3, eq_true c4, eq_true c6, htr, bI, not_true_eq_false, not_false_eq_true, ite_true, ite_false, if_true, if_false, and_self, and_true, true_and, false_and, and_false, or_true, true_or, or_false, false_or, eq_self]; done) | (simp [m_row, eq_true c1, eq_true c2, eq_true c3, eq_true c4, eq_true c6, htr, bI]; done))
            rw [E]
            exact b_retM hx hb hr hP hS rfl dX12_row_83 hlocks
          · refine lv_aload_n hx hb dX12_row_59 rfl (lv_at hl 1 rfl) ?_
            refine va_get (D := D) (ci := 11) (v := .ref (A0 3)) (C := RX12) (T := TX12) (N := 21) hx hb hts u_X12_row_X12 hown hK.1 hP 0 rfl rfl 2 (by decide) (hts (.fieldLink RX12 16 "NoticeWeekModel" "items" "[I") (List.mem_of_getElem? (i := 4) rfl)) (fun _ h9 => h9) rfl dX12_row_60 ?_
            refine lv_bipush (v := (nI 40)) hx hb dX12_row_63 (by decide) ?_
            refine lv_iload_n hx hb dX12_row_65 rfl (lv_at hl 2 rfl) ?_
            refine b_mul hx hb dX12_row_66 ?_
            refine lv_iload hx hb dX12_row_67 (lv_at hl 0 rfl) ?_
            refine b_add hx hb dX12_row_69 ?_
            refine lv_iconst (v := 0) hx hb dX12_row_70 (by decide) ?_
            refine b_ast hx hb hK hP hD hS 3 rfl (by omega) (by decide) dX12_row_71 (fun H locs hP hS => ?_)
            have hP : va_P D vwCl (wM cI cZ A0 ss tp fk fp ap sp tk vl ac tr (upd la r lane) (upd ma r n) (upd (itr (fun j f => upd f (40 * r + j) 0) k it) (40 * r + k) 0) sr bt nw dr pa im kp tc) H := hP
            have hD : va_D A (wM cI cZ A0 ss tp fk fp ap sp tk vl ac tr (upd la r lane) (upd ma r n) (upd (itr (fun j f => upd f (40 * r + j) 0) k it) (40 * r + k) 0) sr bt nw dr pa im kp tc) := hD.sameA [(A0 0), (A0 1), (A0 2), (A0 3), (A0 4), (A0 5), (A0 6), (A0 7), (A0 8), (A0 9), (A0 10), (A0 11)] rfl rfl
            refine lv_iinc (v := (nI (k + 1))) (lv' := [(4, .int (nI (k + 1))), (0, .ref (A0 0)), (1, .int (nI (r))), (3, .int n)]) hx hb dX12_row_72 hl (k := 0) rfl (nI_add _ _) (by decide) rfl (fun ls hl => ?_)
            refine lv_goto (tgt := 52) hx hb dX12_row_75 (by decide) ?_
            exact ih5 (by omega) ls H locs ⟨lv_sub hl [0, 1, 2, 3] rfl, hP, hS⟩
        · refine lv_aload_n hx hb dX12_row_29 rfl (lv_at hl 0 rfl) ?_
          refine lv_iconst (v := 4) hx hb dX12_row_30 (by decide) ?_
          refine b_callM [0, 1, 2, 3, 4, 5, 6, 7, 8, 9, 10, 11] (va_runV (As := [.int 4]) (rest := []) ⟨hx, hb, hml, hown, hts⟩ (c_X12_found l D cI cZ cT A0 ss tp fk fp ap sp tk vl ac tr la ma it sr bt nw dr pa im kp tc 4) (cwV 1 hts gX12_row_X12_found rfl rfl rfl (by decide +kernel) ⟨(Nat.le_of_ble_eq_true rfl), (Nat.le_of_ble_eq_true rfl)⟩) (b_pVM hK hP hD [0, 1, 2, 3, 4, 5, 6, 7, 8, 9, 10, 11] (by decide) rfl rfl 0 rfl rfl) rfl rfl hl.1 rfl (lv_room (Nat.le_of_ble_eq_true rfl)) dX12_row_31 ⟨Nat.zero_le _, Nat.zero_le _⟩).run hP hD hS rfl (Nat.le_of_ble_eq_true rfl) (fun H locs hP hS => ?_)
          have hP : va_P D vwCl (wM cI cZ A0 4 tp fk fp ap sp tk vl ac tr la ma it sr bt nw dr pa im kp tc) H := hP
          have hD : va_D A (wM cI cZ A0 4 tp fk fp ap sp tk vl ac tr la ma it sr bt nw dr pa im kp tc) := hD.sameA [(A0 0), (A0 1), (A0 2), (A0 3), (A0 4), (A0 5), (A0 6), (A0 7), (A0 8), (A0 9), (A0 10), (A0 11)] rfl rfl
          have E : m_row ss la ma it row lane n = ((-1000010) - 4, 4, la, ma, it) := (by first | (simp only [m_row, eq_true c1, eq_true c2, eq_true c3, eq_false c4, bI, not_true_eq_false, not_false_eq_true, ite_true, ite_false, if_true, if_false, and_self, and_true, true_and, false_and, and_false, or_true, true_or, or_false, false_or, eq_self]; done) | (simp [m_row, eq_true c1, eq_true c2, eq_true c3, eq_false c4, bI]; done))
          rw [E]
          exact b_retM hx hb hr hP hS rfl dX12_row_34 hlocks
      · refine lv_ldc (v := (-1000001)) hx hb hown (hts (.constant RX12 58 (-1000001)) (List.mem_of_getElem? (i := 1) rfl)) dX12_row_22 ?_
        have E : m_row ss la ma it row lane n = ((-1000001), ss, la, ma, it) := (by first | (simp only [m_row, eq_true c1, eq_true c2, eq_false c3, bI, not_true_eq_false, not_false_eq_true, ite_true, ite_false, if_true, if_false, and_self, and_true, true_and, false_and, and_false, or_true, true_or, or_false, false_or, eq_self]; done) | (simp [m_row, eq_true c1, eq_true c2, eq_false c3, bI]; done))
        rw [E]
        exact b_retM hx hb hr hP hS rfl dX12_row_24 hlocks
theorem u_X12_set_X12 : ∀ w ∈ wsX120, w ∈ wsX12_set := fun _ h => List.mem_cons_of_mem _ (List.mem_append_right _ h)
set_option maxHeartbeats 4000000 in
set_option maxRecDepth 100000 in
theorem c_X12_set (l : Launch) (D : va_G) (cI cZ cT : ClassId) (A0 : Nat → Nat) (ss tp fk fp ap sp tk vl ac tr : Int32) (la ma it sr bt nw dr pa im kp tc : Nat → Int32) (row i v : Int32) (hM : ∀ r, r ≤ 7 → ∃ n, n ≤ 40 ∧ ma r = nI n) : Met l yX12_set wsX12_set ({ frames := 2, cells := 0, slots := 0, locals := 42 }) (pM D cI cZ cT [.ref (A0 0), .int row, .int i, .int v] (wM cI cZ A0 ss tp fk fp ap sp tk vl ac tr la ma it sr bt nw dr pa im kp tc)) (qM D (some (.int ((m_set ss la ma it row i v).1))) (wM cI cZ A0 ((m_set ss la ma it row i v).2.1) tp fk fp ap sp tk vl ac tr la ma ((m_set ss la ma it row i v).2.2) sr bt nw dr pa im kp tc) (adr (wM cI cZ A0 ss tp fk fp ap sp tk vl ac tr la ma it sr bt nw dr pa im kp tc))) 0 0 (adr (wM cI cZ A0 ss tp fk fp ap sp tk vl ac tr la ma it sr bt nw dr pa im kp tc)) := by
  refine Met.ofW (cc := cX12_set) (maxL := 4) (ret := (some .int)) (by decide) rfl ?_
  intro p e s m args below meth c s₁ B hml hv
  obtain ⟨rfl, hP, hD0, hK⟩ := hv
  have hx := B.exec
  have hb := B.bytes
  have hr := B.returns
  have hts := atoms_spec (ws := wsX12_set) B.pre
  have hown : s.vm.findClass RX12 = some m.cls := findClass_of_methodNamed B.named
  have hlocks := B.notSynchronized
  have hD := hD0.toAdr
  have hS : va_S (adr (wM cI cZ A0 ss tp fk fp ap sp tk vl ac tr la ma it sr bt nw dr pa im kp tc)) s.heap s.heap [] := va_S.rf
  generalize adr (wM cI cZ A0 ss tp fk fp ap sp tk vl ac tr la ma it sr bt nw dr pa im kp tc) = A at hD hS ⊢
  have hl := lv_entry ([.ref (A0 0), .int row, .int i, .int v]) (n := 4) (Nat.le_of_ble_eq_true rfl)
  rw [lg_entry_eq]
  generalize (lg_sl ([.ref (A0 0), .int row, .int i, .int v]) ++ List.replicate (4 - (lg_sl ([.ref (A0 0), .int row, .int i, .int v])).length) Slot.unset).toArray = ls at hl ⊢
  have hl : lv_has ls 4 [(0, .ref (A0 0)), (1, .int row), (2, .int i), (3, .int v)] := hl
  refine lv_iload_n hx hb dX12_set_0 rfl (lv_at hl 1 rfl) ?_
  refine b_call (va_runS (As := [.int row]) (rest := []) ⟨hx, hb, hml, hown, hts⟩ (c_X12_isRow l D cI cZ cT row) (va_cwS 1 hts gX12_set_X12_isRow rfl rfl rfl (by decide +kernel) ⟨(Nat.le_of_ble_eq_true rfl), (Nat.le_of_ble_eq_true rfl)⟩) (b_pS0 hK) rfl rfl hl.1 rfl (lv_room (Nat.le_of_ble_eq_true rfl)) dX12_set_1 ⟨Nat.zero_le _, Nat.zero_le _⟩).run ?_
  refine b_ifne (tgt := 10) hx hb dX12_set_4 (by decide) (fun c1 => ?_) (fun c1 => ?_)
  · obtain ⟨r, hh_r, rfl⟩ : ∃ r : Nat, r ≤ 7 ∧ row = nI r := i_nat 7 c1.1 c1.2 rfl (by decide)
    have hl : lv_has ls 4 [(0, .ref (A0 0)), (1, .int (nI (r))), (2, .int i), (3, .int v)] := hl
    have htr : tn (nI r) = r := tn_nI hh_r
    obtain ⟨nr, hnr, hmr⟩ := hM r hh_r
    refine lv_aload_n hx hb dX12_set_10 rfl (lv_at hl 0 rfl) ?_
    refine lv_iload_n hx hb dX12_set_11 rfl (lv_at hl 1 rfl) ?_
    refine b_call (va_runV (As := [.int (nI (r))]) (rest := []) ⟨hx, hb, hml, hown, hts⟩ (c_X12_isMissing l D cI cZ cT A0 ss tp fk fp ap sp tk vl ac tr la ma it sr bt nw dr pa im kp tc r (by omega)) (cwV 1 hts gX12_set_X12_isMissing rfl rfl rfl (by decide +kernel) ⟨(Nat.le_of_ble_eq_true rfl), (Nat.le_of_ble_eq_true rfl)⟩) (b_pV hK hP [0, 1, 2, 3, 4, 5, 6, 7, 8, 9, 10, 11] rfl 0 rfl rfl) rfl rfl hl.1 rfl (lv_room (Nat.le_of_ble_eq_true rfl)) dX12_set_12 ⟨Nat.zero_le _, Nat.zero_le _⟩).run ?_
    refine b_ifeq (tgt := 24) hx hb dX12_set_15 (by decide) (fun c2 => ?_) (fun c2 => ?_)
    · refine lv_iload_n hx hb dX12_set_24 rfl (lv_at hl 2 rfl) ?_
      refine lv_iconst (v := 0) hx hb dX12_set_25 (by decide) ?_
      refine lv_aload_n hx hb dX12_set_26 rfl (lv_at hl 0 rfl) ?_
      refine va_get (D := D) (ci := 11) (v := .ref (A0 2)) (C := RX12) (T := TX12) (N := 21) hx hb hts u_X12_set_X12 hown hK.1 hP 0 rfl rfl 1 (by decide) (hts (.fieldLink RX12 13 "NoticeWeekModel" "many" "[I") (List.mem_of_getElem? (i := 2) rfl)) (fun _ h9 => h9) rfl dX12_set_27 ?_
      refine lv_iload_n hx hb dX12_set_30 rfl (lv_at hl 1 rfl) ?_
      refine b_ald hx hb hK hP 2 rfl (by omega) (by decide) dX12_set_31 ?_
      refine lv_iconst (v := 1) hx hb dX12_set_32 (by decide) ?_
      refine lv_isub hx hb dX12_set_33 ?_
      refine b_call (va_runS (As := [.int i, .int 0, .int ((ma r) - 1)]) (rest := []) ⟨hx, hb, hml, hown, hts⟩ (c_X12_in l D cI cZ cT i 0 ((ma r) - 1)) (va_cwS 3 hts gX12_set_X12_in rfl rfl rfl (by decide +kernel) ⟨(Nat.le_of_ble_eq_true rfl), (Nat.le_of_ble_eq_true rfl)⟩) (b_pS0 hK) rfl rfl hl.1 rfl (lv_room (Nat.le_of_ble_eq_true rfl)) dX12_set_34 ⟨Nat.zero_le _, Nat.zero_le _⟩).run ?_
      refine b_ifne (tgt := 46) hx hb dX12_set_37 (by decide) (fun c3 => ?_) (fun c3 => ?_)
      · have hc9 := c3
        rw [hmr] at hc9
        obtain ⟨iv, hh_iv, rfl⟩ : ∃ r : Nat, r ≤ 39 ∧ i = nI r := i_below hnr hc9.1 hc9.2
        have hl : lv_has ls 4 [(0, .ref (A0 0)), (1, .int (nI (r))), (2, .int (nI (iv))), (3, .int v)] := hl
        have hti : tn (nI iv) = iv := tn_nI hh_iv
        refine lv_aload_n hx hb dX12_set_46 rfl (lv_at hl 0 rfl) ?_
        refine va_get (D := D) (ci := 11) (v := .ref (A0 3)) (C := RX12) (T := TX12) (N := 21) hx hb hts u_X12_set_X12 hown hK.1 hP 0 rfl rfl 2 (by decide) (hts (.fieldLink RX12 16 "NoticeWeekModel" "items" "[I") (List.mem_of_getElem? (i := 3) rfl)) (fun _ h9 => h9) rfl dX12_set_47 ?_
        refine lv_bipush (v := (nI 40)) hx hb dX12_set_50 (by decide) ?_
        refine lv_iload_n hx hb dX12_set_52 rfl (lv_at hl 1 rfl) ?_
        refine b_mul hx hb dX12_set_53 ?_
        refine lv_iload_n hx hb dX12_set_54 rfl (lv_at hl 2 rfl) ?_
        refine b_add hx hb dX12_set_55 ?_
        refine lv_aload_n hx hb dX12_set_56 rfl (lv_at hl 0 rfl) ?_
        refine va_get (D := D) (ci := 11) (v := .ref (A0 1)) (C := RX12) (T := TX12) (N := 21) hx hb hts u_X12_set_X12 hown hK.1 hP 0 rfl rfl 0 (by decide) (hts (.fieldLink RX12 7 "NoticeWeekModel" "lane" "[I") (List.mem_of_getElem? (i := 4) rfl)) (fun _ h9 => h9) rfl dX12_set_57 ?_
        refine lv_iload_n hx hb dX12_set_60 rfl (lv_at hl 1 rfl) ?_
        refine b_ald hx hb hK hP 1 rfl (by omega) (by decide) dX12_set_61 ?_
        refine lv_iload_n hx hb dX12_set_62 rfl (lv_at hl 3 rfl) ?_
        refine b_call (va_runS (As := [.int (la r), .int v]) (rest := [.int (nI (40 * r + iv)), .ref (A0 3)]) ⟨hx, hb, hml, hown, hts⟩ (c_X12_cut l D cI cZ cT (la r) v) (va_cwS 2 hts gX12_set_X12_cut rfl rfl rfl (by decide +kernel) ⟨(Nat.le_of_ble_eq_true rfl), (Nat.le_of_ble_eq_true rfl)⟩) (b_pS0 hK) rfl rfl hl.1 rfl (lv_room (Nat.le_of_ble_eq_true rfl)) dX12_set_63 ⟨Nat.zero_le _, Nat.zero_le _⟩).run ?_
        refine b_ast hx hb hK hP hD hS 3 rfl (by omega) (by decide) dX12_set_66 (fun H locs hP hS => ?_)
        have hP : va_P D vwCl (wM cI cZ A0 ss tp fk fp ap sp tk vl ac tr la ma (upd it (40 * r + iv) (cutf (la r) v)) sr bt nw dr pa im kp tc) H := hP
        have hD : va_D A (wM cI cZ A0 ss tp fk fp ap sp tk vl ac tr la ma (upd it (40 * r + iv) (cutf (la r) v)) sr bt nw dr pa im kp tc) := hD.sameA [(A0 0), (A0 1), (A0 2), (A0 3), (A0 4), (A0 5), (A0 6), (A0 7), (A0 8), (A0 9), (A0 10), (A0 11)] rfl rfl
        refine lv_aload_n hx hb dX12_set_67 rfl (lv_at hl 0 rfl) ?_
        refine lv_aload_n hx hb dX12_set_68 rfl (lv_at hl 0 rfl) ?_
        refine va_get (D := D) (ci := 11) (v := .ref (A0 3)) (C := RX12) (T := TX12) (N := 21) hx hb hts u_X12_set_X12 hown hK.1 hP 0 rfl rfl 2 (by decide) (hts (.fieldLink RX12 16 "NoticeWeekModel" "items" "[I") (List.mem_of_getElem? (i := 3) rfl)) (fun _ h9 => h9) rfl dX12_set_69 ?_
        refine lv_bipush (v := (nI 40)) hx hb dX12_set_72 (by decide) ?_
        refine lv_iload_n hx hb dX12_set_74 rfl (lv_at hl 1 rfl) ?_
        refine b_mul hx hb dX12_set_75 ?_
        refine lv_iload_n hx hb dX12_set_76 rfl (lv_at hl 2 rfl) ?_
        refine b_add hx hb dX12_set_77 ?_
        refine b_ald hx hb hK hP 3 rfl (by omega) (by decide) dX12_set_78 ?_
        refine b_callM [0, 1, 2, 3, 4, 5, 6, 7, 8, 9, 10, 11] (va_runV (As := [.int ((upd it (40 * r + iv) (cutf (la r) v)) (40 * r + iv))]) (rest := []) ⟨hx, hb, hml, hown, hts⟩ (c_X12_well l D cI cZ cT A0 ss tp fk fp ap sp tk vl ac tr la ma (upd it (40 * r + iv) (cutf (la r) v)) sr bt nw dr pa im kp tc ((upd it (40 * r + iv) (cutf (la r) v)) (40 * r + iv))) (cwV 1 hts gX12_set_X12_well rfl rfl rfl (by decide +kernel) ⟨(Nat.le_of_ble_eq_true rfl), (Nat.le_of_ble_eq_true rfl)⟩) (b_pVM hK hP hD [0, 1, 2, 3, 4, 5, 6, 7, 8, 9, 10, 11] (by decide) rfl rfl 0 rfl rfl) rfl rfl hl.1 rfl (lv_room (Nat.le_of_ble_eq_true rfl)) dX12_set_79 ⟨Nat.zero_le _, Nat.zero_le _⟩).run hP hD hS rfl (Nat.le_of_ble_eq_true rfl) (fun H locs hP hS => ?_)
        have hP : va_P D vwCl (wM cI cZ A0 0 tp fk fp ap sp tk vl ac tr la ma (upd it (40 * r + iv) (cutf (la r) v)) sr bt nw dr pa im kp tc) H := hP
        have hD : va_D A (wM cI cZ A0 0 tp fk fp ap sp tk vl ac tr la ma (upd it (40 * r + iv) (cutf (la r) v)) sr bt nw dr pa im kp tc) := hD.sameA [(A0 0), (A0 1), (A0 2), (A0 3), (A0 4), (A0 5), (A0 6), (A0 7), (A0 8), (A0 9), (A0 10), (A0 11)] rfl rfl
        have E : m_set ss la ma it (nI r) (nI iv) v = (((upd it (40 * r + iv) (cutf (la r) v)) (40 * r + iv)), 0, (upd it (40 * r + iv) (cutf (la r) v))) := (by first | (simp only [m_set, upd, eq_true c1, eq_false c2, eq_true c3, htr, hti, bI, not_true_eq_false, not_false_eq_true, ite_true, ite_false, if_true, if_false, and_self, and_true, true_and, false_and, and_false, or_true, true_or, or_false, false_or, eq_self]; done) | (simp [m_set, upd, eq_true c1, eq_false c2, eq_true c3, htr, hti, bI]; done))
        rw [E]
        exact b_retM hx hb hr hP hS rfl dX12_set_82 hlocks
      · refine lv_aload_n hx hb dX12_set_40 rfl (lv_at hl 0 rfl) ?_
        refine lv_iconst (v := 2) hx hb dX12_set_41 (by decide) ?_
        refine b_callM [0, 1, 2, 3, 4, 5, 6, 7, 8, 9, 10, 11] (va_runV (As := [.int 2]) (rest := []) ⟨hx, hb, hml, hown, hts⟩ (c_X12_found l D cI cZ cT A0 ss tp fk fp ap sp tk vl ac tr la ma it sr bt nw dr pa im kp tc 2) (cwV 1 hts gX12_set_X12_found rfl rfl rfl (by decide +kernel) ⟨(Nat.le_of_ble_eq_true rfl), (Nat.le_of_ble_eq_true rfl)⟩) (b_pVM hK hP hD [0, 1, 2, 3, 4, 5, 6, 7, 8, 9, 10, 11] (by decide) rfl rfl 0 rfl rfl) rfl rfl hl.1 rfl (lv_room (Nat.le_of_ble_eq_true rfl)) dX12_set_42 ⟨Nat.zero_le _, Nat.zero_le _⟩).run hP hD hS rfl (Nat.le_of_ble_eq_true rfl) (fun H locs hP hS => ?_)
        have hP : va_P D vwCl (wM cI cZ A0 2 tp fk fp ap sp tk vl ac tr la ma it sr bt nw dr pa im kp tc) H := hP
        have hD : va_D A (wM cI cZ A0 2 tp fk fp ap sp tk vl ac tr la ma it sr bt nw dr pa im kp tc) := hD.sameA [(A0 0), (A0 1), (A0 2), (A0 3), (A0 4), (A0 5), (A0 6), (A0 7), (A0 8), (A0 9), (A0 10), (A0 11)] rfl rfl
        have E : m_set ss la ma it (nI r) i v = ((-1000010) - 2, 2, it) := (by first | (simp only [m_set, upd, eq_true c1, eq_false c2, eq_false c3, htr, bI, not_true_eq_false, not_false_eq_true, ite_true, ite_false, if_true, if_false, and_self, and_true, true_and, false_and, and_false, or_true, true_or, or_false, false_or, eq_self]; done) | (simp [m_set, upd, eq_true c1, eq_false c2, eq_false c3, htr, bI]; done))
        rw [E]
        exact b_retM hx hb hr hP hS rfl dX12_set_45 hlocks
    · refine lv_aload_n hx hb dX12_set_18 rfl (lv_at hl 0 rfl) ?_
      refine lv_iconst (v := 1) hx hb dX12_set_19 (by decide) ?_
      refine b_callM [0, 1, 2, 3, 4, 5, 6, 7, 8, 9, 10, 11] (va_runV (As := [.int 1]) (rest := []) ⟨hx, hb, hml, hown, hts⟩ (c_X12_found l D cI cZ cT A0 ss tp fk fp ap sp tk vl ac tr la ma it sr bt nw dr pa im kp tc 1) (cwV 1 hts gX12_set_X12_found rfl rfl rfl (by decide +kernel) ⟨(Nat.le_of_ble_eq_true rfl), (Nat.le_of_ble_eq_true rfl)⟩) (b_pVM hK hP hD [0, 1, 2, 3, 4, 5, 6, 7, 8, 9, 10, 11] (by decide) rfl rfl 0 rfl rfl) rfl rfl hl.1 rfl (lv_room (Nat.le_of_ble_eq_true rfl)) dX12_set_20 ⟨Nat.zero_le _, Nat.zero_le _⟩).run hP hD hS rfl (Nat.le_of_ble_eq_true rfl) (fun H locs hP hS => ?_)
      have hP : va_P D vwCl (wM cI cZ A0 1 tp fk fp ap sp tk vl ac tr la ma it sr bt nw dr pa im kp tc) H := hP
      have hD : va_D A (wM cI cZ A0 1 tp fk fp ap sp tk vl ac tr la ma it sr bt nw dr pa im kp tc) := hD.sameA [(A0 0), (A0 1), (A0 2), (A0 3), (A0 4), (A0 5), (A0 6), (A0 7), (A0 8), (A0 9), (A0 10), (A0 11)] rfl rfl
      have E : m_set ss la ma it (nI r) i v = ((-1000010) - 1, 1, it) := (by first | (simp only [m_set, upd, eq_true c1, eq_true c2, htr, bI, not_true_eq_false, not_false_eq_true, ite_true, ite_false, if_true, if_false, and_self, and_true, true_and, false_and, and_false, or_true, true_or, or_false, false_or, eq_self]; done) | (simp [m_set, upd, eq_true c1, eq_true c2, htr, bI]; done))
      rw [E]
      exact b_retM hx hb hr hP hS rfl dX12_set_23 hlocks
  · refine lv_ldc (v := (-1000001)) hx hb hown (hts (.constant RX12 58 (-1000001)) (List.mem_of_getElem? (i := 1) rfl)) dX12_set_7 ?_
    have E : m_set ss la ma it row i v = ((-1000001), ss, it) := (by first | (simp only [m_set, upd, eq_false c1, bI, not_true_eq_false, not_false_eq_true, ite_true, ite_false, if_true, if_false, and_self, and_true, true_and, false_and, and_false, or_true, true_or, or_false, false_or, eq_self]; done) | (simp [m_set, upd, eq_false c1, bI]; done))
    rw [E]
    exact b_retM hx hb hr hP hS rfl dX12_set_9 hlocks
theorem u_X12_copy_X12 : ∀ w ∈ wsX120, w ∈ wsX12_copy := fun _ h => List.mem_cons_of_mem _ (List.mem_append_right _ h)
set_option maxHeartbeats 4000000 in
set_option maxRecDepth 100000 in
theorem c_X12_copy (l : Launch) (D : va_G) (cI cZ cT : ClassId) (A0 : Nat → Nat) (ss tp fk fp ap sp tk vl ac tr : Int32) (la ma it sr bt nw dr pa im kp tc : Nat → Int32) (a i b j n : Int32) (hM : ∀ r, r ≤ 7 → ∃ n, n ≤ 40 ∧ ma r = nI n) : Met l yX12_copy wsX12_copy ({ frames := 2, cells := 0, slots := 0, locals := 42 }) (pM D cI cZ cT [.ref (A0 0), .int a, .int i, .int b, .int j, .int n] (wM cI cZ A0 ss tp fk fp ap sp tk vl ac tr la ma it sr bt nw dr pa im kp tc)) (qM D (some (.int ((m_copy ss la ma it sr a i b j n).1))) (wM cI cZ A0 ((m_copy ss la ma it sr a i b j n).2.1) tp fk fp ap sp tk vl ac tr la ma ((m_copy ss la ma it sr a i b j n).2.2.1) ((m_copy ss la ma it sr a i b j n).2.2.2) bt nw dr pa im kp tc) (adr (wM cI cZ A0 ss tp fk fp ap sp tk vl ac tr la ma it sr bt nw dr pa im kp tc))) 0 0 (adr (wM cI cZ A0 ss tp fk fp ap sp tk vl ac tr la ma it sr bt nw dr pa im kp tc)) := by
  refine Met.ofW (cc := cX12_copy) (maxL := 7) (ret := (some .int)) (by decide) rfl ?_
  intro p e s m args below meth c s₁ B hml hv
  obtain ⟨rfl, hP, hD0, hK⟩ := hv
  have hx := B.exec
  have hb := B.bytes
  have hr := B.returns
  have hts := atoms_spec (ws := wsX12_copy) B.pre
  have hown : s.vm.findClass RX12 = some m.cls := findClass_of_methodNamed B.named
  have hlocks := B.notSynchronized
  have hD := hD0.toAdr
  have hS : va_S (adr (wM cI cZ A0 ss tp fk fp ap sp tk vl ac tr la ma it sr bt nw dr pa im kp tc)) s.heap s.heap [] := va_S.rf
  generalize adr (wM cI cZ A0 ss tp fk fp ap sp tk vl ac tr la ma it sr bt nw dr pa im kp tc) = A at hD hS ⊢
  have hl := lv_entry ([.ref (A0 0), .int a, .int i, .int b, .int j, .int n]) (n := 7) (Nat.le_of_ble_eq_true rfl)
  rw [lg_entry_eq]
  generalize (lg_sl ([.ref (A0 0), .int a, .int i, .int b, .int j, .int n]) ++ List.replicate (7 - (lg_sl ([.ref (A0 0), .int a, .int i, .int b, .int j, .int n])).length) Slot.unset).toArray = ls at hl ⊢
  have hl : lv_has ls 7 [(0, .ref (A0 0)), (1, .int a), (2, .int i), (3, .int b), (4, .int j), (5, .int n)] := hl
  refine lv_iload_n hx hb dX12_copy_0 rfl (lv_at hl 1 rfl) ?_
  refine b_call (va_runS (As := [.int a]) (rest := []) ⟨hx, hb, hml, hown, hts⟩ (c_X12_isRow l D cI cZ cT a) (va_cwS 1 hts gX12_copy_X12_isRow rfl rfl rfl (by decide +kernel) ⟨(Nat.le_of_ble_eq_true rfl), (Nat.le_of_ble_eq_true rfl)⟩) (b_pS0 hK) rfl rfl hl.1 rfl (lv_room (Nat.le_of_ble_eq_true rfl)) dX12_copy_1 ⟨Nat.zero_le _, Nat.zero_le _⟩).run ?_
  refine b_ifeq (tgt := 14) hx hb dX12_copy_4 (by decide) (fun c1 => ?_) (fun c1 => ?_)
  · refine lv_ldc (v := (-1000001)) hx hb hown (hts (.constant RX12 58 (-1000001)) (List.mem_of_getElem? (i := 1) rfl)) dX12_copy_14 ?_
    have E : m_copy ss la ma it sr a i b j n = ((-1000001), ss, it, sr) := (by first | (simp only [m_copy, eq_false c1, bI, not_true_eq_false, not_false_eq_true, ite_true, ite_false, if_true, if_false, and_self, and_true, true_and, false_and, and_false, or_true, true_or, or_false, false_or, eq_self]; done) | (simp [m_copy, eq_false c1, bI]; done))
    rw [E]
    exact b_retM hx hb hr hP hS rfl dX12_copy_16 hlocks
  · refine lv_iload_n hx hb dX12_copy_7 rfl (lv_at hl 3 rfl) ?_
    refine b_call (va_runS (As := [.int b]) (rest := []) ⟨hx, hb, hml, hown, hts⟩ (c_X12_isRow l D cI cZ cT b) (va_cwS 1 hts gX12_copy_X12_isRow rfl rfl rfl (by decide +kernel) ⟨(Nat.le_of_ble_eq_true rfl), (Nat.le_of_ble_eq_true rfl)⟩) (b_pS0 hK) rfl rfl hl.1 rfl (lv_room (Nat.le_of_ble_eq_true rfl)) dX12_copy_8 ⟨Nat.zero_le _, Nat.zero_le _⟩).run ?_
    refine b_ifne (tgt := 17) hx hb dX12_copy_11 (by decide) (fun c2 => ?_) (fun c2 => ?_)
    · obtain ⟨av, hh_av, rfl⟩ : ∃ r : Nat, r ≤ 7 ∧ a = nI r := i_nat 7 c1.1 c1.2 rfl (by decide)
      have hl : lv_has ls 7 [(0, .ref (A0 0)), (1, .int (nI (av))), (2, .int i), (3, .int b), (4, .int j), (5, .int n)] := hl
      obtain ⟨bv, hh_bv, rfl⟩ : ∃ r : Nat, r ≤ 7 ∧ b = nI r := i_nat 7 c2.1 c2.2 rfl (by decide)
      have hl : lv_has ls 7 [(0, .ref (A0 0)), (1, .int (nI (av))), (2, .int i), (3, .int (nI (bv))), (4, .int j), (5, .int n)] := hl
      have hta : tn (nI av) = av := tn_nI hh_av
      have htb : tn (nI bv) = bv := tn_nI hh_bv
      obtain ⟨na, hna, hma⟩ := hM av hh_av
      obtain ⟨nb, hnb, hmb⟩ := hM bv hh_bv
      refine lv_aload_n hx hb dX12_copy_17 rfl (lv_at hl 0 rfl) ?_
      refine lv_iload_n hx hb dX12_copy_18 rfl (lv_at hl 1 rfl) ?_
      refine b_call (va_runV (As := [.int (nI (av))]) (rest := []) ⟨hx, hb, hml, hown, hts⟩ (c_X12_isMissing l D cI cZ cT A0 ss tp fk fp ap sp tk vl ac tr la ma it sr bt nw dr pa im kp tc av (by omega)) (cwV 1 hts gX12_copy_X12_isMissing rfl rfl rfl (by decide +kernel) ⟨(Nat.le_of_ble_eq_true rfl), (Nat.le_of_ble_eq_true rfl)⟩) (b_pV hK hP [0, 1, 2, 3, 4, 5, 6, 7, 8, 9, 10, 11] rfl 0 rfl rfl) rfl rfl hl.1 rfl (lv_room (Nat.le_of_ble_eq_true rfl)) dX12_copy_19 ⟨Nat.zero_le _, Nat.zero_le _⟩).run ?_
      refine b_ifne (tgt := 33) hx hb dX12_copy_22 (by decide) (fun c3 => ?_) (fun c3 => ?_)
      · refine lv_aload_n hx hb dX12_copy_33 rfl (lv_at hl 0 rfl) ?_
        refine lv_iconst (v := 1) hx hb dX12_copy_34 (by decide) ?_
        refine b_callM [0, 1, 2, 3, 4, 5, 6, 7, 8, 9, 10, 11] (va_runV (As := [.int 1]) (rest := []) ⟨hx, hb, hml, hown, hts⟩ (c_X12_found l D cI cZ cT A0 ss tp fk fp ap sp tk vl ac tr la ma it sr bt nw dr pa im kp tc 1) (cwV 1 hts gX12_copy_X12_found rfl rfl rfl (by decide +kernel) ⟨(Nat.le_of_ble_eq_true rfl), (Nat.le_of_ble_eq_true rfl)⟩) (b_pVM hK hP hD [0, 1, 2, 3, 4, 5, 6, 7, 8, 9, 10, 11] (by decide) rfl rfl 0 rfl rfl) rfl rfl hl.1 rfl (lv_room (Nat.le_of_ble_eq_true rfl)) dX12_copy_35 ⟨Nat.zero_le _, Nat.zero_le _⟩).run hP hD hS rfl (Nat.le_of_ble_eq_true rfl) (fun H locs hP hS => ?_)
        have hP : va_P D vwCl (wM cI cZ A0 1 tp fk fp ap sp tk vl ac tr la ma it sr bt nw dr pa im kp tc) H := hP
        have hD : va_D A (wM cI cZ A0 1 tp fk fp ap sp tk vl ac tr la ma it sr bt nw dr pa im kp tc) := hD.sameA [(A0 0), (A0 1), (A0 2), (A0 3), (A0 4), (A0 5), (A0 6), (A0 7), (A0 8), (A0 9), (A0 10), (A0 11)] rfl rfl
        have E : m_copy ss la ma it sr (nI av) i (nI bv) j n = ((-1000010) - 1, 1, it, sr) := (by first | (simp only [m_copy, eq_true c1, eq_true c2, eq_true c3, hta, htb, bI, not_true_eq_false, not_false_eq_true, ite_true, ite_false, if_true, if_false, and_self, and_true, true_and, false_and, and_false, or_true, true_or, or_false, false_or, eq_self]; done) | (simp [m_copy, eq_true c1, eq_true c2, eq_true c3, hta, htb, bI]; done))
        rw [E]
        exact b_retM hx hb hr hP hS rfl dX12_copy_38 hlocks
      · refine lv_aload_n hx hb dX12_copy_25 rfl (lv_at hl 0 rfl) ?_
        refine lv_iload_n hx hb dX12_copy_26 rfl (lv_at hl 3 rfl) ?_
        refine b_call (va_runV (As := [.int (nI (bv))]) (rest := []) ⟨hx, hb, hml, hown, hts⟩ (c_X12_isMissing l D cI cZ cT A0 ss tp fk fp ap sp tk vl ac tr la ma it sr bt nw dr pa im kp tc bv (by omega)) (cwV 1 hts gX12_copy_X12_isMissing rfl rfl rfl (by decide +kernel) ⟨(Nat.le_of_ble_eq_true rfl), (Nat.le_of_ble_eq_true rfl)⟩) (b_pV hK hP [0, 1, 2, 3, 4, 5, 6, 7, 8, 9, 10, 11] rfl 0 rfl rfl) rfl rfl hl.1 rfl (lv_room (Nat.le_of_ble_eq_true rfl)) dX12_copy_27 ⟨Nat.zero_le _, Nat.zero_le _⟩).run ?_
        refine b_ifeq (tgt := 39) hx hb dX12_copy_30 (by decide) (fun c4 => ?_) (fun c4 => ?_)
        · refine lv_aload_n hx hb dX12_copy_39 rfl (lv_at hl 0 rfl) ?_
          refine va_get (D := D) (ci := 11) (v := .ref (A0 1)) (C := RX12) (T := TX12) (N := 21) hx hb hts u_X12_copy_X12 hown hK.1 hP 0 rfl rfl 0 (by decide) (hts (.fieldLink RX12 7 "NoticeWeekModel" "lane" "[I") (List.mem_of_getElem? (i := 2) rfl)) (fun _ h9 => h9) rfl dX12_copy_40 ?_
          refine lv_iload_n hx hb dX12_copy_43 rfl (lv_at hl 1 rfl) ?_
          refine b_ald hx hb hK hP 1 rfl (by omega) (by decide) dX12_copy_44 ?_
          refine lv_aload_n hx hb dX12_copy_45 rfl (lv_at hl 0 rfl) ?_
          refine va_get (D := D) (ci := 11) (v := .ref (A0 1)) (C := RX12) (T := TX12) (N := 21) hx hb hts u_X12_copy_X12 hown hK.1 hP 0 rfl rfl 0 (by decide) (hts (.fieldLink RX12 7 "NoticeWeekModel" "lane" "[I") (List.mem_of_getElem? (i := 2) rfl)) (fun _ h9 => h9) rfl dX12_copy_46 ?_
          refine lv_iload_n hx hb dX12_copy_49 rfl (lv_at hl 3 rfl) ?_
          refine b_ald hx hb hK hP 1 rfl (by omega) (by decide) dX12_copy_50 ?_
          refine lv_icmp_eq (tgt := 60) hx hb dX12_copy_51 (by decide) (fun c5 => ?_) (fun c5 => ?_)
          · refine lv_aload_n hx hb dX12_copy_60 rfl (lv_at hl 0 rfl) ?_
            refine lv_iload_n hx hb dX12_copy_61 rfl (lv_at hl 1 rfl) ?_
            refine lv_iload_n hx hb dX12_copy_62 rfl (lv_at hl 2 rfl) ?_
            refine lv_iload hx hb dX12_copy_63 (lv_at hl 5 rfl) ?_
            refine b_call (va_runV (As := [.int (nI (av)), .int i, .int n]) (rest := []) ⟨hx, hb, hml, hown, hts⟩ (c_X12_isPart l D cI cZ cT A0 ss tp fk fp ap sp tk vl ac tr la ma it sr bt nw dr pa im kp tc av i n (by omega)) (cwV 3 hts gX12_copy_X12_isPart rfl rfl rfl (by decide +kernel) ⟨(Nat.le_of_ble_eq_true rfl), (Nat.le_of_ble_eq_true rfl)⟩) (b_pV hK hP [0, 1, 2, 3, 4, 5, 6, 7, 8, 9, 10, 11] rfl 0 rfl rfl) rfl rfl hl.1 rfl (lv_room (Nat.le_of_ble_eq_true rfl)) dX12_copy_65 ⟨Nat.zero_le _, Nat.zero_le _⟩).run ?_
            refine b_ifeq (tgt := 83) hx hb dX12_copy_68 (by decide) (fun c6 => ?_) (fun c6 => ?_)
            · refine lv_aload_n hx hb dX12_copy_83 rfl (lv_at hl 0 rfl) ?_
              refine lv_iconst (v := 2) hx hb dX12_copy_84 (by decide) ?_
              refine b_callM [0, 1, 2, 3, 4, 5, 6, 7, 8, 9, 10, 11] (va_runV (As := [.int 2]) (rest := []) ⟨hx, hb, hml, hown, hts⟩ (c_X12_found l D cI cZ cT A0 ss tp fk fp ap sp tk vl ac tr la ma it sr bt nw dr pa im kp tc 2) (cwV 1 hts gX12_copy_X12_found rfl rfl rfl (by decide +kernel) ⟨(Nat.le_of_ble_eq_true rfl), (Nat.le_of_ble_eq_true rfl)⟩) (b_pVM hK hP hD [0, 1, 2, 3, 4, 5, 6, 7, 8, 9, 10, 11] (by decide) rfl rfl 0 rfl rfl) rfl rfl hl.1 rfl (lv_room (Nat.le_of_ble_eq_true rfl)) dX12_copy_85 ⟨Nat.zero_le _, Nat.zero_le _⟩).run hP hD hS rfl (Nat.le_of_ble_eq_true rfl) (fun H locs hP hS => ?_)
              have hP : va_P D vwCl (wM cI cZ A0 2 tp fk fp ap sp tk vl ac tr la ma it sr bt nw dr pa im kp tc) H := hP
              have hD : va_D A (wM cI cZ A0 2 tp fk fp ap sp tk vl ac tr la ma it sr bt nw dr pa im kp tc) := hD.sameA [(A0 0), (A0 1), (A0 2), (A0 3), (A0 4), (A0 5), (A0 6), (A0 7), (A0 8), (A0 9), (A0 10), (A0 11)] rfl rfl
              have E : m_copy ss la ma it sr (nI av) i (nI bv) j n = ((-1000010) - 2, 2, it, sr) := (by first | (simp only [m_copy, eq_true c1, eq_true c2, eq_false c3, eq_false c4, eq_true c5, eq_false c6, hta, htb, bI, not_true_eq_false, not_false_eq_true, ite_true, ite_false, if_true, if_false, and_self, and_true, true_and, false_and, and_false, or_true, true_or, or_false, false_or, eq_self]; done) | (simp [m_copy, eq_true c1, eq_true c2, eq_false c3, eq_false c4, eq_true c5, eq_false c6, hta, htb, bI]; done))
              rw [E]
              exact b_retM hx hb hr hP hS rfl dX12_copy_88 hlocks
            · refine lv_aload_n hx hb dX12_copy_71 rfl (lv_at hl 0 rfl) ?_
              refine lv_iload_n hx hb dX12_copy_72 rfl (lv_at hl 3 rfl) ?_
              refine lv_iload hx hb dX12_copy_73 (lv_at hl 4 rfl) ?_
              refine lv_iload hx hb dX12_copy_75 (lv_at hl 5 rfl) ?_
              refine b_call (va_runV (As := [.int (nI (bv)), .int j, .int n]) (rest := []) ⟨hx, hb, hml, hown, hts⟩ (c_X12_isPart l D cI cZ cT A0 ss tp fk fp ap sp tk vl ac tr la ma it sr bt nw dr pa im kp tc bv j n (by omega)) (cwV 3 hts gX12_copy_X12_isPart rfl rfl rfl (by decide +kernel) ⟨(Nat.le_of_ble_eq_true rfl), (Nat.le_of_ble_eq_true rfl)⟩) (b_pV hK hP [0, 1, 2, 3, 4, 5, 6, 7, 8, 9, 10, 11] rfl 0 rfl rfl) rfl rfl hl.1 rfl (lv_room (Nat.le_of_ble_eq_true rfl)) dX12_copy_77 ⟨Nat.zero_le _, Nat.zero_le _⟩).run ?_
              refine b_ifne (tgt := 89) hx hb dX12_copy_80 (by decide) (fun c7 => ?_) (fun c7 => ?_)
              · have hq1 := c6
                have hq2 := c7
                rw [hma] at hq1
                rw [hmb] at hq2
                obtain ⟨iv, nv, hin, rfl, rfl⟩ := i_part hna hq1
                obtain ⟨jv, nv2, hjn, rfl, hn2⟩ := i_part hnb hq2
                have hn2 : nv = nv2 := (nI_eq (by omega) (by omega)).mp hn2
                subst hn2
                have hl : lv_has ls 7 [(0, .ref (A0 0)), (1, .int (nI (av))), (2, .int (nI (iv))), (3, .int (nI (bv))), (4, .int (nI (jv))), (5, .int (nI (nv)))] := hl
                have htiv : tn (nI iv) = iv := tn_nI (show iv ≤ 40 by omega)
                have htnv : tn (nI nv) = nv := tn_nI (show nv ≤ 40 by omega)
                have htjv : tn (nI jv) = jv := tn_nI (show jv ≤ 40 by omega)
                refine lv_iconst (v := (nI 0)) hx hb dX12_copy_89 (by decide) ?_
                refine lv_istore (lv' := [(6, .int (nI 0)), (0, .ref (A0 0)), (1, .int (nI (av))), (2, .int (nI (iv))), (3, .int (nI (bv))), (4, .int (nI (jv))), (5, .int (nI (nv)))]) hx hb dX12_copy_90 hl (by decide) rfl (fun ls hl => ?_)
                refine b_loopM (N := nv) (I := fun k ls H locs => lv_has ls 7 [(6, .int (nI (k))), (0, .ref (A0 0)), (1, .int (nI (av))), (2, .int (nI (iv))), (3, .int (nI (bv))), (4, .int (nI (jv))), (5, .int (nI (nv)))] ∧ va_P D vwCl (wM cI cZ A0 ss tp fk fp ap sp tk vl ac tr la ma it (itr (fun j f => upd f j (it (40 * av + iv + j))) k sr) bt nw dr pa im kp tc) H ∧ va_S A s.heap H locs) (fun k hk ih8 ls H locs hI => ?_) 0 (by omega) ⟨lv_sub hl [0, 1, 2, 3, 4, 5, 6] rfl, hP, hS⟩
                obtain ⟨hl, hP, hS⟩ := hI
                have hl : lv_has ls 7 [(6, .int (nI (k))), (0, .ref (A0 0)), (1, .int (nI (av))), (2, .int (nI (iv))), (3, .int (nI (bv))), (4, .int (nI (jv))), (5, .int (nI (nv)))] := hl
                have hP : va_P D vwCl (wM cI cZ A0 ss tp fk fp ap sp tk vl ac tr la ma it (itr (fun j f => upd f j (it (40 * av + iv + j))) k sr) bt nw dr pa im kp tc) H := hP
                have hD : va_D A (wM cI cZ A0 ss tp fk fp ap sp tk vl ac tr la ma it (itr (fun j f => upd f j (it (40 * av + iv + j))) k sr) bt nw dr pa im kp tc) := hD.sameA [(A0 0), (A0 1), (A0 2), (A0 3), (A0 4), (A0 5), (A0 6), (A0 7), (A0 8), (A0 9), (A0 10), (A0 11)] rfl rfl
                refine lv_iload hx hb dX12_copy_92 (lv_at hl 0 rfl) ?_
                refine lv_iload hx hb dX12_copy_94 (lv_at hl 6 rfl) ?_
                refine b_ge (tgt := 126) hx hb (by omega) (by omega) dX12_copy_96 (by decide) (fun c9 => ?_) (fun c9 => ?_)
                · have hk1 : k = nv := by omega
                  subst hk1
                  refine lv_iconst (v := (nI 0)) hx hb dX12_copy_126 (by decide) ?_
                  refine lv_istore (lv' := [(6, .int (nI 0)), (0, .ref (A0 0)), (1, .int (nI (av))), (2, .int (nI (iv))), (3, .int (nI (bv))), (4, .int (nI (jv))), (5, .int (nI (k)))]) hx hb dX12_copy_127 hl (by decide) rfl (fun ls hl => ?_)
                  refine b_loopM (N := k) (I := fun k2 ls H locs => lv_has ls 7 [(6, .int (nI (k2))), (0, .ref (A0 0)), (3, .int (nI (bv))), (4, .int (nI (jv))), (5, .int (nI (k)))] ∧ va_P D vwCl (wM cI cZ A0 ss tp fk fp ap sp tk vl ac tr la ma (itr (fun j f => upd f (40 * bv + jv + j) (itr (fun i f => upd f i (it (40 * av + iv + i))) k sr j)) k2 it) (itr (fun j f => upd f j (it (40 * av + iv + j))) k sr) bt nw dr pa im kp tc) H ∧ va_S A s.heap H locs) (fun k2 hk2 ih10 ls H locs hI => ?_) 0 (by omega) ⟨lv_sub hl [0, 1, 4, 5, 6] rfl, hP, hS⟩
                  obtain ⟨hl, hP, hS⟩ := hI
                  have hl : lv_has ls 7 [(6, .int (nI (k2))), (0, .ref (A0 0)), (3, .int (nI (bv))), (4, .int (nI (jv))), (5, .int (nI (k)))] := hl
                  have hP : va_P D vwCl (wM cI cZ A0 ss tp fk fp ap sp tk vl ac tr la ma (itr (fun j f => upd f (40 * bv + jv + j) (itr (fun i f => upd f i (it (40 * av + iv + i))) k sr j)) k2 it) (itr (fun j f => upd f j (it (40 * av + iv + j))) k sr) bt nw dr pa im kp tc) H := hP
                  have hD : va_D A (wM cI cZ A0 ss tp fk fp ap sp tk vl ac tr la ma (itr (fun j f => upd f (40 * bv + jv + j) (itr (fun i f => upd f i (it (40 * av + iv + i))) k sr j)) k2 it) (itr (fun j f => upd f j (it (40 * av + iv + j))) k sr) bt nw dr pa im kp tc) := hD.sameA [(A0 0), (A0 1), (A0 2), (A0 3), (A0 4), (A0 5), (A0 6), (A0 7), (A0 8), (A0 9), (A0 10), (A0 11)] rfl rfl
                  refine lv_iload hx hb dX12_copy_129 (lv_at hl 0 rfl) ?_
                  refine lv_iload hx hb dX12_copy_131 (lv_at hl 4 rfl) ?_
                  refine b_ge (tgt := 164) hx hb (by omega) (by omega) dX12_copy_133 (by decide) (fun c11 => ?_) (fun c11 => ?_)
                  · have hk2 : k2 = k := by omega
                    subst hk2
                    refine lv_aload_n hx hb dX12_copy_164 rfl (lv_at hl 1 rfl) ?_
                    refine lv_iload hx hb dX12_copy_165 (lv_at hl 4 rfl) ?_
                    refine b_callM [0, 1, 2, 3, 4, 5, 6, 7, 8, 9, 10, 11] (va_runV (As := [.int (nI (k2))]) (rest := []) ⟨hx, hb, hml, hown, hts⟩ (c_X12_well l D cI cZ cT A0 ss tp fk fp ap sp tk vl ac tr la ma (itr (fun j f => upd f (40 * bv + jv + j) (itr (fun i f => upd f i (it (40 * av + iv + i))) k2 sr j)) k2 it) (itr (fun j f => upd f j (it (40 * av + iv + j))) k2 sr) bt nw dr pa im kp tc (nI (k2))) (cwV 1 hts gX12_copy_X12_well rfl rfl rfl (by decide +kernel) ⟨(Nat.le_of_ble_eq_true rfl), (Nat.le_of_ble_eq_true rfl)⟩) (b_pVM hK hP hD [0, 1, 2, 3, 4, 5, 6, 7, 8, 9, 10, 11] (by decide) rfl rfl 0 rfl rfl) rfl rfl hl.1 rfl (lv_room (Nat.le_of_ble_eq_true rfl)) dX12_copy_167 ⟨Nat.zero_le _, Nat.zero_le _⟩).run hP hD hS rfl (Nat.le_of_ble_eq_true rfl) (fun H locs hP hS => ?_)
                    have hP : va_P D vwCl (wM cI cZ A0 0 tp fk fp ap sp tk vl ac tr la ma (itr (fun j f => upd f (40 * bv + jv + j) (itr (fun i f => upd f i (it (40 * av + iv + i))) k2 sr j)) k2 it) (itr (fun j f => upd f j (it (40 * av + iv + j))) k2 sr) bt nw dr pa im kp tc) H := hP
                    have hD : va_D A (wM cI cZ A0 0 tp fk fp ap sp tk vl ac tr la ma (itr (fun j f => upd f (40 * bv + jv + j) (itr (fun i f => upd f i (it (40 * av + iv + i))) k2 sr j)) k2 it) (itr (fun j f => upd f j (it (40 * av + iv + j))) k2 sr) bt nw dr pa im kp tc) := hD.sameA [(A0 0), (A0 1), (A0 2), (A0 3), (A0 4), (A0 5), (A0 6), (A0 7), (A0 8), (A0 9), (A0 10), (A0 11)] rfl rfl
                    have E : m_copy ss la ma it sr (nI av) (nI iv) (nI bv) (nI jv) (nI k2) = ((nI (k2)), 0, (itr (fun j f => upd f (40 * bv + jv + j) (itr (fun i f => upd f i (it (40 * av + iv + i))) k2 sr j)) k2 it), (itr (fun j f => upd f j (it (40 * av + iv + j))) k2 sr)) := (by first | (simp only [m_copy, eq_true c1, eq_true c2, eq_false c3, eq_false c4, eq_true c5, eq_true c6, eq_true c7, eq_true c9, eq_true c11, hta, htb, htiv, htjv, htnv, bI, not_true_eq_false, not_false_eq_true, ite_true, ite_false, if_true, if_false, and_self, and_true, true_and, false_and, and_false, or_true, true_or, or_false, false_or, eq_self]; done) | (simp [m_copy, eq_true c1, eq_true c2, eq_false c3, eq_false c4, eq_true c5, eq_true c6, eq_true c7, eq_true c9, eq_true c11, hta, htb, htiv, htjv, htnv, bI]; done))
                    rw [E]
                    exact b_retM hx hb hr hP hS rfl dX12_copy_170 hlocks
                  · refine lv_aload_n hx hb dX12_copy_136 rfl (lv_at hl 1 rfl) ?_
                    refine va_get (D := D) (ci := 11) (v := .ref (A0 3)) (C := RX12) (T := TX12) (N := 21) hx hb hts u_X12_copy_X12 hown hK.1 hP 0 rfl rfl 2 (by decide) (hts (.fieldLink RX12 16 "NoticeWeekModel" "items" "[I") (List.mem_of_getElem? (i := 4) rfl)) (fun _ h9 => h9) rfl dX12_copy_137 ?_
                    refine lv_bipush (v := (nI 40)) hx hb dX12_copy_140 (by decide) ?_
                    refine lv_iload_n hx hb dX12_copy_142 rfl (lv_at hl 2 rfl) ?_
                    refine b_mul hx hb dX12_copy_143 ?_
                    refine lv_iload hx hb dX12_copy_144 (lv_at hl 3 rfl) ?_
                    refine b_add hx hb dX12_copy_146 ?_
                    refine lv_iload hx hb dX12_copy_147 (lv_at hl 0 rfl) ?_
                    refine b_add hx hb dX12_copy_149 ?_
                    refine lv_aload_n hx hb dX12_copy_150 rfl (lv_at hl 1 rfl) ?_
                    refine va_get (D := D) (ci := 11) (v := .ref (A0 4)) (C := RX12) (T := TX12) (N := 21) hx hb hts u_X12_copy_X12 hown hK.1 hP 0 rfl rfl 3 (by decide) (hts (.fieldLink RX12 19 "NoticeWeekModel" "spare" "[I") (List.mem_of_getElem? (i := 3) rfl)) (fun _ h9 => h9) rfl dX12_copy_151 ?_
                    refine lv_iload hx hb dX12_copy_154 (lv_at hl 0 rfl) ?_
                    refine b_ald hx hb hK hP 4 rfl (by omega) (by decide) dX12_copy_156 ?_
                    refine b_ast hx hb hK hP hD hS 3 rfl (by omega) (by decide) dX12_copy_157 (fun H locs hP hS => ?_)
                    have hP : va_P D vwCl (wM cI cZ A0 ss tp fk fp ap sp tk vl ac tr la ma (upd (itr (fun j f => upd f (40 * bv + jv + j) (itr (fun i f => upd f i (it (40 * av + iv + i))) k sr j)) k2 it) (40 * bv + jv + k2) ((itr (fun j f => upd f j (it (40 * av + iv + j))) k sr) k2)) (itr (fun j f => upd f j (it (40 * av + iv + j))) k sr) bt nw dr pa im kp tc) H := hP
                    have hD : va_D A (wM cI cZ A0 ss tp fk fp ap sp tk vl ac tr la ma (upd (itr (fun j f => upd f (40 * bv + jv + j) (itr (fun i f => upd f i (it (40 * av + iv + i))) k sr j)) k2 it) (40 * bv + jv + k2) ((itr (fun j f => upd f j (it (40 * av + iv + j))) k sr) k2)) (itr (fun j f => upd f j (it (40 * av + iv + j))) k sr) bt nw dr pa im kp tc) := hD.sameA [(A0 0), (A0 1), (A0 2), (A0 3), (A0 4), (A0 5), (A0 6), (A0 7), (A0 8), (A0 9), (A0 10), (A0 11)] rfl rfl
                    refine lv_iinc (v := (nI (k2 + 1))) (lv' := [(6, .int (nI (k2 + 1))), (0, .ref (A0 0)), (3, .int (nI (bv))), (4, .int (nI (jv))), (5, .int (nI (k)))]) hx hb dX12_copy_158 hl (k := 0) rfl (nI_add _ _) (by decide) rfl (fun ls hl => ?_)
                    refine lv_goto (tgt := 129) hx hb dX12_copy_161 (by decide) ?_
                    exact ih10 (by omega) ls H locs ⟨lv_sub hl [0, 1, 2, 3, 4] rfl, hP, hS⟩
                · refine lv_aload_n hx hb dX12_copy_99 rfl (lv_at hl 1 rfl) ?_
                  refine va_get (D := D) (ci := 11) (v := .ref (A0 4)) (C := RX12) (T := TX12) (N := 21) hx hb hts u_X12_copy_X12 hown hK.1 hP 0 rfl rfl 3 (by decide) (hts (.fieldLink RX12 19 "NoticeWeekModel" "spare" "[I") (List.mem_of_getElem? (i := 3) rfl)) (fun _ h9 => h9) rfl dX12_copy_100 ?_
                  refine lv_iload hx hb dX12_copy_103 (lv_at hl 0 rfl) ?_
                  refine lv_aload_n hx hb dX12_copy_105 rfl (lv_at hl 1 rfl) ?_
                  refine va_get (D := D) (ci := 11) (v := .ref (A0 3)) (C := RX12) (T := TX12) (N := 21) hx hb hts u_X12_copy_X12 hown hK.1 hP 0 rfl rfl 2 (by decide) (hts (.fieldLink RX12 16 "NoticeWeekModel" "items" "[I") (List.mem_of_getElem? (i := 4) rfl)) (fun _ h9 => h9) rfl dX12_copy_106 ?_
                  refine lv_bipush (v := (nI 40)) hx hb dX12_copy_109 (by decide) ?_
                  refine lv_iload_n hx hb dX12_copy_111 rfl (lv_at hl 2 rfl) ?_
                  refine b_mul hx hb dX12_copy_112 ?_
                  refine lv_iload_n hx hb dX12_copy_113 rfl (lv_at hl 3 rfl) ?_
                  refine b_add hx hb dX12_copy_114 ?_
                  refine lv_iload hx hb dX12_copy_115 (lv_at hl 0 rfl) ?_
                  refine b_add hx hb dX12_copy_117 ?_
                  refine b_ald hx hb hK hP 3 rfl (by omega) (by decide) dX12_copy_118 ?_
                  refine b_ast hx hb hK hP hD hS 4 rfl (by omega) (by decide) dX12_copy_119 (fun H locs hP hS => ?_)
                  have hP : va_P D vwCl (wM cI cZ A0 ss tp fk fp ap sp tk vl ac tr la ma it (upd (itr (fun j f => upd f j (it (40 * av + iv + j))) k sr) k (it (40 * av + iv + k))) bt nw dr pa im kp tc) H := hP
                  have hD : va_D A (wM cI cZ A0 ss tp fk fp ap sp tk vl ac tr la ma it (upd (itr (fun j f => upd f j (it (40 * av + iv + j))) k sr) k (it (40 * av + iv + k))) bt nw dr pa im kp tc) := hD.sameA [(A0 0), (A0 1), (A0 2), (A0 3), (A0 4), (A0 5), (A0 6), (A0 7), (A0 8), (A0 9), (A0 10), (A0 11)] rfl rfl
                  refine lv_iinc (v := (nI (k + 1))) (lv' := [(6, .int (nI (k + 1))), (0, .ref (A0 0)), (1, .int (nI (av))), (2, .int (nI (iv))), (3, .int (nI (bv))), (4, .int (nI (jv))), (5, .int (nI (nv)))]) hx hb dX12_copy_120 hl (k := 0) rfl (nI_add _ _) (by decide) rfl (fun ls hl => ?_)
                  refine lv_goto (tgt := 92) hx hb dX12_copy_123 (by decide) ?_
                  exact ih8 (by omega) ls H locs ⟨lv_sub hl [0, 1, 2, 3, 4, 5, 6] rfl, hP, hS⟩
              · refine lv_aload_n hx hb dX12_copy_83 rfl (lv_at hl 0 rfl) ?_
                refine lv_iconst (v := 2) hx hb dX12_copy_84 (by decide) ?_
                refine b_callM [0, 1, 2, 3, 4, 5, 6, 7, 8, 9, 10, 11] (va_runV (As := [.int 2]) (rest := []) ⟨hx, hb, hml, hown, hts⟩ (c_X12_found l D cI cZ cT A0 ss tp fk fp ap sp tk vl ac tr la ma it sr bt nw dr pa im kp tc 2) (cwV 1 hts gX12_copy_X12_found rfl rfl rfl (by decide +kernel) ⟨(Nat.le_of_ble_eq_true rfl), (Nat.le_of_ble_eq_true rfl)⟩) (b_pVM hK hP hD [0, 1, 2, 3, 4, 5, 6, 7, 8, 9, 10, 11] (by decide) rfl rfl 0 rfl rfl) rfl rfl hl.1 rfl (lv_room (Nat.le_of_ble_eq_true rfl)) dX12_copy_85 ⟨Nat.zero_le _, Nat.zero_le _⟩).run hP hD hS rfl (Nat.le_of_ble_eq_true rfl) (fun H locs hP hS => ?_)
                have hP : va_P D vwCl (wM cI cZ A0 2 tp fk fp ap sp tk vl ac tr la ma it sr bt nw dr pa im kp tc) H := hP
                have hD : va_D A (wM cI cZ A0 2 tp fk fp ap sp tk vl ac tr la ma it sr bt nw dr pa im kp tc) := hD.sameA [(A0 0), (A0 1), (A0 2), (A0 3), (A0 4), (A0 5), (A0 6), (A0 7), (A0 8), (A0 9), (A0 10), (A0 11)] rfl rfl
                have E : m_copy ss la ma it sr (nI av) i (nI bv) j n = ((-1000010) - 2, 2, it, sr) := (by first | (simp only [m_copy, eq_true c1, eq_true c2, eq_false c3, eq_false c4, eq_true c5, eq_true c6, eq_false c7, hta, htb, bI, not_true_eq_false, not_false_eq_true, ite_true, ite_false, if_true, if_false, and_self, and_true, true_and, false_and, and_false, or_true, true_or, or_false, false_or, eq_self]; done) | (simp [m_copy, eq_true c1, eq_true c2, eq_false c3, eq_false c4, eq_true c5, eq_true c6, eq_false c7, hta, htb, bI]; done))
                rw [E]
                exact b_retM hx hb hr hP hS rfl dX12_copy_88 hlocks
          · refine lv_aload_n hx hb dX12_copy_54 rfl (lv_at hl 0 rfl) ?_
            refine lv_iconst (v := 5) hx hb dX12_copy_55 (by decide) ?_
            refine b_callM [0, 1, 2, 3, 4, 5, 6, 7, 8, 9, 10, 11] (va_runV (As := [.int 5]) (rest := []) ⟨hx, hb, hml, hown, hts⟩ (c_X12_found l D cI cZ cT A0 ss tp fk fp ap sp tk vl ac tr la ma it sr bt nw dr pa im kp tc 5) (cwV 1 hts gX12_copy_X12_found rfl rfl rfl (by decide +kernel) ⟨(Nat.le_of_ble_eq_true rfl), (Nat.le_of_ble_eq_true rfl)⟩) (b_pVM hK hP hD [0, 1, 2, 3, 4, 5, 6, 7, 8, 9, 10, 11] (by decide) rfl rfl 0 rfl rfl) rfl rfl hl.1 rfl (lv_room (Nat.le_of_ble_eq_true rfl)) dX12_copy_56 ⟨Nat.zero_le _, Nat.zero_le _⟩).run hP hD hS rfl (Nat.le_of_ble_eq_true rfl) (fun H locs hP hS => ?_)
            have hP : va_P D vwCl (wM cI cZ A0 5 tp fk fp ap sp tk vl ac tr la ma it sr bt nw dr pa im kp tc) H := hP
            have hD : va_D A (wM cI cZ A0 5 tp fk fp ap sp tk vl ac tr la ma it sr bt nw dr pa im kp tc) := hD.sameA [(A0 0), (A0 1), (A0 2), (A0 3), (A0 4), (A0 5), (A0 6), (A0 7), (A0 8), (A0 9), (A0 10), (A0 11)] rfl rfl
            have E : m_copy ss la ma it sr (nI av) i (nI bv) j n = ((-1000010) - 5, 5, it, sr) := (by first | (simp only [m_copy, eq_true c1, eq_true c2, eq_false c3, eq_false c4, eq_false c5, hta, htb, bI, not_true_eq_false, not_false_eq_true, ite_true, ite_false, if_true, if_false, and_self, and_true, true_and, false_and, and_false, or_true, true_or, or_false, false_or, eq_self]; done) | (simp [m_copy, eq_true c1, eq_true c2, eq_false c3, eq_false c4, eq_false c5, hta, htb, bI]; done))
            rw [E]
            exact b_retM hx hb hr hP hS rfl dX12_copy_59 hlocks
        · refine lv_aload_n hx hb dX12_copy_33 rfl (lv_at hl 0 rfl) ?_
          refine lv_iconst (v := 1) hx hb dX12_copy_34 (by decide) ?_
          refine b_callM [0, 1, 2, 3, 4, 5, 6, 7, 8, 9, 10, 11] (va_runV (As := [.int 1]) (rest := []) ⟨hx, hb, hml, hown, hts⟩ (c_X12_found l D cI cZ cT A0 ss tp fk fp ap sp tk vl ac tr la ma it sr bt nw dr pa im kp tc 1) (cwV 1 hts gX12_copy_X12_found rfl rfl rfl (by decide +kernel) ⟨(Nat.le_of_ble_eq_true rfl), (Nat.le_of_ble_eq_true rfl)⟩) (b_pVM hK hP hD [0, 1, 2, 3, 4, 5, 6, 7, 8, 9, 10, 11] (by decide) rfl rfl 0 rfl rfl) rfl rfl hl.1 rfl (lv_room (Nat.le_of_ble_eq_true rfl)) dX12_copy_35 ⟨Nat.zero_le _, Nat.zero_le _⟩).run hP hD hS rfl (Nat.le_of_ble_eq_true rfl) (fun H locs hP hS => ?_)
          have hP : va_P D vwCl (wM cI cZ A0 1 tp fk fp ap sp tk vl ac tr la ma it sr bt nw dr pa im kp tc) H := hP
          have hD : va_D A (wM cI cZ A0 1 tp fk fp ap sp tk vl ac tr la ma it sr bt nw dr pa im kp tc) := hD.sameA [(A0 0), (A0 1), (A0 2), (A0 3), (A0 4), (A0 5), (A0 6), (A0 7), (A0 8), (A0 9), (A0 10), (A0 11)] rfl rfl
          have E : m_copy ss la ma it sr (nI av) i (nI bv) j n = ((-1000010) - 1, 1, it, sr) := (by first | (simp only [m_copy, eq_true c1, eq_true c2, eq_false c3, eq_true c4, hta, htb, bI, not_true_eq_false, not_false_eq_true, ite_true, ite_false, if_true, if_false, and_self, and_true, true_and, false_and, and_false, or_true, true_or, or_false, false_or, eq_self]; done) | (simp [m_copy, eq_true c1, eq_true c2, eq_false c3, eq_true c4, hta, htb, bI]; done))
          rw [E]
          exact b_retM hx hb hr hP hS rfl dX12_copy_38 hlocks
    · refine lv_ldc (v := (-1000001)) hx hb hown (hts (.constant RX12 58 (-1000001)) (List.mem_of_getElem? (i := 1) rfl)) dX12_copy_14 ?_
      have E : m_copy ss la ma it sr a i b j n = ((-1000001), ss, it, sr) := (by first | (simp only [m_copy, eq_true c1, eq_false c2, bI, not_true_eq_false, not_false_eq_true, ite_true, ite_false, if_true, if_false, and_self, and_true, true_and, false_and, and_false, or_true, true_or, or_false, false_or, eq_self]; done) | (simp [m_copy, eq_true c1, eq_false c2, bI]; done))
      rw [E]
      exact b_retM hx hb hr hP hS rfl dX12_copy_16 hlocks
theorem u_X12_drop_X12 : ∀ w ∈ wsX120, w ∈ wsX12_drop := fun _ h => List.mem_cons_of_mem _ (List.mem_append_right _ h)
set_option maxHeartbeats 4000000 in
set_option maxRecDepth 100000 in
theorem c_X12_drop (l : Launch) (D : va_G) (cI cZ cT : ClassId) (A0 : Nat → Nat) (ss tp fk fp ap sp tk vl ac tr : Int32) (la ma it sr bt nw dr pa im kp tc : Nat → Int32) (row : Int32)  : Met l yX12_drop wsX12_drop ({ frames := 2, cells := 0, slots := 0, locals := 42 }) (pM D cI cZ cT [.ref (A0 0), .int row] (wM cI cZ A0 ss tp fk fp ap sp tk vl ac tr la ma it sr bt nw dr pa im kp tc)) (qM D (some (.int ((m_drop ss la ma row).1))) (wM cI cZ A0 ((m_drop ss la ma row).2.1) tp fk fp ap sp tk vl ac tr ((m_drop ss la ma row).2.2) ma it sr bt nw dr pa im kp tc) (adr (wM cI cZ A0 ss tp fk fp ap sp tk vl ac tr la ma it sr bt nw dr pa im kp tc))) 0 0 (adr (wM cI cZ A0 ss tp fk fp ap sp tk vl ac tr la ma it sr bt nw dr pa im kp tc)) := by
  refine Met.ofW (cc := cX12_drop) (maxL := 2) (ret := (some .int)) (by decide) rfl ?_
  intro p e s m args below meth c s₁ B hml hv
  obtain ⟨rfl, hP, hD0, hK⟩ := hv
  have hx := B.exec
  have hb := B.bytes
  have hr := B.returns
  have hts := atoms_spec (ws := wsX12_drop) B.pre
  have hown : s.vm.findClass RX12 = some m.cls := findClass_of_methodNamed B.named
  have hlocks := B.notSynchronized
  have hD := hD0.toAdr
  have hS : va_S (adr (wM cI cZ A0 ss tp fk fp ap sp tk vl ac tr la ma it sr bt nw dr pa im kp tc)) s.heap s.heap [] := va_S.rf
  generalize adr (wM cI cZ A0 ss tp fk fp ap sp tk vl ac tr la ma it sr bt nw dr pa im kp tc) = A at hD hS ⊢
  have hl := lv_entry ([.ref (A0 0), .int row]) (n := 2) (Nat.le_of_ble_eq_true rfl)
  rw [lg_entry_eq]
  generalize (lg_sl ([.ref (A0 0), .int row]) ++ List.replicate (2 - (lg_sl ([.ref (A0 0), .int row])).length) Slot.unset).toArray = ls at hl ⊢
  have hl : lv_has ls 2 [(0, .ref (A0 0)), (1, .int row)] := hl
  refine lv_iload_n hx hb dX12_drop_0 rfl (lv_at hl 1 rfl) ?_
  refine b_call (va_runS (As := [.int row]) (rest := []) ⟨hx, hb, hml, hown, hts⟩ (c_X12_isRow l D cI cZ cT row) (va_cwS 1 hts gX12_drop_X12_isRow rfl rfl rfl (by decide +kernel) ⟨(Nat.le_of_ble_eq_true rfl), (Nat.le_of_ble_eq_true rfl)⟩) (b_pS0 hK) rfl rfl hl.1 rfl (lv_room (Nat.le_of_ble_eq_true rfl)) dX12_drop_1 ⟨Nat.zero_le _, Nat.zero_le _⟩).run ?_
  refine b_ifne (tgt := 10) hx hb dX12_drop_4 (by decide) (fun c1 => ?_) (fun c1 => ?_)
  · obtain ⟨r, hh_r, rfl⟩ : ∃ r : Nat, r ≤ 7 ∧ row = nI r := i_nat 7 c1.1 c1.2 rfl (by decide)
    have hl : lv_has ls 2 [(0, .ref (A0 0)), (1, .int (nI (r)))] := hl
    have htr : tn (nI r) = r := tn_nI hh_r
    refine lv_aload_n hx hb dX12_drop_10 rfl (lv_at hl 0 rfl) ?_
    refine lv_iload_n hx hb dX12_drop_11 rfl (lv_at hl 1 rfl) ?_
    refine b_call (va_runV (As := [.int (nI (r))]) (rest := []) ⟨hx, hb, hml, hown, hts⟩ (c_X12_isMissing l D cI cZ cT A0 ss tp fk fp ap sp tk vl ac tr la ma it sr bt nw dr pa im kp tc r (by omega)) (cwV 1 hts gX12_drop_X12_isMissing rfl rfl rfl (by decide +kernel) ⟨(Nat.le_of_ble_eq_true rfl), (Nat.le_of_ble_eq_true rfl)⟩) (b_pV hK hP [0, 1, 2, 3, 4, 5, 6, 7, 8, 9, 10, 11] rfl 0 rfl rfl) rfl rfl hl.1 rfl (lv_room (Nat.le_of_ble_eq_true rfl)) dX12_drop_12 ⟨Nat.zero_le _, Nat.zero_le _⟩).run ?_
    refine b_ifeq (tgt := 24) hx hb dX12_drop_15 (by decide) (fun c2 => ?_) (fun c2 => ?_)
    · refine lv_aload_n hx hb dX12_drop_24 rfl (lv_at hl 0 rfl) ?_
      refine va_get (D := D) (ci := 11) (v := .ref (A0 1)) (C := RX12) (T := TX12) (N := 21) hx hb hts u_X12_drop_X12 hown hK.1 hP 0 rfl rfl 0 (by decide) (hts (.fieldLink RX12 7 "NoticeWeekModel" "lane" "[I") (List.mem_of_getElem? (i := 2) rfl)) (fun _ h9 => h9) rfl dX12_drop_25 ?_
      refine lv_iload_n hx hb dX12_drop_28 rfl (lv_at hl 1 rfl) ?_
      refine lv_ldc (v := (-1000000)) hx hb hown (hts (.constant RX12 44 (-1000000)) (List.mem_of_getElem? (i := 3) rfl)) dX12_drop_29 ?_
      refine b_ast hx hb hK hP hD hS 1 rfl (by omega) (by decide) dX12_drop_31 (fun H locs hP hS => ?_)
      have hP : va_P D vwCl (wM cI cZ A0 ss tp fk fp ap sp tk vl ac tr (upd la r (-1000000)) ma it sr bt nw dr pa im kp tc) H := hP
      have hD : va_D A (wM cI cZ A0 ss tp fk fp ap sp tk vl ac tr (upd la r (-1000000)) ma it sr bt nw dr pa im kp tc) := hD.sameA [(A0 0), (A0 1), (A0 2), (A0 3), (A0 4), (A0 5), (A0 6), (A0 7), (A0 8), (A0 9), (A0 10), (A0 11)] rfl rfl
      refine lv_aload_n hx hb dX12_drop_32 rfl (lv_at hl 0 rfl) ?_
      refine lv_aload_n hx hb dX12_drop_33 rfl (lv_at hl 0 rfl) ?_
      refine va_get (D := D) (ci := 11) (v := .ref (A0 2)) (C := RX12) (T := TX12) (N := 21) hx hb hts u_X12_drop_X12 hown hK.1 hP 0 rfl rfl 1 (by decide) (hts (.fieldLink RX12 13 "NoticeWeekModel" "many" "[I") (List.mem_of_getElem? (i := 4) rfl)) (fun _ h9 => h9) rfl dX12_drop_34 ?_
      refine lv_iload_n hx hb dX12_drop_37 rfl (lv_at hl 1 rfl) ?_
      refine b_ald hx hb hK hP 2 rfl (by omega) (by decide) dX12_drop_38 ?_
      refine b_callM [0, 1, 2, 3, 4, 5, 6, 7, 8, 9, 10, 11] (va_runV (As := [.int (ma r)]) (rest := []) ⟨hx, hb, hml, hown, hts⟩ (c_X12_well l D cI cZ cT A0 ss tp fk fp ap sp tk vl ac tr (upd la r (-1000000)) ma it sr bt nw dr pa im kp tc (ma r)) (cwV 1 hts gX12_drop_X12_well rfl rfl rfl (by decide +kernel) ⟨(Nat.le_of_ble_eq_true rfl), (Nat.le_of_ble_eq_true rfl)⟩) (b_pVM hK hP hD [0, 1, 2, 3, 4, 5, 6, 7, 8, 9, 10, 11] (by decide) rfl rfl 0 rfl rfl) rfl rfl hl.1 rfl (lv_room (Nat.le_of_ble_eq_true rfl)) dX12_drop_39 ⟨Nat.zero_le _, Nat.zero_le _⟩).run hP hD hS rfl (Nat.le_of_ble_eq_true rfl) (fun H locs hP hS => ?_)
      have hP : va_P D vwCl (wM cI cZ A0 0 tp fk fp ap sp tk vl ac tr (upd la r (-1000000)) ma it sr bt nw dr pa im kp tc) H := hP
      have hD : va_D A (wM cI cZ A0 0 tp fk fp ap sp tk vl ac tr (upd la r (-1000000)) ma it sr bt nw dr pa im kp tc) := hD.sameA [(A0 0), (A0 1), (A0 2), (A0 3), (A0 4), (A0 5), (A0 6), (A0 7), (A0 8), (A0 9), (A0 10), (A0 11)] rfl rfl
      have E : m_drop ss la ma (nI r) = ((ma r), 0, (upd la r (-1000000))) := (by first | (simp only [m_drop, eq_true c1, eq_false c2, htr, bI, not_true_eq_false, not_false_eq_true, ite_true, ite_false, if_true, if_false, and_self, and_true, true_and, false_and, and_false, or_true, true_or, or_false, false_or, eq_self]; done) | (simp [m_drop, eq_true c1, eq_false c2, htr, bI]; done))
      rw [E]
      exact b_retM hx hb hr hP hS rfl dX12_drop_42 hlocks
    · refine lv_aload_n hx hb dX12_drop_18 rfl (lv_at hl 0 rfl) ?_
      refine lv_iconst (v := 1) hx hb dX12_drop_19 (by decide) ?_
      refine b_callM [0, 1, 2, 3, 4, 5, 6, 7, 8, 9, 10, 11] (va_runV (As := [.int 1]) (rest := []) ⟨hx, hb, hml, hown, hts⟩ (c_X12_found l D cI cZ cT A0 ss tp fk fp ap sp tk vl ac tr la ma it sr bt nw dr pa im kp tc 1) (cwV 1 hts gX12_drop_X12_found rfl rfl rfl (by decide +kernel) ⟨(Nat.le_of_ble_eq_true rfl), (Nat.le_of_ble_eq_true rfl)⟩) (b_pVM hK hP hD [0, 1, 2, 3, 4, 5, 6, 7, 8, 9, 10, 11] (by decide) rfl rfl 0 rfl rfl) rfl rfl hl.1 rfl (lv_room (Nat.le_of_ble_eq_true rfl)) dX12_drop_20 ⟨Nat.zero_le _, Nat.zero_le _⟩).run hP hD hS rfl (Nat.le_of_ble_eq_true rfl) (fun H locs hP hS => ?_)
      have hP : va_P D vwCl (wM cI cZ A0 1 tp fk fp ap sp tk vl ac tr la ma it sr bt nw dr pa im kp tc) H := hP
      have hD : va_D A (wM cI cZ A0 1 tp fk fp ap sp tk vl ac tr la ma it sr bt nw dr pa im kp tc) := hD.sameA [(A0 0), (A0 1), (A0 2), (A0 3), (A0 4), (A0 5), (A0 6), (A0 7), (A0 8), (A0 9), (A0 10), (A0 11)] rfl rfl
      have E : m_drop ss la ma (nI r) = ((-1000010) - 1, 1, la) := (by first | (simp only [m_drop, eq_true c1, eq_true c2, htr, bI, not_true_eq_false, not_false_eq_true, ite_true, ite_false, if_true, if_false, and_self, and_true, true_and, false_and, and_false, or_true, true_or, or_false, false_or, eq_self]; done) | (simp [m_drop, eq_true c1, eq_true c2, htr, bI]; done))
      rw [E]
      exact b_retM hx hb hr hP hS rfl dX12_drop_23 hlocks
  · refine lv_ldc (v := (-1000001)) hx hb hown (hts (.constant RX12 58 (-1000001)) (List.mem_of_getElem? (i := 1) rfl)) dX12_drop_7 ?_
    have E : m_drop ss la ma row = ((-1000001), ss, la) := (by first | (simp only [m_drop, eq_false c1, bI, not_true_eq_false, not_false_eq_true, ite_true, ite_false, if_true, if_false, and_self, and_true, true_and, false_and, and_false, or_true, true_or, or_false, false_or, eq_self]; done) | (simp [m_drop, eq_false c1, bI]; done))
    rw [E]
    exact b_retM hx hb hr hP hS rfl dX12_drop_9 hlocks
theorem u_X12_feed_X12 : ∀ w ∈ wsX120, w ∈ wsX12_feed := fun _ h => List.mem_cons_of_mem _ (List.mem_append_right _ h)
set_option maxHeartbeats 4000000 in
set_option maxRecDepth 100000 in
theorem c_X12_feed (l : Launch) (D : va_G) (cI cZ cT : ClassId) (A0 : Nat → Nat) (ss : Int32) (t : Nat) (fk fp ap sp tk vl ac tr : Int32) (la ma it sr bt nw dr pa im kp tc : Nat → Int32) (x : Int32) (ht : t ≤ 120) : Met l yX12_feed wsX12_feed ({ frames := 1, cells := 0, slots := 0, locals := 22 }) (pM D cI cZ cT [.ref (A0 0), .int x] (wM cI cZ A0 ss (nI t) fk fp ap sp tk vl ac tr la ma it sr bt nw dr pa im kp tc)) (qM D (some (.int ((m_feed t bt x).1))) (wM cI cZ A0 ss (nI (m_feed t bt x).2.1) fk fp ap sp tk vl ac tr la ma it sr ((m_feed t bt x).2.2) nw dr pa im kp tc) (adr (wM cI cZ A0 ss (nI t) fk fp ap sp tk vl ac tr la ma it sr bt nw dr pa im kp tc))) 0 0 (adr (wM cI cZ A0 ss (nI t) fk fp ap sp tk vl ac tr la ma it sr bt nw dr pa im kp tc)) := by
  refine Met.ofW (cc := cX12_feed) (maxL := 2) (ret := (some .int)) (by decide) rfl ?_
  intro p e s m args below meth c s₁ B hml hv
  obtain ⟨rfl, hP, hD0, hK⟩ := hv
  have hx := B.exec
  have hb := B.bytes
  have hr := B.returns
  have hts := atoms_spec (ws := wsX12_feed) B.pre
  have hown : s.vm.findClass RX12 = some m.cls := findClass_of_methodNamed B.named
  have hlocks := B.notSynchronized
  have hD := hD0.toAdr
  have hS : va_S (adr (wM cI cZ A0 ss (nI t) fk fp ap sp tk vl ac tr la ma it sr bt nw dr pa im kp tc)) s.heap s.heap [] := va_S.rf
  generalize adr (wM cI cZ A0 ss (nI t) fk fp ap sp tk vl ac tr la ma it sr bt nw dr pa im kp tc) = A at hD hS ⊢
  have hl := lv_entry ([.ref (A0 0), .int x]) (n := 2) (Nat.le_of_ble_eq_true rfl)
  rw [lg_entry_eq]
  generalize (lg_sl ([.ref (A0 0), .int x]) ++ List.replicate (2 - (lg_sl ([.ref (A0 0), .int x])).length) Slot.unset).toArray = ls at hl ⊢
  have hl : lv_has ls 2 [(0, .ref (A0 0)), (1, .int x)] := hl
  refine lv_iload_n hx hb dX12_feed_0 rfl (lv_at hl 1 rfl) ?_
  refine lv_iconst (v := 0) hx hb dX12_feed_1 (by decide) ?_
  refine lv_sipush (v := 255) hx hb dX12_feed_2 (by decide) ?_
  refine b_call (va_runS (As := [.int x, .int 0, .int 255]) (rest := []) ⟨hx, hb, hml, hown, hts⟩ (c_X12_in l D cI cZ cT x 0 255) (va_cwS 3 hts gX12_feed_X12_in rfl rfl rfl (by decide +kernel) ⟨(Nat.le_of_ble_eq_true rfl), (Nat.le_of_ble_eq_true rfl)⟩) (b_pS0 hK) rfl rfl hl.1 rfl (lv_room (Nat.le_of_ble_eq_true rfl)) dX12_feed_5 ⟨Nat.zero_le _, Nat.zero_le _⟩).run ?_
  refine b_ifne (tgt := 14) hx hb dX12_feed_8 (by decide) (fun c1 => ?_) (fun c1 => ?_)
  · refine lv_aload_n hx hb dX12_feed_14 rfl (lv_at hl 0 rfl) ?_
    refine va_get (D := D) (ci := 11) (v := .int (nI (t))) (C := RX12) (T := TX12) (N := 21) hx hb hts u_X12_feed_X12 hown hK.1 hP 0 rfl rfl 6 (by decide) (hts (.fieldLink RX12 76 "NoticeWeekModel" "taped" "I") (List.mem_of_getElem? (i := 2) rfl)) (fun _ h9 => h9) rfl dX12_feed_15 ?_
    refine lv_bipush (v := (nI 120)) hx hb dX12_feed_18 (by decide) ?_
    refine b_ne (tgt := 26) hx hb (by omega) (by omega) dX12_feed_20 (by decide) (fun c2 => ?_) (fun c2 => ?_)
    · refine lv_aload_n hx hb dX12_feed_26 rfl (lv_at hl 0 rfl) ?_
      refine va_get (D := D) (ci := 11) (v := .ref (A0 5)) (C := RX12) (T := TX12) (N := 21) hx hb hts u_X12_feed_X12 hown hK.1 hP 0 rfl rfl 5 (by decide) (hts (.fieldLink RX12 22 "NoticeWeekModel" "tape" "[I") (List.mem_of_getElem? (i := 4) rfl)) (fun _ h9 => h9) rfl dX12_feed_27 ?_
      refine lv_aload_n hx hb dX12_feed_30 rfl (lv_at hl 0 rfl) ?_
      refine va_get (D := D) (ci := 11) (v := .int (nI (t))) (C := RX12) (T := TX12) (N := 21) hx hb hts u_X12_feed_X12 hown hK.1 hP 0 rfl rfl 6 (by decide) (hts (.fieldLink RX12 76 "NoticeWeekModel" "taped" "I") (List.mem_of_getElem? (i := 2) rfl)) (fun _ h9 => h9) rfl dX12_feed_31 ?_
      refine lv_iload_n hx hb dX12_feed_34 rfl (lv_at hl 1 rfl) ?_
      refine b_ast hx hb hK hP hD hS 5 rfl (by omega) (by decide) dX12_feed_35 (fun H locs hP hS => ?_)
      have hP : va_P D vwCl (wM cI cZ A0 ss (nI t) fk fp ap sp tk vl ac tr la ma it sr (upd bt t x) nw dr pa im kp tc) H := hP
      have hD : va_D A (wM cI cZ A0 ss (nI t) fk fp ap sp tk vl ac tr la ma it sr (upd bt t x) nw dr pa im kp tc) := hD.sameA [(A0 0), (A0 1), (A0 2), (A0 3), (A0 4), (A0 5), (A0 6), (A0 7), (A0 8), (A0 9), (A0 10), (A0 11)] rfl rfl
      refine lv_aload_n hx hb dX12_feed_36 rfl (lv_at hl 0 rfl) ?_
      refine lv_dup hx hb dX12_feed_37 rfl ?_
      refine va_get (D := D) (ci := 11) (v := .int (nI (t))) (C := RX12) (T := TX12) (N := 21) hx hb hts u_X12_feed_X12 hown hK.1 hP 0 rfl rfl 6 (by decide) (hts (.fieldLink RX12 76 "NoticeWeekModel" "taped" "I") (List.mem_of_getElem? (i := 2) rfl)) (fun _ h9 => h9) rfl dX12_feed_38 ?_
      refine lv_iconst (v := (nI 1)) hx hb dX12_feed_41 (by decide) ?_
      refine b_add hx hb dX12_feed_42 ?_
      refine b_put (C := RX12) (T := TX12) (N := 21) hx hb hts u_X12_feed_X12 tyX12 tyX12_ok nmX12 hown hK hP hD hS 0 rfl rfl 6 (by decide) (hts (.fieldLink RX12 76 "NoticeWeekModel" "taped" "I") (List.mem_of_getElem? (i := 2) rfl)) rfl (by decide +kernel) (Nat.le_of_ble_eq_true rfl) dX12_feed_43 (fun H locs hP hS => ?_)
      have hP : va_P D vwCl (wM cI cZ A0 ss (nI (t + 1)) fk fp ap sp tk vl ac tr la ma it sr (upd bt t x) nw dr pa im kp tc) H := hP
      have hD : va_D A (wM cI cZ A0 ss (nI (t + 1)) fk fp ap sp tk vl ac tr la ma it sr (upd bt t x) nw dr pa im kp tc) := hD.sameA [(A0 0), (A0 1), (A0 2), (A0 3), (A0 4), (A0 5), (A0 6), (A0 7), (A0 8), (A0 9), (A0 10), (A0 11)] rfl rfl
      refine lv_aload_n hx hb dX12_feed_46 rfl (lv_at hl 0 rfl) ?_
      refine va_get (D := D) (ci := 11) (v := .int (nI (t + 1))) (C := RX12) (T := TX12) (N := 21) hx hb hts u_X12_feed_X12 hown hK.1 hP 0 rfl rfl 6 (by decide) (hts (.fieldLink RX12 76 "NoticeWeekModel" "taped" "I") (List.mem_of_getElem? (i := 2) rfl)) (fun _ h9 => h9) rfl dX12_feed_47 ?_
      have E : m_feed t bt x = ((nI (t + 1)), t + 1, (upd bt t x)) := (by first | (simp only [m_feed, eq_true c1, eq_false c2, bI, not_true_eq_false, not_false_eq_true, ite_true, ite_false, if_true, if_false, and_self, and_true, true_and, false_and, and_false, or_true, true_or, or_false, false_or, eq_self]; done) | (simp [m_feed, eq_true c1, eq_false c2, bI]; done))
      rw [E]
      exact b_retM hx hb hr hP hS rfl dX12_feed_50 hlocks
    · refine lv_ldc (v := (-1000003)) hx hb hown (hts (.constant RX12 79 (-1000003)) (List.mem_of_getElem? (i := 3) rfl)) dX12_feed_23 ?_
      have E : m_feed t bt x = ((-1000003), t, bt) := (by first | (simp only [m_feed, eq_true c1, eq_true c2, bI, not_true_eq_false, not_false_eq_true, ite_true, ite_false, if_true, if_false, and_self, and_true, true_and, false_and, and_false, or_true, true_or, or_false, false_or, eq_self]; done) | (simp [m_feed, eq_true c1, eq_true c2, bI]; done))
      rw [E]
      exact b_retM hx hb hr hP hS rfl dX12_feed_25 hlocks
  · refine lv_ldc (v := (-1000001)) hx hb hown (hts (.constant RX12 58 (-1000001)) (List.mem_of_getElem? (i := 1) rfl)) dX12_feed_11 ?_
    have E : m_feed t bt x = ((-1000001), t, bt) := (by first | (simp only [m_feed, eq_false c1, bI, not_true_eq_false, not_false_eq_true, ite_true, ite_false, if_true, if_false, and_self, and_true, true_and, false_and, and_false, or_true, true_or, or_false, false_or, eq_self]; done) | (simp [m_feed, eq_false c1, bI]; done))
    rw [E]
    exact b_retM hx hb hr hP hS rfl dX12_feed_13 hlocks
theorem u_X12_byteAt_X12 : ∀ w ∈ wsX120, w ∈ wsX12_byteAt := fun _ h => List.mem_cons_of_mem _ (List.mem_append_right _ h)
set_option maxHeartbeats 4000000 in
set_option maxRecDepth 100000 in
theorem c_X12_byteAt (l : Launch) (D : va_G) (cI cZ cT : ClassId) (A0 : Nat → Nat) (ss : Int32) (t : Nat) (fk fp ap sp tk vl ac tr : Int32) (la ma it sr bt nw dr pa im kp tc : Nat → Int32) (k : Nat) (ht : t ≤ 120) (hk : k ≤ 200) : Met l yX12_byteAt wsX12_byteAt ({ frames := 0, cells := 0, slots := 0, locals := 0 }) (pR D cI cZ cT [.ref (A0 0), .int (nI (k))] (wM cI cZ A0 ss (nI t) fk fp ap sp tk vl ac tr la ma it sr bt nw dr pa im kp tc)) (QcRead (byt bt t k)) 0 0 (fun _ => False) := by
  refine Met.ofW (cc := cX12_byteAt) (maxL := 2) (ret := (some .int)) (by decide) rfl ?_
  intro p e s m args below meth c s₁ B hml hv
  obtain ⟨rfl, hP, hK⟩ := hv
  have hx := B.exec
  have hb := B.bytes
  have hr := B.returns
  have hts := atoms_spec (ws := wsX12_byteAt) B.pre
  have hown : s.vm.findClass RX12 = some m.cls := findClass_of_methodNamed B.named
  have hlocks := B.notSynchronized
  have hl := lv_entry ([.ref (A0 0), .int (nI (k))]) (n := 2) (Nat.le_of_ble_eq_true rfl)
  rw [lg_entry_eq]
  generalize (lg_sl ([.ref (A0 0), .int (nI (k))]) ++ List.replicate (2 - (lg_sl ([.ref (A0 0), .int (nI (k))])).length) Slot.unset).toArray = ls at hl ⊢
  have hl : lv_has ls 2 [(0, .ref (A0 0)), (1, .int (nI (k)))] := hl
  refine lv_iload_n hx hb dX12_byteAt_0 rfl (lv_at hl 1 rfl) ?_
  refine lv_aload_n hx hb dX12_byteAt_1 rfl (lv_at hl 0 rfl) ?_
  refine va_get (D := D) (ci := 11) (v := .int (nI (t))) (C := RX12) (T := TX12) (N := 21) hx hb hts u_X12_byteAt_X12 hown hK.1 hP 0 rfl rfl 6 (by decide) (hts (.fieldLink RX12 76 "NoticeWeekModel" "taped" "I") (List.mem_of_getElem? (i := 1) rfl)) (fun _ h9 => h9) rfl dX12_byteAt_2 ?_
  refine b_ge (tgt := 17) hx hb (by omega) (by omega) dX12_byteAt_5 (by decide) (fun c1 => ?_) (fun c1 => ?_)
  · refine lv_iconst (v := (-1)) hx hb dX12_byteAt_17 (by decide) ?_
    exact b_ret hx hb hr (by unfold byt; rw [if_neg (by omega)]) dX12_byteAt_18 hlocks
  · refine lv_aload_n hx hb dX12_byteAt_8 rfl (lv_at hl 0 rfl) ?_
    refine va_get (D := D) (ci := 11) (v := .ref (A0 5)) (C := RX12) (T := TX12) (N := 21) hx hb hts u_X12_byteAt_X12 hown hK.1 hP 0 rfl rfl 5 (by decide) (hts (.fieldLink RX12 22 "NoticeWeekModel" "tape" "[I") (List.mem_of_getElem? (i := 2) rfl)) (fun _ h9 => h9) rfl dX12_byteAt_9 ?_
    refine lv_iload_n hx hb dX12_byteAt_12 rfl (lv_at hl 1 rfl) ?_
    refine b_ald hx hb hK hP 5 rfl (by omega) (by decide) dX12_byteAt_13 ?_
    refine lv_goto (tgt := 18) hx hb dX12_byteAt_14 (by decide) ?_
    exact b_ret hx hb hr (by unfold byt; simp [c1]) dX12_byteAt_18 hlocks
theorem u_X12_advances_X12 : ∀ w ∈ wsX120, w ∈ wsX12_advances := fun _ h => List.mem_cons_of_mem _ (List.mem_append_right _ h)
set_option maxHeartbeats 4000000 in
set_option maxRecDepth 100000 in
theorem c_X12_advances (l : Launch) (D : va_G) (cI cZ cT : ClassId) (A0 : Nat → Nat) (ss : Int32) (t : Nat) (fk fp : Int32) (a : Nat) (sp tk vl ac tr : Int32) (la ma it sr bt nw dr pa im kp tc : Nat → Int32) (ht : t ≤ 120) (ha : a ≤ t) : Met l yX12_advances wsX12_advances ({ frames := 1, cells := 0, slots := 0, locals := 22 }) (pM D cI cZ cT [.ref (A0 0)] (wM cI cZ A0 ss (nI t) fk fp (nI a) sp tk vl ac tr la ma it sr bt nw dr pa im kp tc)) (qM D none (wM cI cZ A0 ss (nI t) fk fp (nI (adv bt t a).1) (nI a) ((adv bt t a).2.1) ((adv bt t a).2.2) ac tr la ma it sr bt nw dr pa im kp tc) (adr (wM cI cZ A0 ss (nI t) fk fp (nI a) sp tk vl ac tr la ma it sr bt nw dr pa im kp tc))) 0 0 (adr (wM cI cZ A0 ss (nI t) fk fp (nI a) sp tk vl ac tr la ma it sr bt nw dr pa im kp tc)) := by
  refine Met.ofW (cc := cX12_advances) (maxL := 2) (ret := none) (by decide) rfl ?_
  intro p e s m args below meth c s₁ B hml hv
  obtain ⟨rfl, hP, hD0, hK⟩ := hv
  have hx := B.exec
  have hb := B.bytes
  have hr := B.returns
  have hts := atoms_spec (ws := wsX12_advances) B.pre
  have hown : s.vm.findClass RX12 = some m.cls := findClass_of_methodNamed B.named
  have hlocks := B.notSynchronized
  have hD := hD0.toAdr
  have hS : va_S (adr (wM cI cZ A0 ss (nI t) fk fp (nI a) sp tk vl ac tr la ma it sr bt nw dr pa im kp tc)) s.heap s.heap [] := va_S.rf
  generalize adr (wM cI cZ A0 ss (nI t) fk fp (nI a) sp tk vl ac tr la ma it sr bt nw dr pa im kp tc) = A at hD hS ⊢
  have hl := lv_entry ([.ref (A0 0)]) (n := 2) (Nat.le_of_ble_eq_true rfl)
  rw [lg_entry_eq]
  generalize (lg_sl ([.ref (A0 0)]) ++ List.replicate (2 - (lg_sl ([.ref (A0 0)])).length) Slot.unset).toArray = ls at hl ⊢
  have hl : lv_has ls 2 [(0, .ref (A0 0))] := hl
  refine lv_aload_n hx hb dX12_advances_0 rfl (lv_at hl 0 rfl) ?_
  refine lv_aload_n hx hb dX12_advances_1 rfl (lv_at hl 0 rfl) ?_
  refine va_get (D := D) (ci := 11) (v := .int (nI (a))) (C := RX12) (T := TX12) (N := 21) hx hb hts u_X12_advances_X12 hown hK.1 hP 0 rfl rfl 9 (by decide) (hts (.fieldLink RX12 80 "NoticeWeekModel" "at" "I") (List.mem_of_getElem? (i := 1) rfl)) (fun _ h9 => h9) rfl dX12_advances_2 ?_
  refine b_put (C := RX12) (T := TX12) (N := 21) hx hb hts u_X12_advances_X12 tyX12 tyX12_ok nmX12 hown hK hP hD hS 0 rfl rfl 10 (by decide) (hts (.fieldLink RX12 83 "NoticeWeekModel" "start" "I") (List.mem_of_getElem? (i := 2) rfl)) rfl (by decide +kernel) (Nat.le_of_ble_eq_true rfl) dX12_advances_5 (fun H locs hP hS => ?_)
  have hP : va_P D vwCl (wM cI cZ A0 ss (nI t) fk fp (nI a) (nI (a)) tk vl ac tr la ma it sr bt nw dr pa im kp tc) H := hP
  have hD : va_D A (wM cI cZ A0 ss (nI t) fk fp (nI a) (nI (a)) tk vl ac tr la ma it sr bt nw dr pa im kp tc) := hD.sameA [(A0 0), (A0 1), (A0 2), (A0 3), (A0 4), (A0 5), (A0 6), (A0 7), (A0 8), (A0 9), (A0 10), (A0 11)] rfl rfl
  refine lv_aload_n hx hb dX12_advances_8 rfl (lv_at hl 0 rfl) ?_
  refine lv_aload_n hx hb dX12_advances_9 rfl (lv_at hl 0 rfl) ?_
  refine va_get (D := D) (ci := 11) (v := .int (nI (a))) (C := RX12) (T := TX12) (N := 21) hx hb hts u_X12_advances_X12 hown hK.1 hP 0 rfl rfl 9 (by decide) (hts (.fieldLink RX12 80 "NoticeWeekModel" "at" "I") (List.mem_of_getElem? (i := 1) rfl)) (fun _ h9 => h9) rfl dX12_advances_10 ?_
  refine b_call (va_runV (As := [.int (nI (a))]) (rest := []) ⟨hx, hb, hml, hown, hts⟩ (c_X12_byteAt l D cI cZ cT A0 ss t fk fp (nI a) (nI (a)) tk vl ac tr la ma it sr bt nw dr pa im kp tc a ht (by omega)) (cwV 1 hts gX12_advances_X12_byteAt rfl rfl rfl (by decide +kernel) ⟨(Nat.le_of_ble_eq_true rfl), (Nat.le_of_ble_eq_true rfl)⟩) (b_pV hK hP [0, 1, 2, 3, 4, 5, 6, 7, 8, 9, 10, 11] rfl 0 rfl rfl) rfl rfl hl.1 rfl (lv_room (Nat.le_of_ble_eq_true rfl)) dX12_advances_13 ⟨Nat.zero_le _, Nat.zero_le _⟩).run ?_
  refine lv_topi (fun x1 ex1 => ?_)
  refine lv_istore_n (lv' := [(1, .int x1), (0, .ref (A0 0))]) hx hb dX12_advances_16 rfl hl (by decide) rfl (fun ls hl => ?_)
  refine lv_aload_n hx hb dX12_advances_17 rfl (lv_at hl 1 rfl) ?_
  refine lv_iload_n hx hb dX12_advances_18 rfl (lv_at hl 0 rfl) ?_
  refine b_put (C := RX12) (T := TX12) (N := 21) hx hb hts u_X12_advances_X12 tyX12 tyX12_ok nmX12 hown hK hP hD hS 0 rfl rfl 12 (by decide) (hts (.fieldLink RX12 89 "NoticeWeekModel" "value" "I") (List.mem_of_getElem? (i := 3) rfl)) rfl (by decide +kernel) (Nat.le_of_ble_eq_true rfl) dX12_advances_19 (fun H locs hP hS => ?_)
  have hP : va_P D vwCl (wM cI cZ A0 ss (nI t) fk fp (nI a) (nI (a)) tk x1 ac tr la ma it sr bt nw dr pa im kp tc) H := hP
  have hD : va_D A (wM cI cZ A0 ss (nI t) fk fp (nI a) (nI (a)) tk x1 ac tr la ma it sr bt nw dr pa im kp tc) := hD.sameA [(A0 0), (A0 1), (A0 2), (A0 3), (A0 4), (A0 5), (A0 6), (A0 7), (A0 8), (A0 9), (A0 10), (A0 11)] rfl rfl
  refine lv_iload_n hx hb dX12_advances_22 rfl (lv_at hl 0 rfl) ?_
  refine lv_bipush (v := 48) hx hb dX12_advances_23 (by decide) ?_
  refine lv_bipush (v := 57) hx hb dX12_advances_25 (by decide) ?_
  refine b_call (va_runS (As := [.int x1, .int 48, .int 57]) (rest := []) ⟨hx, hb, hml, hown, hts⟩ (c_X12_in l D cI cZ cT x1 48 57) (va_cwS 3 hts gX12_advances_X12_in rfl rfl rfl (by decide +kernel) ⟨(Nat.le_of_ble_eq_true rfl), (Nat.le_of_ble_eq_true rfl)⟩) (b_pS0 hK) rfl rfl hl.1 rfl (lv_room (Nat.le_of_ble_eq_true rfl)) dX12_advances_27 ⟨Nat.zero_le _, Nat.zero_le _⟩).run ?_
  refine b_ifeq (tgt := 135) hx hb dX12_advances_30 (by decide) (fun c2 => ?_) (fun c2 => ?_)
  · refine lv_aload_n hx hb dX12_advances_135 rfl (lv_at hl 1 rfl) ?_
    refine lv_iload_n hx hb dX12_advances_136 rfl (lv_at hl 0 rfl) ?_
    refine lv_if_ge (tgt := 144) hx hb dX12_advances_137 (by decide) (fun c3 => ?_) (fun c3 => ?_)
    · refine lv_iload_n hx hb dX12_advances_144 rfl (lv_at hl 0 rfl) ?_
      refine lv_bipush (v := 97) hx hb dX12_advances_145 (by decide) ?_
      refine lv_bipush (v := 122) hx hb dX12_advances_147 (by decide) ?_
      refine b_call (va_runS (As := [.int x1, .int 97, .int 122]) (rest := [.ref (A0 0)]) ⟨hx, hb, hml, hown, hts⟩ (c_X12_in l D cI cZ cT x1 97 122) (va_cwS 3 hts gX12_advances_X12_in rfl rfl rfl (by decide +kernel) ⟨(Nat.le_of_ble_eq_true rfl), (Nat.le_of_ble_eq_true rfl)⟩) (b_pS0 hK) rfl rfl hl.1 rfl (lv_room (Nat.le_of_ble_eq_true rfl)) dX12_advances_149 ⟨Nat.zero_le _, Nat.zero_le _⟩).run ?_
      refine b_ifeq (tgt := 159) hx hb dX12_advances_152 (by decide) (fun c4 => ?_) (fun c4 => ?_)
      · refine lv_iload_n hx hb dX12_advances_159 rfl (lv_at hl 0 rfl) ?_
        refine lv_bipush (v := 44) hx hb dX12_advances_160 (by decide) ?_
        refine lv_icmp_ne (tgt := 169) hx hb dX12_advances_162 (by decide) (fun c5 => ?_) (fun c5 => ?_)
        · refine lv_iload_n hx hb dX12_advances_169 rfl (lv_at hl 0 rfl) ?_
          refine lv_bipush (v := 59) hx hb dX12_advances_170 (by decide) ?_
          refine lv_icmp_ne (tgt := 179) hx hb dX12_advances_172 (by decide) (fun c6 => ?_) (fun c6 => ?_)
          · refine lv_iconst (v := 5) hx hb dX12_advances_179 (by decide) ?_
            refine b_put (C := RX12) (T := TX12) (N := 21) hx hb hts u_X12_advances_X12 tyX12 tyX12_ok nmX12 hown hK hP hD hS 0 rfl rfl 11 (by decide) (hts (.fieldLink RX12 92 "NoticeWeekModel" "token" "I") (List.mem_of_getElem? (i := 4) rfl)) rfl (by decide +kernel) (Nat.le_of_ble_eq_true rfl) dX12_advances_180 (fun H locs hP hS => ?_)
            have hP : va_P D vwCl (wM cI cZ A0 ss (nI t) fk fp (nI a) (nI (a)) 5 x1 ac tr la ma it sr bt nw dr pa im kp tc) H := hP
            have hD : va_D A (wM cI cZ A0 ss (nI t) fk fp (nI a) (nI (a)) 5 x1 ac tr la ma it sr bt nw dr pa im kp tc) := hD.sameA [(A0 0), (A0 1), (A0 2), (A0 3), (A0 4), (A0 5), (A0 6), (A0 7), (A0 8), (A0 9), (A0 10), (A0 11)] rfl rfl
            refine lv_aload_n hx hb dX12_advances_183 rfl (lv_at hl 1 rfl) ?_
            refine lv_dup hx hb dX12_advances_184 rfl ?_
            refine va_get (D := D) (ci := 11) (v := .int (nI (a))) (C := RX12) (T := TX12) (N := 21) hx hb hts u_X12_advances_X12 hown hK.1 hP 0 rfl rfl 9 (by decide) (hts (.fieldLink RX12 80 "NoticeWeekModel" "at" "I") (List.mem_of_getElem? (i := 1) rfl)) (fun _ h9 => h9) rfl dX12_advances_185 ?_
            refine lv_aload_n hx hb dX12_advances_188 rfl (lv_at hl 1 rfl) ?_
            refine va_get (D := D) (ci := 11) (v := .int 5) (C := RX12) (T := TX12) (N := 21) hx hb hts u_X12_advances_X12 hown hK.1 hP 0 rfl rfl 11 (by decide) (hts (.fieldLink RX12 92 "NoticeWeekModel" "token" "I") (List.mem_of_getElem? (i := 4) rfl)) (fun _ h9 => h9) rfl dX12_advances_189 ?_
            refine lv_if_ne (tgt := 199) hx hb dX12_advances_192 (by decide) (fun c7 => ?_) (fun c7 => absurd c7 (by decide))
            refine lv_iconst (v := (nI 1)) hx hb dX12_advances_199 (by decide) ?_
            refine b_add hx hb dX12_advances_200 ?_
            refine b_put (C := RX12) (T := TX12) (N := 21) hx hb hts u_X12_advances_X12 tyX12 tyX12_ok nmX12 hown hK hP hD hS 0 rfl rfl 9 (by decide) (hts (.fieldLink RX12 80 "NoticeWeekModel" "at" "I") (List.mem_of_getElem? (i := 1) rfl)) rfl (by decide +kernel) (Nat.le_of_ble_eq_true rfl) dX12_advances_201 (fun H locs hP hS => ?_)
            have hP : va_P D vwCl (wM cI cZ A0 ss (nI t) fk fp (nI (a + 1)) (nI (a)) 5 x1 ac tr la ma it sr bt nw dr pa im kp tc) H := hP
            have hD : va_D A (wM cI cZ A0 ss (nI t) fk fp (nI (a + 1)) (nI (a)) 5 x1 ac tr la ma it sr bt nw dr pa im kp tc) := hD.sameA [(A0 0), (A0 1), (A0 2), (A0 3), (A0 4), (A0 5), (A0 6), (A0 7), (A0 8), (A0 9), (A0 10), (A0 11)] rfl rfl
            have E : adv bt t a = (a + 1, 5, x1) := (by subst ex1; first | (simp only [adv, adA, adT, adV, eq_false c2, eq_true c3, eq_false c4, eq_false c5, eq_false c6, bI, not_true_eq_false, not_false_eq_true, ite_true, ite_false, if_true, if_false, and_self, and_true, true_and, false_and, and_false, or_true, true_or, or_false, false_or, eq_self]; done) | (simp [adv, adA, adT, adV, eq_false c2, eq_true c3, eq_false c4, eq_false c5, eq_false c6, bI]; done))
            rw [E]
            exact b_vretM hx hb hr hP hS dX12_advances_204 hlocks
          · refine lv_iconst (v := 4) hx hb dX12_advances_175 (by decide) ?_
            refine lv_goto (tgt := 180) hx hb dX12_advances_176 (by decide) ?_
            refine b_put (C := RX12) (T := TX12) (N := 21) hx hb hts u_X12_advances_X12 tyX12 tyX12_ok nmX12 hown hK hP hD hS 0 rfl rfl 11 (by decide) (hts (.fieldLink RX12 92 "NoticeWeekModel" "token" "I") (List.mem_of_getElem? (i := 4) rfl)) rfl (by decide +kernel) (Nat.le_of_ble_eq_true rfl) dX12_advances_180 (fun H locs hP hS => ?_)
            have hP : va_P D vwCl (wM cI cZ A0 ss (nI t) fk fp (nI a) (nI (a)) 4 x1 ac tr la ma it sr bt nw dr pa im kp tc) H := hP
            have hD : va_D A (wM cI cZ A0 ss (nI t) fk fp (nI a) (nI (a)) 4 x1 ac tr la ma it sr bt nw dr pa im kp tc) := hD.sameA [(A0 0), (A0 1), (A0 2), (A0 3), (A0 4), (A0 5), (A0 6), (A0 7), (A0 8), (A0 9), (A0 10), (A0 11)] rfl rfl
            refine lv_aload_n hx hb dX12_advances_183 rfl (lv_at hl 1 rfl) ?_
            refine lv_dup hx hb dX12_advances_184 rfl ?_
            refine va_get (D := D) (ci := 11) (v := .int (nI (a))) (C := RX12) (T := TX12) (N := 21) hx hb hts u_X12_advances_X12 hown hK.1 hP 0 rfl rfl 9 (by decide) (hts (.fieldLink RX12 80 "NoticeWeekModel" "at" "I") (List.mem_of_getElem? (i := 1) rfl)) (fun _ h9 => h9) rfl dX12_advances_185 ?_
            refine lv_aload_n hx hb dX12_advances_188 rfl (lv_at hl 1 rfl) ?_
            refine va_get (D := D) (ci := 11) (v := .int 4) (C := RX12) (T := TX12) (N := 21) hx hb hts u_X12_advances_X12 hown hK.1 hP 0 rfl rfl 11 (by decide) (hts (.fieldLink RX12 92 "NoticeWeekModel" "token" "I") (List.mem_of_getElem? (i := 4) rfl)) (fun _ h9 => h9) rfl dX12_advances_189 ?_
            refine lv_if_ne (tgt := 199) hx hb dX12_advances_192 (by decide) (fun c8 => ?_) (fun c8 => absurd c8 (by decide))
            refine lv_iconst (v := (nI 1)) hx hb dX12_advances_199 (by decide) ?_
            refine b_add hx hb dX12_advances_200 ?_
            refine b_put (C := RX12) (T := TX12) (N := 21) hx hb hts u_X12_advances_X12 tyX12 tyX12_ok nmX12 hown hK hP hD hS 0 rfl rfl 9 (by decide) (hts (.fieldLink RX12 80 "NoticeWeekModel" "at" "I") (List.mem_of_getElem? (i := 1) rfl)) rfl (by decide +kernel) (Nat.le_of_ble_eq_true rfl) dX12_advances_201 (fun H locs hP hS => ?_)
            have hP : va_P D vwCl (wM cI cZ A0 ss (nI t) fk fp (nI (a + 1)) (nI (a)) 4 x1 ac tr la ma it sr bt nw dr pa im kp tc) H := hP
            have hD : va_D A (wM cI cZ A0 ss (nI t) fk fp (nI (a + 1)) (nI (a)) 4 x1 ac tr la ma it sr bt nw dr pa im kp tc) := hD.sameA [(A0 0), (A0 1), (A0 2), (A0 3), (A0 4), (A0 5), (A0 6), (A0 7), (A0 8), (A0 9), (A0 10), (A0 11)] rfl rfl
            have E : adv bt t a = (a + 1, 4, x1) := (by subst ex1; first | (simp only [adv, adA, adT, adV, eq_false c2, eq_true c3, eq_false c4, eq_false c5, eq_true c6, bI, not_true_eq_false, not_false_eq_true, ite_true, ite_false, if_true, if_false, and_self, and_true, true_and, false_and, and_false, or_true, true_or, or_false, false_or, eq_self]; done) | (simp [adv, adA, adT, adV, eq_false c2, eq_true c3, eq_false c4, eq_false c5, eq_true c6, bI]; done))
            rw [E]
            exact b_vretM hx hb hr hP hS dX12_advances_204 hlocks
        · refine lv_iconst (v := 3) hx hb dX12_advances_165 (by decide) ?_
          refine lv_goto (tgt := 180) hx hb dX12_advances_166 (by decide) ?_
          refine b_put (C := RX12) (T := TX12) (N := 21) hx hb hts u_X12_advances_X12 tyX12 tyX12_ok nmX12 hown hK hP hD hS 0 rfl rfl 11 (by decide) (hts (.fieldLink RX12 92 "NoticeWeekModel" "token" "I") (List.mem_of_getElem? (i := 4) rfl)) rfl (by decide +kernel) (Nat.le_of_ble_eq_true rfl) dX12_advances_180 (fun H locs hP hS => ?_)
          have hP : va_P D vwCl (wM cI cZ A0 ss (nI t) fk fp (nI a) (nI (a)) 3 x1 ac tr la ma it sr bt nw dr pa im kp tc) H := hP
          have hD : va_D A (wM cI cZ A0 ss (nI t) fk fp (nI a) (nI (a)) 3 x1 ac tr la ma it sr bt nw dr pa im kp tc) := hD.sameA [(A0 0), (A0 1), (A0 2), (A0 3), (A0 4), (A0 5), (A0 6), (A0 7), (A0 8), (A0 9), (A0 10), (A0 11)] rfl rfl
          refine lv_aload_n hx hb dX12_advances_183 rfl (lv_at hl 1 rfl) ?_
          refine lv_dup hx hb dX12_advances_184 rfl ?_
          refine va_get (D := D) (ci := 11) (v := .int (nI (a))) (C := RX12) (T := TX12) (N := 21) hx hb hts u_X12_advances_X12 hown hK.1 hP 0 rfl rfl 9 (by decide) (hts (.fieldLink RX12 80 "NoticeWeekModel" "at" "I") (List.mem_of_getElem? (i := 1) rfl)) (fun _ h9 => h9) rfl dX12_advances_185 ?_
          refine lv_aload_n hx hb dX12_advances_188 rfl (lv_at hl 1 rfl) ?_
          refine va_get (D := D) (ci := 11) (v := .int 3) (C := RX12) (T := TX12) (N := 21) hx hb hts u_X12_advances_X12 hown hK.1 hP 0 rfl rfl 11 (by decide) (hts (.fieldLink RX12 92 "NoticeWeekModel" "token" "I") (List.mem_of_getElem? (i := 4) rfl)) (fun _ h9 => h9) rfl dX12_advances_189 ?_
          refine lv_if_ne (tgt := 199) hx hb dX12_advances_192 (by decide) (fun c9 => ?_) (fun c9 => absurd c9 (by decide))
          refine lv_iconst (v := (nI 1)) hx hb dX12_advances_199 (by decide) ?_
          refine b_add hx hb dX12_advances_200 ?_
          refine b_put (C := RX12) (T := TX12) (N := 21) hx hb hts u_X12_advances_X12 tyX12 tyX12_ok nmX12 hown hK hP hD hS 0 rfl rfl 9 (by decide) (hts (.fieldLink RX12 80 "NoticeWeekModel" "at" "I") (List.mem_of_getElem? (i := 1) rfl)) rfl (by decide +kernel) (Nat.le_of_ble_eq_true rfl) dX12_advances_201 (fun H locs hP hS => ?_)
          have hP : va_P D vwCl (wM cI cZ A0 ss (nI t) fk fp (nI (a + 1)) (nI (a)) 3 x1 ac tr la ma it sr bt nw dr pa im kp tc) H := hP
          have hD : va_D A (wM cI cZ A0 ss (nI t) fk fp (nI (a + 1)) (nI (a)) 3 x1 ac tr la ma it sr bt nw dr pa im kp tc) := hD.sameA [(A0 0), (A0 1), (A0 2), (A0 3), (A0 4), (A0 5), (A0 6), (A0 7), (A0 8), (A0 9), (A0 10), (A0 11)] rfl rfl
          have E : adv bt t a = (a + 1, 3, x1) := (by subst ex1; first | (simp only [adv, adA, adT, adV, eq_false c2, eq_true c3, eq_false c4, eq_true c5, bI, not_true_eq_false, not_false_eq_true, ite_true, ite_false, if_true, if_false, and_self, and_true, true_and, false_and, and_false, or_true, true_or, or_false, false_or, eq_self]; done) | (simp [adv, adA, adT, adV, eq_false c2, eq_true c3, eq_false c4, eq_true c5, bI]; done))
          rw [E]
          exact b_vretM hx hb hr hP hS dX12_advances_204 hlocks
      · refine lv_iconst (v := 1) hx hb dX12_advances_155 (by decide) ?_
        refine lv_goto (tgt := 180) hx hb dX12_advances_156 (by decide) ?_
        refine b_put (C := RX12) (T := TX12) (N := 21) hx hb hts u_X12_advances_X12 tyX12 tyX12_ok nmX12 hown hK hP hD hS 0 rfl rfl 11 (by decide) (hts (.fieldLink RX12 92 "NoticeWeekModel" "token" "I") (List.mem_of_getElem? (i := 4) rfl)) rfl (by decide +kernel) (Nat.le_of_ble_eq_true rfl) dX12_advances_180 (fun H locs hP hS => ?_)
        have hP : va_P D vwCl (wM cI cZ A0 ss (nI t) fk fp (nI a) (nI (a)) 1 x1 ac tr la ma it sr bt nw dr pa im kp tc) H := hP
        have hD : va_D A (wM cI cZ A0 ss (nI t) fk fp (nI a) (nI (a)) 1 x1 ac tr la ma it sr bt nw dr pa im kp tc) := hD.sameA [(A0 0), (A0 1), (A0 2), (A0 3), (A0 4), (A0 5), (A0 6), (A0 7), (A0 8), (A0 9), (A0 10), (A0 11)] rfl rfl
        refine lv_aload_n hx hb dX12_advances_183 rfl (lv_at hl 1 rfl) ?_
        refine lv_dup hx hb dX12_advances_184 rfl ?_
        refine va_get (D := D) (ci := 11) (v := .int (nI (a))) (C := RX12) (T := TX12) (N := 21) hx hb hts u_X12_advances_X12 hown hK.1 hP 0 rfl rfl 9 (by decide) (hts (.fieldLink RX12 80 "NoticeWeekModel" "at" "I") (List.mem_of_getElem? (i := 1) rfl)) (fun _ h9 => h9) rfl dX12_advances_185 ?_
        refine lv_aload_n hx hb dX12_advances_188 rfl (lv_at hl 1 rfl) ?_
        refine va_get (D := D) (ci := 11) (v := .int 1) (C := RX12) (T := TX12) (N := 21) hx hb hts u_X12_advances_X12 hown hK.1 hP 0 rfl rfl 11 (by decide) (hts (.fieldLink RX12 92 "NoticeWeekModel" "token" "I") (List.mem_of_getElem? (i := 4) rfl)) (fun _ h9 => h9) rfl dX12_advances_189 ?_
        refine lv_if_ne (tgt := 199) hx hb dX12_advances_192 (by decide) (fun c10 => ?_) (fun c10 => absurd c10 (by decide))
        refine lv_iconst (v := (nI 1)) hx hb dX12_advances_199 (by decide) ?_
        refine b_add hx hb dX12_advances_200 ?_
        refine b_put (C := RX12) (T := TX12) (N := 21) hx hb hts u_X12_advances_X12 tyX12 tyX12_ok nmX12 hown hK hP hD hS 0 rfl rfl 9 (by decide) (hts (.fieldLink RX12 80 "NoticeWeekModel" "at" "I") (List.mem_of_getElem? (i := 1) rfl)) rfl (by decide +kernel) (Nat.le_of_ble_eq_true rfl) dX12_advances_201 (fun H locs hP hS => ?_)
        have hP : va_P D vwCl (wM cI cZ A0 ss (nI t) fk fp (nI (a + 1)) (nI (a)) 1 x1 ac tr la ma it sr bt nw dr pa im kp tc) H := hP
        have hD : va_D A (wM cI cZ A0 ss (nI t) fk fp (nI (a + 1)) (nI (a)) 1 x1 ac tr la ma it sr bt nw dr pa im kp tc) := hD.sameA [(A0 0), (A0 1), (A0 2), (A0 3), (A0 4), (A0 5), (A0 6), (A0 7), (A0 8), (A0 9), (A0 10), (A0 11)] rfl rfl
        have E : adv bt t a = (a + 1, 1, x1) := (by subst ex1; first | (simp only [adv, adA, adT, adV, eq_false c2, eq_true c3, eq_true c4, bI, not_true_eq_false, not_false_eq_true, ite_true, ite_false, if_true, if_false, and_self, and_true, true_and, false_and, and_false, or_true, true_or, or_false, false_or, eq_self]; done) | (simp [adv, adA, adT, adV, eq_false c2, eq_true c3, eq_true c4, bI]; done))
        rw [E]
        exact b_vretM hx hb hr hP hS dX12_advances_204 hlocks
    · refine lv_iconst (v := 0) hx hb dX12_advances_140 (by decide) ?_
      refine lv_goto (tgt := 180) hx hb dX12_advances_141 (by decide) ?_
      refine b_put (C := RX12) (T := TX12) (N := 21) hx hb hts u_X12_advances_X12 tyX12 tyX12_ok nmX12 hown hK hP hD hS 0 rfl rfl 11 (by decide) (hts (.fieldLink RX12 92 "NoticeWeekModel" "token" "I") (List.mem_of_getElem? (i := 4) rfl)) rfl (by decide +kernel) (Nat.le_of_ble_eq_true rfl) dX12_advances_180 (fun H locs hP hS => ?_)
      have hP : va_P D vwCl (wM cI cZ A0 ss (nI t) fk fp (nI a) (nI (a)) 0 x1 ac tr la ma it sr bt nw dr pa im kp tc) H := hP
      have hD : va_D A (wM cI cZ A0 ss (nI t) fk fp (nI a) (nI (a)) 0 x1 ac tr la ma it sr bt nw dr pa im kp tc) := hD.sameA [(A0 0), (A0 1), (A0 2), (A0 3), (A0 4), (A0 5), (A0 6), (A0 7), (A0 8), (A0 9), (A0 10), (A0 11)] rfl rfl
      refine lv_aload_n hx hb dX12_advances_183 rfl (lv_at hl 1 rfl) ?_
      refine lv_dup hx hb dX12_advances_184 rfl ?_
      refine va_get (D := D) (ci := 11) (v := .int (nI (a))) (C := RX12) (T := TX12) (N := 21) hx hb hts u_X12_advances_X12 hown hK.1 hP 0 rfl rfl 9 (by decide) (hts (.fieldLink RX12 80 "NoticeWeekModel" "at" "I") (List.mem_of_getElem? (i := 1) rfl)) (fun _ h9 => h9) rfl dX12_advances_185 ?_
      refine lv_aload_n hx hb dX12_advances_188 rfl (lv_at hl 1 rfl) ?_
      refine va_get (D := D) (ci := 11) (v := .int 0) (C := RX12) (T := TX12) (N := 21) hx hb hts u_X12_advances_X12 hown hK.1 hP 0 rfl rfl 11 (by decide) (hts (.fieldLink RX12 92 "NoticeWeekModel" "token" "I") (List.mem_of_getElem? (i := 4) rfl)) (fun _ h9 => h9) rfl dX12_advances_189 ?_
      refine lv_if_ne (tgt := 199) hx hb dX12_advances_192 (by decide) (fun c11 => absurd c11 (by decide)) (fun c11 => ?_)
      refine lv_iconst (v := (nI 0)) hx hb dX12_advances_195 (by decide) ?_
      refine lv_goto (tgt := 200) hx hb dX12_advances_196 (by decide) ?_
      refine b_add hx hb dX12_advances_200 ?_
      refine b_put (C := RX12) (T := TX12) (N := 21) hx hb hts u_X12_advances_X12 tyX12 tyX12_ok nmX12 hown hK hP hD hS 0 rfl rfl 9 (by decide) (hts (.fieldLink RX12 80 "NoticeWeekModel" "at" "I") (List.mem_of_getElem? (i := 1) rfl)) rfl (by decide +kernel) (Nat.le_of_ble_eq_true rfl) dX12_advances_201 (fun H locs hP hS => ?_)
      have hP : va_P D vwCl (wM cI cZ A0 ss (nI t) fk fp (nI (a + 0)) (nI (a)) 0 x1 ac tr la ma it sr bt nw dr pa im kp tc) H := hP
      have hD : va_D A (wM cI cZ A0 ss (nI t) fk fp (nI (a + 0)) (nI (a)) 0 x1 ac tr la ma it sr bt nw dr pa im kp tc) := hD.sameA [(A0 0), (A0 1), (A0 2), (A0 3), (A0 4), (A0 5), (A0 6), (A0 7), (A0 8), (A0 9), (A0 10), (A0 11)] rfl rfl
      have E : adv bt t a = (a + 0, 0, x1) := (by subst ex1; first | (simp only [adv, adA, adT, adV, eq_false c2, eq_false c3, bI, not_true_eq_false, not_false_eq_true, ite_true, ite_false, if_true, if_false, and_self, and_true, true_and, false_and, and_false, or_true, true_or, or_false, false_or, eq_self]; done) | (simp [adv, adA, adT, adV, eq_false c2, eq_false c3, bI]; done))
      rw [E]
      exact b_vretM hx hb hr hP hS dX12_advances_204 hlocks
  · refine lv_aload_n hx hb dX12_advances_33 rfl (lv_at hl 1 rfl) ?_
    refine lv_iconst (v := 0) hx hb dX12_advances_34 (by decide) ?_
    refine b_put (C := RX12) (T := TX12) (N := 21) hx hb hts u_X12_advances_X12 tyX12 tyX12_ok nmX12 hown hK hP hD hS 0 rfl rfl 12 (by decide) (hts (.fieldLink RX12 89 "NoticeWeekModel" "value" "I") (List.mem_of_getElem? (i := 3) rfl)) rfl (by decide +kernel) (Nat.le_of_ble_eq_true rfl) dX12_advances_35 (fun H locs hP hS => ?_)
    have hP : va_P D vwCl (wM cI cZ A0 ss (nI t) fk fp (nI a) (nI (a)) tk 0 ac tr la ma it sr bt nw dr pa im kp tc) H := hP
    have hD : va_D A (wM cI cZ A0 ss (nI t) fk fp (nI a) (nI (a)) tk 0 ac tr la ma it sr bt nw dr pa im kp tc) := hD.sameA [(A0 0), (A0 1), (A0 2), (A0 3), (A0 4), (A0 5), (A0 6), (A0 7), (A0 8), (A0 9), (A0 10), (A0 11)] rfl rfl
    refine b_loopM (N := t - a) (I := fun k ls H locs => lv_has ls 2 [(0, .ref (A0 0))] ∧ va_P D vwCl (wM cI cZ A0 ss (nI t) fk fp (nI (a + k)) (nI a) tk (vvf bt t a k) ac tr la ma it sr bt nw dr pa im kp tc) H ∧ va_S A s.heap H locs ∧ (rl bt t a (t - a) = k + rl bt t (a + k) (t - a - k))) (fun k hk ih12 ls H locs hI => ?_) 0 (by omega) ⟨lv_sub hl [1] rfl, hP, hS, (by simp)⟩
    obtain ⟨hl, hP, hS, hF⟩ := hI
    have hl : lv_has ls 2 [(0, .ref (A0 0))] := hl
    have hP : va_P D vwCl (wM cI cZ A0 ss (nI t) fk fp (nI (a + k)) (nI a) tk (vvf bt t a k) ac tr la ma it sr bt nw dr pa im kp tc) H := hP
    have hD : va_D A (wM cI cZ A0 ss (nI t) fk fp (nI (a + k)) (nI a) tk (vvf bt t a k) ac tr la ma it sr bt nw dr pa im kp tc) := hD.sameA [(A0 0), (A0 1), (A0 2), (A0 3), (A0 4), (A0 5), (A0 6), (A0 7), (A0 8), (A0 9), (A0 10), (A0 11)] rfl rfl
    refine lv_aload_n hx hb dX12_advances_38 rfl (lv_at hl 0 rfl) ?_
    refine lv_aload_n hx hb dX12_advances_39 rfl (lv_at hl 0 rfl) ?_
    refine va_get (D := D) (ci := 11) (v := .int (nI (a + k))) (C := RX12) (T := TX12) (N := 21) hx hb hts u_X12_advances_X12 hown hK.1 hP 0 rfl rfl 9 (by decide) (hts (.fieldLink RX12 80 "NoticeWeekModel" "at" "I") (List.mem_of_getElem? (i := 1) rfl)) (fun _ h9 => h9) rfl dX12_advances_40 ?_
    refine b_call (va_runV (As := [.int (nI (a + k))]) (rest := []) ⟨hx, hb, hml, hown, hts⟩ (c_X12_byteAt l D cI cZ cT A0 ss t fk fp (nI (a + k)) (nI a) tk (vvf bt t a k) ac tr la ma it sr bt nw dr pa im kp tc (a + k) ht (by omega)) (cwV 1 hts gX12_advances_X12_byteAt rfl rfl rfl (by decide +kernel) ⟨(Nat.le_of_ble_eq_true rfl), (Nat.le_of_ble_eq_true rfl)⟩) (b_pV hK hP [0, 1, 2, 3, 4, 5, 6, 7, 8, 9, 10, 11] rfl 0 rfl rfl) rfl rfl hl.1 rfl (lv_room (Nat.le_of_ble_eq_true rfl)) dX12_advances_43 ⟨Nat.zero_le _, Nat.zero_le _⟩).run ?_
    refine lv_bipush (v := 48) hx hb dX12_advances_46 (by decide) ?_
    refine lv_bipush (v := 57) hx hb dX12_advances_48 (by decide) ?_
    refine b_call (va_runS (As := [.int (byt bt t (a + k)), .int 48, .int 57]) (rest := []) ⟨hx, hb, hml, hown, hts⟩ (c_X12_in l D cI cZ cT (byt bt t (a + k)) 48 57) (va_cwS 3 hts gX12_advances_X12_in rfl rfl rfl (by decide +kernel) ⟨(Nat.le_of_ble_eq_true rfl), (Nat.le_of_ble_eq_true rfl)⟩) (b_pS0 hK) rfl rfl hl.1 rfl (lv_room (Nat.le_of_ble_eq_true rfl)) dX12_advances_50 ⟨Nat.zero_le _, Nat.zero_le _⟩).run ?_
    refine b_ifeq (tgt := 112) hx hb dX12_advances_53 (by decide) (fun c13 => ?_) (fun c13 => ?_)
    · have hk9 := rl_no hF c13
      refine lv_aload_n hx hb dX12_advances_112 rfl (lv_at hl 0 rfl) ?_
      refine lv_aload_n hx hb dX12_advances_113 rfl (lv_at hl 0 rfl) ?_
      refine va_get (D := D) (ci := 11) (v := .int (nI (a + k))) (C := RX12) (T := TX12) (N := 21) hx hb hts u_X12_advances_X12 hown hK.1 hP 0 rfl rfl 9 (by decide) (hts (.fieldLink RX12 80 "NoticeWeekModel" "at" "I") (List.mem_of_getElem? (i := 1) rfl)) (fun _ h9 => h9) rfl dX12_advances_114 ?_
      refine lv_aload_n hx hb dX12_advances_117 rfl (lv_at hl 0 rfl) ?_
      refine va_get (D := D) (ci := 11) (v := .int (nI (a))) (C := RX12) (T := TX12) (N := 21) hx hb hts u_X12_advances_X12 hown hK.1 hP 0 rfl rfl 10 (by decide) (hts (.fieldLink RX12 83 "NoticeWeekModel" "start" "I") (List.mem_of_getElem? (i := 2) rfl)) (fun _ h9 => h9) rfl dX12_advances_118 ?_
      refine b_sub hx hb (by omega) dX12_advances_121 ?_
      refine lv_iconst (v := (nI 3)) hx hb dX12_advances_122 (by decide) ?_
      refine b_ge (tgt := 130) hx hb (by omega) (by omega) dX12_advances_123 (by decide) (fun c14 => ?_) (fun c14 => ?_)
      · have hk8 : ¬ k < 3 := by omega
        refine lv_iconst (v := 5) hx hb dX12_advances_130 (by decide) ?_
        refine b_put (C := RX12) (T := TX12) (N := 21) hx hb hts u_X12_advances_X12 tyX12 tyX12_ok nmX12 hown hK hP hD hS 0 rfl rfl 11 (by decide) (hts (.fieldLink RX12 92 "NoticeWeekModel" "token" "I") (List.mem_of_getElem? (i := 4) rfl)) rfl (by decide +kernel) (Nat.le_of_ble_eq_true rfl) dX12_advances_131 (fun H locs hP hS => ?_)
        have hP : va_P D vwCl (wM cI cZ A0 ss (nI t) fk fp (nI (a + k)) (nI a) 5 (vvf bt t a k) ac tr la ma it sr bt nw dr pa im kp tc) H := hP
        have hD : va_D A (wM cI cZ A0 ss (nI t) fk fp (nI (a + k)) (nI a) 5 (vvf bt t a k) ac tr la ma it sr bt nw dr pa im kp tc) := hD.sameA [(A0 0), (A0 1), (A0 2), (A0 3), (A0 4), (A0 5), (A0 6), (A0 7), (A0 8), (A0 9), (A0 10), (A0 11)] rfl rfl
        have E : adv bt t a = (a + k, 5, (vvf bt t a k)) := (by subst ex1; first | (simp only [adv, adA, adT, adV, eq_true c2, eq_false c13, hk9, eq_true c14, hk8, bI, not_true_eq_false, not_false_eq_true, ite_true, ite_false, if_true, if_false, and_self, and_true, true_and, false_and, and_false, or_true, true_or, or_false, false_or, eq_self]; done) | (simp [adv, adA, adT, adV, eq_true c2, eq_false c13, hk9, eq_true c14, hk8, bI]; done))
        rw [E]
        exact b_vretM hx hb hr hP hS dX12_advances_134 hlocks
      · have hk8 : k < 3 := by omega
        refine lv_iconst (v := 2) hx hb dX12_advances_126 (by decide) ?_
        refine lv_goto (tgt := 131) hx hb dX12_advances_127 (by decide) ?_
        refine b_put (C := RX12) (T := TX12) (N := 21) hx hb hts u_X12_advances_X12 tyX12 tyX12_ok nmX12 hown hK hP hD hS 0 rfl rfl 11 (by decide) (hts (.fieldLink RX12 92 "NoticeWeekModel" "token" "I") (List.mem_of_getElem? (i := 4) rfl)) rfl (by decide +kernel) (Nat.le_of_ble_eq_true rfl) dX12_advances_131 (fun H locs hP hS => ?_)
        have hP : va_P D vwCl (wM cI cZ A0 ss (nI t) fk fp (nI (a + k)) (nI a) 2 (vvf bt t a k) ac tr la ma it sr bt nw dr pa im kp tc) H := hP
        have hD : va_D A (wM cI cZ A0 ss (nI t) fk fp (nI (a + k)) (nI a) 2 (vvf bt t a k) ac tr la ma it sr bt nw dr pa im kp tc) := hD.sameA [(A0 0), (A0 1), (A0 2), (A0 3), (A0 4), (A0 5), (A0 6), (A0 7), (A0 8), (A0 9), (A0 10), (A0 11)] rfl rfl
        have E : adv bt t a = (a + k, 2, (vvf bt t a k)) := (by subst ex1; first | (simp only [adv, adA, adT, adV, eq_true c2, eq_false c13, hk9, eq_true c14, hk8, bI, not_true_eq_false, not_false_eq_true, ite_true, ite_false, if_true, if_false, and_self, and_true, true_and, false_and, and_false, or_true, true_or, or_false, false_or, eq_self]; done) | (simp [adv, adA, adT, adV, eq_true c2, eq_false c13, hk9, eq_true c14, hk8, bI]; done))
        rw [E]
        exact b_vretM hx hb hr hP hS dX12_advances_134 hlocks
    · have hdg := c13
      have hlt := byt_lt hdg
      refine lv_aload_n hx hb dX12_advances_56 rfl (lv_at hl 0 rfl) ?_
      refine lv_aload_n hx hb dX12_advances_57 rfl (lv_at hl 0 rfl) ?_
      refine va_get (D := D) (ci := 11) (v := .int (nI (a + k))) (C := RX12) (T := TX12) (N := 21) hx hb hts u_X12_advances_X12 hown hK.1 hP 0 rfl rfl 9 (by decide) (hts (.fieldLink RX12 80 "NoticeWeekModel" "at" "I") (List.mem_of_getElem? (i := 1) rfl)) (fun _ h9 => h9) rfl dX12_advances_58 ?_
      refine lv_aload_n hx hb dX12_advances_61 rfl (lv_at hl 0 rfl) ?_
      refine va_get (D := D) (ci := 11) (v := .int (nI (a))) (C := RX12) (T := TX12) (N := 21) hx hb hts u_X12_advances_X12 hown hK.1 hP 0 rfl rfl 10 (by decide) (hts (.fieldLink RX12 83 "NoticeWeekModel" "start" "I") (List.mem_of_getElem? (i := 2) rfl)) (fun _ h9 => h9) rfl dX12_advances_62 ?_
      refine b_sub hx hb (by omega) dX12_advances_65 ?_
      refine lv_iconst (v := (nI 2)) hx hb dX12_advances_66 (by decide) ?_
      refine b_ge (tgt := 92) hx hb (by omega) (by omega) dX12_advances_67 (by decide) (fun c15 => ?_) (fun c15 => ?_)
      · refine lv_aload_n hx hb dX12_advances_92 rfl (lv_at hl 0 rfl) ?_
        refine va_get (D := D) (ci := 11) (v := .int (vvf bt t a k)) (C := RX12) (T := TX12) (N := 21) hx hb hts u_X12_advances_X12 hown hK.1 hP 0 rfl rfl 12 (by decide) (hts (.fieldLink RX12 89 "NoticeWeekModel" "value" "I") (List.mem_of_getElem? (i := 3) rfl)) (fun _ h9 => h9) rfl dX12_advances_93 ?_
        refine b_put (C := RX12) (T := TX12) (N := 21) hx hb hts u_X12_advances_X12 tyX12 tyX12_ok nmX12 hown hK hP hD hS 0 rfl rfl 12 (by decide) (hts (.fieldLink RX12 89 "NoticeWeekModel" "value" "I") (List.mem_of_getElem? (i := 3) rfl)) rfl (by decide +kernel) (Nat.le_of_ble_eq_true rfl) dX12_advances_96 (fun H locs hP hS => ?_)
        have hP : va_P D vwCl (wM cI cZ A0 ss (nI t) fk fp (nI (a + k)) (nI a) tk (vvf bt t a k) ac tr la ma it sr bt nw dr pa im kp tc) H := hP
        have hD : va_D A (wM cI cZ A0 ss (nI t) fk fp (nI (a + k)) (nI a) tk (vvf bt t a k) ac tr la ma it sr bt nw dr pa im kp tc) := hD.sameA [(A0 0), (A0 1), (A0 2), (A0 3), (A0 4), (A0 5), (A0 6), (A0 7), (A0 8), (A0 9), (A0 10), (A0 11)] rfl rfl
        refine lv_aload_n hx hb dX12_advances_99 rfl (lv_at hl 0 rfl) ?_
        refine lv_dup hx hb dX12_advances_100 rfl ?_
        refine va_get (D := D) (ci := 11) (v := .int (nI (a + k))) (C := RX12) (T := TX12) (N := 21) hx hb hts u_X12_advances_X12 hown hK.1 hP 0 rfl rfl 9 (by decide) (hts (.fieldLink RX12 80 "NoticeWeekModel" "at" "I") (List.mem_of_getElem? (i := 1) rfl)) (fun _ h9 => h9) rfl dX12_advances_101 ?_
        refine lv_iconst (v := (nI 1)) hx hb dX12_advances_104 (by decide) ?_
        refine b_add hx hb dX12_advances_105 ?_
        refine b_put (C := RX12) (T := TX12) (N := 21) hx hb hts u_X12_advances_X12 tyX12 tyX12_ok nmX12 hown hK hP hD hS 0 rfl rfl 9 (by decide) (hts (.fieldLink RX12 80 "NoticeWeekModel" "at" "I") (List.mem_of_getElem? (i := 1) rfl)) rfl (by decide +kernel) (Nat.le_of_ble_eq_true rfl) dX12_advances_106 (fun H locs hP hS => ?_)
        have hP : va_P D vwCl (wM cI cZ A0 ss (nI t) fk fp (nI (a + k + 1)) (nI a) tk (vvf bt t a k) ac tr la ma it sr bt nw dr pa im kp tc) H := hP
        have hD : va_D A (wM cI cZ A0 ss (nI t) fk fp (nI (a + k + 1)) (nI a) tk (vvf bt t a k) ac tr la ma it sr bt nw dr pa im kp tc) := hD.sameA [(A0 0), (A0 1), (A0 2), (A0 3), (A0 4), (A0 5), (A0 6), (A0 7), (A0 8), (A0 9), (A0 10), (A0 11)] rfl rfl
        refine lv_goto (tgt := 38) hx hb dX12_advances_109 (by decide) ?_
        have st16 : (nI (a + k + 1)) = (nI (a + (k + 1))) := (by rw [Nat.add_assoc])
        rw [st16] at hP
        have st17 : (vvf bt t a k) = (vvf bt t a (k + 1)) := (by first | exact vvf_lt c15 | exact vvf_ge c15)
        rw [st17] at hP
        exact ih12 (by omega) ls H locs ⟨lv_sub hl [0] rfl, hP, hS, (rl_yes hF hdg)⟩
      · refine lv_bipush (v := 10) hx hb dX12_advances_70 (by decide) ?_
        refine lv_aload_n hx hb dX12_advances_72 rfl (lv_at hl 0 rfl) ?_
        refine va_get (D := D) (ci := 11) (v := .int (vvf bt t a k)) (C := RX12) (T := TX12) (N := 21) hx hb hts u_X12_advances_X12 hown hK.1 hP 0 rfl rfl 12 (by decide) (hts (.fieldLink RX12 89 "NoticeWeekModel" "value" "I") (List.mem_of_getElem? (i := 3) rfl)) (fun _ h9 => h9) rfl dX12_advances_73 ?_
        refine lv_imul hx hb dX12_advances_76 ?_
        refine lv_aload_n hx hb dX12_advances_77 rfl (lv_at hl 0 rfl) ?_
        refine lv_aload_n hx hb dX12_advances_78 rfl (lv_at hl 0 rfl) ?_
        refine va_get (D := D) (ci := 11) (v := .int (nI (a + k))) (C := RX12) (T := TX12) (N := 21) hx hb hts u_X12_advances_X12 hown hK.1 hP 0 rfl rfl 9 (by decide) (hts (.fieldLink RX12 80 "NoticeWeekModel" "at" "I") (List.mem_of_getElem? (i := 1) rfl)) (fun _ h9 => h9) rfl dX12_advances_79 ?_
        refine b_call (va_runV (As := [.int (nI (a + k))]) (rest := [.int (10 * (vvf bt t a k)), .ref (A0 0)]) ⟨hx, hb, hml, hown, hts⟩ (c_X12_byteAt l D cI cZ cT A0 ss t fk fp (nI (a + k)) (nI a) tk (vvf bt t a k) ac tr la ma it sr bt nw dr pa im kp tc (a + k) ht (by omega)) (cwV 1 hts gX12_advances_X12_byteAt rfl rfl rfl (by decide +kernel) ⟨(Nat.le_of_ble_eq_true rfl), (Nat.le_of_ble_eq_true rfl)⟩) (b_pV hK hP [0, 1, 2, 3, 4, 5, 6, 7, 8, 9, 10, 11] rfl 0 rfl rfl) rfl rfl hl.1 rfl (lv_room (Nat.le_of_ble_eq_true rfl)) dX12_advances_82 ⟨Nat.zero_le _, Nat.zero_le _⟩).run ?_
        refine lv_iadd hx hb dX12_advances_85 ?_
        refine lv_bipush (v := 48) hx hb dX12_advances_86 (by decide) ?_
        refine lv_isub hx hb dX12_advances_88 ?_
        refine lv_goto (tgt := 96) hx hb dX12_advances_89 (by decide) ?_
        refine b_put (C := RX12) (T := TX12) (N := 21) hx hb hts u_X12_advances_X12 tyX12 tyX12_ok nmX12 hown hK hP hD hS 0 rfl rfl 12 (by decide) (hts (.fieldLink RX12 89 "NoticeWeekModel" "value" "I") (List.mem_of_getElem? (i := 3) rfl)) rfl (by decide +kernel) (Nat.le_of_ble_eq_true rfl) dX12_advances_96 (fun H locs hP hS => ?_)
        have hP : va_P D vwCl (wM cI cZ A0 ss (nI t) fk fp (nI (a + k)) (nI a) tk (((10 * (vvf bt t a k)) + (byt bt t (a + k))) - 48) ac tr la ma it sr bt nw dr pa im kp tc) H := hP
        have hD : va_D A (wM cI cZ A0 ss (nI t) fk fp (nI (a + k)) (nI a) tk (((10 * (vvf bt t a k)) + (byt bt t (a + k))) - 48) ac tr la ma it sr bt nw dr pa im kp tc) := hD.sameA [(A0 0), (A0 1), (A0 2), (A0 3), (A0 4), (A0 5), (A0 6), (A0 7), (A0 8), (A0 9), (A0 10), (A0 11)] rfl rfl
        refine lv_aload_n hx hb dX12_advances_99 rfl (lv_at hl 0 rfl) ?_
        refine lv_dup hx hb dX12_advances_100 rfl ?_
        refine va_get (D := D) (ci := 11) (v := .int (nI (a + k))) (C := RX12) (T := TX12) (N := 21) hx hb hts u_X12_advances_X12 hown hK.1 hP 0 rfl rfl 9 (by decide) (hts (.fieldLink RX12 80 "NoticeWeekModel" "at" "I") (List.mem_of_getElem? (i := 1) rfl)) (fun _ h9 => h9) rfl dX12_advances_101 ?_
        refine lv_iconst (v := (nI 1)) hx hb dX12_advances_104 (by decide) ?_
        refine b_add hx hb dX12_advances_105 ?_
        refine b_put (C := RX12) (T := TX12) (N := 21) hx hb hts u_X12_advances_X12 tyX12 tyX12_ok nmX12 hown hK hP hD hS 0 rfl rfl 9 (by decide) (hts (.fieldLink RX12 80 "NoticeWeekModel" "at" "I") (List.mem_of_getElem? (i := 1) rfl)) rfl (by decide +kernel) (Nat.le_of_ble_eq_true rfl) dX12_advances_106 (fun H locs hP hS => ?_)
        have hP : va_P D vwCl (wM cI cZ A0 ss (nI t) fk fp (nI (a + k + 1)) (nI a) tk (((10 * (vvf bt t a k)) + (byt bt t (a + k))) - 48) ac tr la ma it sr bt nw dr pa im kp tc) H := hP
        have hD : va_D A (wM cI cZ A0 ss (nI t) fk fp (nI (a + k + 1)) (nI a) tk (((10 * (vvf bt t a k)) + (byt bt t (a + k))) - 48) ac tr la ma it sr bt nw dr pa im kp tc) := hD.sameA [(A0 0), (A0 1), (A0 2), (A0 3), (A0 4), (A0 5), (A0 6), (A0 7), (A0 8), (A0 9), (A0 10), (A0 11)] rfl rfl
        refine lv_goto (tgt := 38) hx hb dX12_advances_109 (by decide) ?_
        have st18 : (nI (a + k + 1)) = (nI (a + (k + 1))) := (by rw [Nat.add_assoc])
        rw [st18] at hP
        have st19 : (((10 * (vvf bt t a k)) + (byt bt t (a + k))) - 48) = (vvf bt t a (k + 1)) := (by first | exact vvf_lt c15 | exact vvf_ge c15)
        rw [st19] at hP
        exact ih12 (by omega) ls H locs ⟨lv_sub hl [0] rfl, hP, hS, (rl_yes hF hdg)⟩
