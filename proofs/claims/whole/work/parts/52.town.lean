/-! PURE: a town's readers -/
def RRd (kd dd nt lf f : Nat → Int32) (r : Nat) : Prop := kd r = f (4 + 4 * r) ∧ isK (kd r) ∧ dd r = f (4 + 4 * r + 1) ∧ is63 (dd r) ∧ nt r = f (4 + 4 * r + 2) ∧ is63 (nt r) ∧ lf r = f (4 + 4 * r + 3) ∧ isL (lf r)
def TR (st dy ln : Int32) (n : Nat) (kd dd nt lf f : Nat → Int32) : Prop := (st = 0 ∨ st = 1) ∧ st = f 0 ∧ ln = f 1 ∧ dy = f 2 ∧ (∃ d, d ≤ 999 ∧ dy = nI d) ∧ TK f n ∧ ∀ r, r < n → RRd kd dd nt lf f r
def TRl (y : TS) (f : Nat → Int32) : Prop := ∃ n, y.2.2.2.1 = nI n ∧ TR y.1 y.2.1 y.2.2.1 n y.2.2.2.2.1 y.2.2.2.2.2.1 y.2.2.2.2.2.2.1 y.2.2.2.2.2.2.2 f
section PT
variable {st dy ln : Int32} {n : Nat} {kd dd nt lf f : Nat → Int32}
theorem TR.ar (h : TR st dy ln n kd dd nt lf f) : ∀ j, j < n → isK (kd j) ∧ isL (lf j) := fun j hj => ⟨(h.2.2.2.2.2.2 j hj).2.1, (h.2.2.2.2.2.2 j hj).2.2.2.2.2.2.2⟩
theorem TR.n6 (h : TR st dy ln n kd dd nt lf f) : n ≤ 6 := h.2.2.2.2.2.1.1
theorem TR.rd (h : TR st dy ln n kd dd nt lf f) {r : Nat} (hr : r < n) : RRd kd dd nt lf f r := h.2.2.2.2.2.2 r hr
theorem TR.st0 (h : TR st dy ln n kd dd nt lf f) : st = 0 ↔ ¬ f 0 = 1 := by
  obtain ⟨h1, h2, -⟩ := h
  rw [← h2]
  rcases h1 with rfl | rfl <;> decide
theorem hasR (h : TR st dy ln n kd dd nt lf f) (x : Int32) : hasN n x ↔ isR f x := by
  obtain ⟨-, -, -, -, -, ⟨hn, h3, -⟩, -⟩ := h
  show (¬ x < 0 ∧ ¬ nI n ≤ x) ↔ (¬ x < 0 ∧ ¬ f 3 - 1 < x)
  have e : (nI n - 1).toInt = (n : Int) - 1 := i_subT (by omega) 1 (by omega)
  rw [h3]
  refine and_congr_right (fun _ => ?_)
  rw [i_le, nI_toInt (by omega), i_lt (nI n - 1), e]
  omega
theorem rdx {x : Int32} (hn : n ≤ 6) (h : hasN n x) : ∃ r, r < n ∧ x = nI r ∧ tn x = r := by
  obtain ⟨r, hr, rfl⟩ := has_r hn h
  exact ⟨r, rd_lt hn hr h, rfl, tn_nI hr⟩
theorem dy0 (x : Int32) : x + nI 0 = x := Int32.add_zero x
/-- what one will have done -/
theorem go_any (h : TR st dy ln n kd dd nt lf f) {r : Nat} (hr : r < n) {kk nu did : Int32} (hk : isK kk) (hn : is63 nu) (d : Nat) : goF (f 2) kk nu (min d (tn (f (4 + 4 * r + 3)))) did = dnB kk dy did nu (min 12 (min d (tn (lf r)))) := by
  obtain ⟨-, -, -, hd, ⟨d9, hd9, hde⟩, -, hR⟩ := h
  obtain ⟨-, -, -, -, -, -, g7, -⟩ := hR r hr
  rw [go_dnB hk hn, ← g7, ← hd, hde, dnB_12 hd9 hk hn]
theorem dd_eq (h : TR st dy ln n kd dd nt lf f) {r : Nat} (hr : r < n) (d : Nat) : ddI f r d = dnB (kd r) dy (dd r) (nt r) (min 12 (min d (tn (lf r)))) := by
  obtain ⟨g1, g2, g3, g4, g5, g6, g7, g8⟩ := h.rd hr
  unfold ddI
  rw [← g1, ← g3, ← g5]
  exact go_any h hr g2 g6 d
theorem fs_eq (h : TR st dy ln n kd dd nt lf f) {r : Nat} (hr : r < n) (d : Nat) : fsI f r d = bc32 (dnB (kd r) dy (dd r) (nt r) (min 12 (min d (tn (lf r)))) ^^^ nt r) := by
  obtain ⟨g1, g2, g3, g4, g5, g6, g7, g8⟩ := h.rd hr
  unfold fsI
  rw [dd_eq h hr, ← g5]
  exact ones_bc (c_xor (c_dnB g4 g6 _) g6)
theorem fs_0 (h : TR st dy ln n kd dd nt lf f) {r : Nat} (hr : r < n) : fsI f r 0 = bc32 (dd r ^^^ nt r) := by
  rw [fs_eq h hr]
  have : min 12 (min 0 (tn (lf r))) = 0 := by omega
  rw [this]; rfl
theorem lst_sub (v x : Int32) : lst (v &&& x) &&& x = lst (v &&& x) := by
  apply b_ext; intro i hi
  unfold lst
  rw [b_and, b_and, b_and]
  cases bq v i <;> cases bq x i <;> cases bq (-(v &&& x)) i <;> rfl
theorem tDo_sub (k day did nu : Int32) : tDo k day did nu &&& (did ^^^ (-1)) = tDo k day did nu := by
  have h1 : lst (tld did nu) &&& (did ^^^ (-1)) = lst (tld did nu) := lst_sub _ _
  have h2 : lst (oth did nu) &&& (did ^^^ (-1)) = lst (oth did nu) := lst_sub _ _
  have h3 : lst (tld did nu &&& (lst (tld did nu) ^^^ (-1))) &&& (did ^^^ (-1)) = lst (tld did nu &&& (lst (tld did nu) ^^^ (-1))) := by
    apply b_ext; intro i hi
    unfold lst tld
    rw [b_and, b_and, b_and, b_and]
    generalize bq (-(nu &&& (did ^^^ -1) &&& ((nu &&& (did ^^^ -1) &&& -(nu &&& (did ^^^ -1))) ^^^ -1))) i = z1
    generalize bq ((nu &&& (did ^^^ -1) &&& -(nu &&& (did ^^^ -1))) ^^^ -1) i = z2
    cases bq nu i <;> cases bq (did ^^^ -1) i <;> cases z1 <;> cases z2 <;> rfl
  have h4 : (lst (tld did nu) ||| lst (tld did nu &&& (lst (tld did nu) ^^^ (-1)))) &&& (did ^^^ (-1)) = lst (tld did nu) ||| lst (tld did nu &&& (lst (tld did nu) ^^^ (-1))) := by
    have hd : ∀ a b c : Int32, (a ||| b) &&& c = (a &&& c) ||| (b &&& c) := fun a b c => by
      apply b_ext; intro i hi
      rw [b_and, b_or, b_or, b_and, b_and]
      cases bq a i <;> cases bq b i <;> cases bq c i <;> rfl
    rw [hd, h1, h3]
  have h0 : (0 : Int32) &&& (did ^^^ (-1)) = 0 := by
    apply b_ext; intro i hi
    rw [b_and, b_0]; rfl
  unfold tDo
  split
  · exact h1
  · split
    · exact h4
    · split
      · split
        · exact h0
        · exact h1
      · split
        · exact h2
        · split
          · exact h2
          · exact h0
theorem or_nand (a b : Int32) : (a ||| b) &&& (a ^^^ (-1)) = b &&& (a ^^^ (-1)) := by
  apply b_ext; intro i hi
  rw [b_and, b_or, b_and, b_xor, b_m1 i hi]
  cases bq a i <;> cases bq b i <;> rfl
theorem nand (a : Int32) : a &&& (a ^^^ (-1)) = 0 := by
  apply b_ext; intro i hi
  rw [b_and, b_xor, b_m1 i hi, b_0]
  cases bq a i <;> rfl
theorem lf_0 {x : Int32} (h : isL x) : x ≤ 0 ↔ tn x = 0 := by
  obtain ⟨k, hk, rfl⟩ := h
  rw [tn_nI hk]
  constructor
  · intro h; exact nI_np (by omega) h
  · intro h; subst h; decide
theorem e_reader (h : TR st dy ln n kd dd nt lf f) (reader what : Int32) : x_reader dy n kd dd nt lf reader what = m_reader f reader what := by
  unfold x_reader m_reader
  by_cases h1 : hasN n reader
  · rw [if_neg (not_not_intro h1), if_neg (not_not_intro ((hasR h reader).mp h1))]
    obtain ⟨r, hr, rfl, e⟩ := rdx h.n6 h1
    obtain ⟨g1, g2, g3, g4, g5, g6, g7, g8⟩ := h.rd hr
    rw [e, fs_0 h hr, ← g3, ← g5, ← g7]
    have h4 : (if ¬ lf r ≤ 0 then tDo (kd r) dy (dd r) (nt r) else 0) = ddI f r 1 &&& (dd r ^^^ (-1)) := by
      rw [dd_eq h hr]
      by_cases hl : lf r ≤ 0
      · rw [if_neg (not_not_intro hl), (lf_0 g8).mp hl]
        exact (nand _).symm
      · rw [if_pos hl]
        have : min 12 (min 1 (tn (lf r))) = 1 := by
          have := mt (lf_0 g8).mpr hl
          omega
        rw [this]
        show _ = (dd r ||| tDo (kd r) (dy + nI 0) (dd r) (nt r)) &&& (dd r ^^^ (-1))
        rw [or_nand, dy0, tDo_sub]
    rw [h4]
  · rw [if_pos h1, if_pos (mt (hasR h reader).mpr h1)]
theorem e_deeds (h : TR st dy ln n kd dd nt lf f) (reader d : Int32) : x_deeds dy n kd dd nt lf reader d = m_deeds f reader d := by
  unfold x_deeds m_deeds
  by_cases h1 : hasN n reader
  · rw [if_neg (not_not_intro h1), if_neg (not_not_intro ((hasR h reader).mp h1))]
    obtain ⟨r, hr, rfl, e⟩ := rdx h.n6 h1
    rw [e, dd_eq h hr]
  · rw [if_pos h1, if_pos (mt (hasR h reader).mpr h1)]
theorem e_lines (h : TR st dy ln n kd dd nt lf f) (reader d : Int32) : x_lines dy n kd dd nt lf reader d = m_lines f reader d := by
  unfold x_lines m_lines
  by_cases h1 : hasN n reader
  · rw [if_neg (not_not_intro h1), if_neg (not_not_intro ((hasR h reader).mp h1))]
    obtain ⟨r, hr, rfl, e⟩ := rdx h.n6 h1
    rw [e, fs_eq h hr]
  · rw [if_pos h1, if_pos (mt (hasR h reader).mpr h1)]
theorem e_ends (h : TR st dy ln n kd dd nt lf f) (reader : Int32) : x_ends dy n kd dd nt lf reader = m_ends f reader := by
  unfold x_ends m_ends
  by_cases h1 : hasN n reader
  · rw [if_neg (not_not_intro h1), if_neg (not_not_intro ((hasR h reader).mp h1))]
    obtain ⟨r, hr, rfl, e⟩ := rdx h.n6 h1
    rw [e, fs_eq h hr]
  · rw [if_pos h1, if_pos (mt (hasR h reader).mpr h1)]
theorem e_kind (h : TR st dy ln n kd dd nt lf f) (reader : Int32) : x_kind n kd reader = m_kind f reader := by
  unfold x_kind m_kind
  by_cases h1 : hasN n reader
  · rw [if_neg (not_not_intro h1), if_neg (not_not_intro ((hasR h reader).mp h1))]
    obtain ⟨r, hr, rfl, e⟩ := rdx h.n6 h1
    rw [e, (h.rd hr).1]
  · rw [if_pos h1, if_pos (mt (hasR h reader).mpr h1)]
theorem e_dead (h : TR st dy ln n kd dd nt lf f) (d : Int32) : x_dead st n lf d = m_dead f n d := by
  have hd : ∀ k, k ≤ n → dbF lf d k = deF f d k := by
    intro k
    induction k with
    | zero => intro _; rfl
    | succ k ih =>
      intro hk
      show (if d < lf k then dbF lf d k else dbF lf d k ||| (1 <<< (nI k &&& 31))) = deF f d k ||| (if d < f (4 + 4 * k + 3) then (0 : Int32) else 1 <<< (nI k &&& 31))
      rw [ih (by omega), (h.rd (show k < n by omega)).2.2.2.2.2.2.1]
      by_cases hq : d < f (4 + 4 * k + 3)
      · rw [if_pos hq, if_pos hq, or_0]
      · rw [if_neg hq, if_neg hq]
  unfold x_dead m_dead
  by_cases h1 : st = 0
  · rw [if_pos h1, if_pos (h.st0.mp h1)]
  · rw [if_neg h1, if_neg (mt h.st0.mpr h1), hd n (Nat.le_refl n)]
theorem b_one : ∀ r, r < 8 → ∀ i, i < 32 → bq ((1 : Int32) <<< (nI r &&& 31)) i = decide (i = r) := by decide +kernel
theorem b_low : ∀ n, n < 7 → ∀ i, i < 32 → bq (((1 : Int32) <<< (nI n &&& 31)) - 1) i = decide (i < n) := by decide +kernel
theorem one63 : ∀ r, r < 6 → is63 ((1 : Int32) <<< (nI r &&& 31)) := by
  intro r hr
  rcases (show r = 0 ∨ r = 1 ∨ r = 2 ∨ r = 3 ∨ r = 4 ∨ r = 5 by omega) with rfl | rfl | rfl | rfl | rfl | rfl
  · exact ⟨1, by omega, by decide⟩
  · exact ⟨2, by omega, by decide⟩
  · exact ⟨4, by omega, by decide⟩
  · exact ⟨8, by omega, by decide⟩
  · exact ⟨16, by omega, by decide⟩
  · exact ⟨32, by omega, by decide⟩
theorem lt0_le (x : Int32) : (0 : Int32) < x ↔ ¬ x ≤ 0 := by
  rw [i_lt, i_le]; omega
theorem b_lvI (f : Nat → Int32) : ∀ k, k ≤ 6 → ∀ i, i < 32 → bq (lvI f k) i = decide (i < k ∧ lvs f i) := by
  intro k
  induction k with
  | zero => intro _ i hi; rw [show decide (i < 0 ∧ lvs f i) = false by simp]; exact b_0 i
  | succ k ih =>
    intro hk i hi
    show bq (lvI f k ||| (if lvs f k then 1 <<< (nI k &&& 31) else 0)) i = _
    rw [b_or, ih (by omega) i hi]
    by_cases hl : lvs f k
    · rw [if_pos hl, b_one k (by omega) i hi]
      by_cases hik : i = k
      · subst hik
        have hl' := (lt0_le _).mpr hl
        simp [hl']
      · by_cases hlt : i < k
        · simp [hlt, hik, show i < k + 1 by omega]
        · simp [hlt, hik, show ¬ i < k + 1 by omega]
    · rw [if_neg hl, b_0, Bool.or_false]
      by_cases hik : i = k
      · subst hik; simp [hl]
      · by_cases hlt : i < k
        · simp [hlt, show i < k + 1 by omega]
        · simp [hlt, show ¬ i < k + 1 by omega]
theorem b_dbF (lf : Nat → Int32) : ∀ k, k ≤ 6 → ∀ i, i < 32 → bq (dbF lf 0 k) i = decide (i < k ∧ lf i ≤ 0) := by
  intro k
  induction k with
  | zero => intro _ i hi; rw [show decide (i < 0 ∧ lf i ≤ 0) = false by simp]; exact b_0 i
  | succ k ih =>
    intro hk i hi
    show bq (if 0 < lf k then dbF lf 0 k else dbF lf 0 k ||| (1 <<< (nI k &&& 31))) i = _
    by_cases hl : lf k ≤ 0
    · rw [if_neg (fun z => (lt0_le _).mp z hl), b_or, ih (by omega) i hi, b_one k (by omega) i hi]
      by_cases hik : i = k
      · subst hik; simp [hl]
      · by_cases hlt : i < k
        · simp [hlt, hik, show i < k + 1 by omega]
        · simp [hlt, hik, show ¬ i < k + 1 by omega]
    · rw [if_pos ((lt0_le _).mpr hl), ih (by omega) i hi]
      by_cases hik : i = k
      · subst hik; simp [hl]
      · by_cases hlt : i < k
        · simp [hlt, show i < k + 1 by omega]
        · simp [hlt, show ¬ i < k + 1 by omega]
theorem living_eq (h : TR st dy ln n kd dd nt lf f) : lvT lf n = lvI f n := by
  apply b_ext; intro i hi
  have hn := h.n6
  unfold lvT
  rw [b_and, b_xor, b_low n (by omega) i hi, b_dbF lf n hn i hi, b_m1 i hi, b_lvI f n hn i hi]
  by_cases hin : i < n
  · have e := (h.rd hin).2.2.2.2.2.2.1
    rw [e]
    by_cases hl : f (4 + 4 * i + 3) ≤ 0
    · simp [hin, hl]
    · have hl' := (lt0_le _).mpr hl
      simp [hin, hl, hl']
  · simp [hin]
theorem c_lvI (f : Nat → Int32) : ∀ k, k ≤ 6 → is63 (lvI f k) := by
  intro k
  induction k with
  | zero => intro _; exact c_0
  | succ k ih =>
    intro hk
    show is63 (lvI f k ||| (if lvs f k then 1 <<< (nI k &&& 31) else 0))
    refine c_or (ih (by omega)) ?_
    split
    · exact one63 k (by omega)
    · exact c_0
theorem true_eq (h : TR st dy ln n kd dd nt lf f) : ∀ k, k ≤ n → tnF dd nt k = trF f k := by
  intro k
  induction k with
  | zero => intro _; rfl
  | succ k ih =>
    intro hk
    show (if bc32 (dd k ^^^ nt k) = 0 then tnF dd nt k + 1 else tnF dd nt k) = trF f k + (if fsI f k 0 = 0 then 1 else 0)
    rw [ih (by omega), fs_0 h (show k < n by omega)]
    by_cases hq : bc32 (dd k ^^^ nt k) = 0
    · rw [if_pos hq, if_pos hq]
    · rw [if_neg hq, if_neg hq]; exact (Int32.add_zero _).symm
theorem e_count (h : TR st dy ln n kd dd nt lf f) {la sz it mla mma mit : Nat → Int32} (hR : RRw la sz it mla mma mit) {nc t : Nat} (what : Int32) : x_count la dy ln n dd nt lf (nI nc) t what = m_count f mla n nc t what := by
  unfold x_count m_count
  rw [e_present hR, living_eq h, ← ones_bc (c_lvI f n h.n6), true_eq h n (Nat.le_refl n), h.2.2.2.2.2.1.2.1, ← h.2.2.2.1, ← h.2.2.1]
/-! what is chosen -/
theorem cho_C (x : Int32) : isC x ↔ cho x := by
  constructor
  · rintro (rfl | rfl) <;> decide
  · intro h
    obtain ⟨r, hr, rfl⟩ := i_nat 1 h.1 h.2 rfl (by decide)
    rcases (show r = 0 ∨ r = 1 by omega) with rfl | rfl
    · exact Or.inl rfl
    · exact Or.inr rfl
theorem nN {k : Nat} (h : k ≤ 1000) : ¬ nI k = -1000000 := fun e => by
  have := nI_pos (n := k) (by omega)
  rw [e] at this
  exact this (by decide)
theorem fu_eq (h : TR st dy ln n kd dd nt lf f) : ∀ k, k ≤ n → (fuF dy kd dd nt lf k).1 = frB f k ∧ ((frB f k = -1000000 ∧ (fuF dy kd dd nt lf k).2 = 61) ∨ ∃ j, j < k ∧ frB f k = nI j ∧ (fuF dy kd dd nt lf k).2 = f (4 + 4 * j + 3)) := by
  intro k
  induction k with
  | zero => intro _; exact ⟨rfl, Or.inl ⟨rfl, rfl⟩⟩
  | succ k ih =>
    intro hk
    obtain ⟨i1, i2⟩ := ih (by omega)
    have hkn : k < n := by omega
    have hn6 := h.n6
    obtain ⟨g1, g2, g3, g4, g5, g6, g7, g8⟩ := h.rd hkn
    have e1 : fuF dy kd dd nt lf (k + 1) = if ¬ lf k ≤ 0 ∧ ¬ (fuF dy kd dd nt lf k).2 ≤ lf k ∧ ¬ flB dy kd dd nt lf k ≤ 0 then (nI k, lf k) else fuF dy kd dd nt lf k := rfl
    have e2 : frB f (k + 1) = frS f k (frB f k) := rfl
    have hfl : flB dy kd dd nt lf k = fsI f k 60 := (fs_eq h hkn 60).symm
    rw [e1, e2, hfl]
    unfold frS
    have hc : (¬ lf k ≤ 0 ∧ ¬ (fuF dy kd dd nt lf k).2 ≤ lf k ∧ ¬ fsI f k 60 ≤ 0) ↔ ((lvs f k ∧ ¬ fsI f k 60 ≤ 0) ∧ (frB f k = -1000000 ∨ ¬ f (4 + 4 * tn (frB f k) + 3) ≤ f (4 + 4 * k + 3))) := by
      unfold lvs
      rw [← g7]
      rcases i2 with ⟨a1, a2⟩ | ⟨j, hj, a1, a2⟩
      · have : ¬ (61 : Int32) ≤ lf k := by
          obtain ⟨d, hd, e⟩ := g8
          rw [e, i_le, nI_toInt (by omega)]
          have : (61 : Int32).toInt = 61 := rfl
          omega
        rw [a2, a1]
        exact ⟨fun z => ⟨⟨z.1, z.2.2⟩, Or.inl rfl⟩, fun z => ⟨z.1.1, this, z.1.2⟩⟩
      · rw [a2, a1, tn_nI (show j ≤ 1000 by omega)]
        exact ⟨fun z => ⟨⟨z.1, z.2.2⟩, Or.inr z.2.1⟩, fun z => ⟨z.1.1, z.2.resolve_left (nN (by omega)), z.1.2⟩⟩
    by_cases hq : ¬ lf k ≤ 0 ∧ ¬ (fuF dy kd dd nt lf k).2 ≤ lf k ∧ ¬ fsI f k 60 ≤ 0
    · rw [if_pos hq, if_pos (hc.mp hq)]
      exact ⟨rfl, Or.inr ⟨k, by omega, rfl, g7⟩⟩
    · rw [if_neg hq, if_neg (mt hc.mpr hq)]
      refine ⟨i1, ?_⟩
      rcases i2 with z | ⟨j, hj, a1, a2⟩
      · exact Or.inl z
      · exact Or.inr ⟨j, by omega, a1, a2⟩
theorem e_first (h : TR st dy ln n kd dd nt lf f) (what : Int32) : x_first st dy n kd dd nt lf what = m_first f n what := by
  obtain ⟨i1, i2⟩ := fu_eq h n (Nat.le_refl n)
  have hE : fuE dy kd dd nt lf n = frB f n := i1
  have hn6 := h.n6
  unfold x_first m_first
  by_cases h1 : st = 0
  · rw [if_pos h1, if_pos (h.st0.mp h1)]
  · rw [if_neg h1, if_neg (mt h.st0.mpr h1), hE]
    by_cases h2 : isC what
    · rw [if_neg (not_not_intro h2), if_neg (not_not_intro ((cho_C what).mp h2))]
      rcases i2 with ⟨a1, -⟩ | ⟨j, hj, a1, -⟩
      · rw [if_pos a1, if_pos a1]
      · rw [a1, tn_nI (show j ≤ 1000 by omega), (h.rd hj).2.2.2.2.2.2.1]
    · rw [if_pos h2, if_pos (mt (cho_C what).mpr h2)]
end PT
