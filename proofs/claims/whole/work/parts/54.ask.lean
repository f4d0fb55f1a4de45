/-! PURE: asks; what a row tells -/
def RZ (a b : Nat × (Nat → Int32)) : Prop := a.1 = b.1 ∧ a.1 ≤ 16 ∧ ∀ k, k < a.1 → a.2 k = b.2 k
theorem RZ.beg {a b : Nat × (Nat → Int32)} (h : RZ a b) (x : Int32) : RZ (m_beg a x) (m_beg b x) := by
  obtain ⟨h1, h2, h3⟩ := h
  unfold m_beg
  rw [← h1]
  by_cases h4 : 16 ≤ a.1
  · rw [if_pos h4, if_pos h4]; exact ⟨h1, h2, h3⟩
  · rw [if_neg h4, if_neg h4]
    refine ⟨rfl, by show a.1 + 1 ≤ 16; omega, fun k hk => ?_⟩
    show upd a.2 a.1 x k = upd b.2 a.1 x k
    have hk : k < a.1 + 1 := hk
    by_cases hka : k = a.1
    · subst hka; rw [pk_us, pk_us]
    · rw [pk_un hka, pk_un hka]; exact h3 k (by omega)
section PA
variable {st dy ln : Int32} {n : Nat} {kd dd nt lf f : Nat → Int32}
theorem lit_ne : ¬ (1 : Int32) = 2 ∧ ¬ (3 : Int32) = 2 ∧ ¬ (2 : Int32) = 1 ∧ ¬ (3 : Int32) = 1 ∧ ¬ (4 : Int32) = 5 ∧ (1 : Int32) < 4 ∧ (2 : Int32) < 4 ∧ (3 : Int32) < 4 ∧ ¬ (4 : Int32) < 4 ∧ ¬ (5 : Int32) < 4 := by decide
theorem k_ne : ¬ (2 : Int32) = 1 ∧ ¬ (3 : Int32) = 1 ∧ ¬ (3 : Int32) = 2 ∧ ¬ (4 : Int32) = 1 ∧ ¬ (4 : Int32) = 2 ∧ ¬ (4 : Int32) = 3 ∧ ¬ (5 : Int32) = 1 ∧ ¬ (5 : Int32) = 2 ∧ ¬ (5 : Int32) = 3 ∧ ¬ (5 : Int32) = 4 := by decide
theorem e_ask (h : TR st dy ln n kd dd nt lf f) {z z' : Nat × (Nat → Int32)} (hz : RZ z z') (reader what : Int32) : (x_ask n kd dd nt z reader what).1 = (m_ask f z' reader what).1 ∧ RZ (x_ask n kd dd nt z reader what).2 (m_ask f z' reader what).2 := by
  have h0 : RZ (0, z.2) (0, z'.2) := ⟨rfl, Nat.zero_le _, fun k hk => absurd hk (Nat.not_lt_zero k)⟩
  unfold x_ask m_ask
  by_cases h1 : hasN n reader
  · rw [if_neg (not_not_intro h1), if_neg (not_not_intro ((hasR h reader).mp h1))]
    by_cases h2 : isC what
    · rw [if_neg (not_not_intro h2), if_neg (not_not_intro ((cho_C what).mp h2))]
      obtain ⟨r, hr, rfl, e⟩ := rdx h.n6 h1
      obtain ⟨g1, g2, g3, g4, g5, g6, g7, g8⟩ := h.rd hr
      rw [e]
      obtain ⟨l1, l2, l3, l4, l5, l6, l7, l8, l9, l10⟩ := lit_ne
      obtain ⟨k1, k2, k3, k4, k5, k6, k7, k8, k9, k10⟩ := k_ne
      rcases h2 with rfl | rfl
      · rw [if_pos rfl, if_pos rfl]
        unfold m_csize m_psize m_pmark aSz
        rw [← g1, ← g3, ← g5, ones_bc g4, ones_bc g6]
        rcases g2 with q | q | q | q | q
        · rw [q]; simp only [l1, l6, not_true_eq_false, if_false, if_true]; exact ⟨trivial, (((h0.beg 11).beg 10).beg 21).beg 20⟩
        · rw [q]; simp only [k1, l7, not_true_eq_false, if_false, if_true]; exact ⟨trivial, (((((h0.beg 12).beg 11).beg 10).beg 24).beg 21).beg 20⟩
        · rw [q]; simp only [k2, k3, l8, not_true_eq_false, if_false, if_true]; exact ⟨trivial, ((((h0.beg 11).beg 10).beg 22).beg 21).beg 20⟩
        · rw [q]; simp only [k4, k5, k6, l9, l5, not_false_eq_true, if_false, if_true]; exact ⟨trivial, (h0.beg 13).beg 10⟩
        · rw [q]; simp only [k7, k8, k9, k10, l10, not_false_eq_true, if_false, if_true]; exact ⟨trivial, ((h0.beg 14).beg 13).beg 10⟩
      · rw [if_neg (show ¬ (1 : Int32) = 0 by decide), if_neg (show ¬ (1 : Int32) = 0 by decide)]
        unfold m_cmark m_csize m_pmark aMk
        rw [← g1, ← g3, ← g5, ones_bc g4, ones_bc g6]
        rcases g2 with q | q | q | q | q
        · rw [q]; simp only [l1, l6, not_true_eq_false, if_false, if_true]; exact ⟨trivial, (h0.beg 21).beg 20⟩
        · rw [q]; simp only [k1, l7, not_true_eq_false, if_false, if_true]; exact ⟨trivial, ((h0.beg 24).beg 21).beg 20⟩
        · rw [q]; simp only [k2, k3, l8, not_true_eq_false, if_false, if_true]; exact ⟨trivial, ((h0.beg 22).beg 21).beg 20⟩
        · rw [q]; simp only [k4, k5, k6, l9, l5, not_false_eq_true, if_false, if_true]; exact ⟨trivial, (((h0.beg 23).beg 20).beg 13).beg 10⟩
        · rw [q]; simp only [k7, k8, k9, k10, l10, not_false_eq_true, if_false, if_true]; exact ⟨trivial, ((((h0.beg 23).beg 20).beg 14).beg 13).beg 10⟩
    · rw [if_pos h2, if_pos (mt (cho_C what).mpr h2)]; exact ⟨rfl, hz⟩
  · rw [if_pos h1, if_pos (mt (hasR h reader).mpr h1)]; exact ⟨rfl, hz⟩
theorem itr_0 {g : Nat → Int32} {f : Nat → Int32} (n k : Nat) : (itr (fun j f => upd f j (g j)) n f) k = if k < n then g k else f k := by
  induction n with
  | zero => rw [if_neg (by omega)]; rfl
  | succ n ih =>
    show upd (itr (fun j f => upd f j (g j)) n f) n (g n) k = _
    by_cases h : k = n
    · subst h; rw [pk_us, if_pos (by omega)]
    · rw [pk_un h, ih]
      by_cases h2 : k < n
      · rw [if_pos h2, if_pos (by omega)]
      · rw [if_neg h2, if_neg (by omega)]
theorem lcD_eq {kk dy dr nu lr : Int32} (hl : isL lr) : ∀ k, k ≤ 900 → lcD kk dy dr nu lr k = dnB kk dy dr nu (min k (tn lr)) := by
  obtain ⟨l, hl60, rfl⟩ := hl
  rw [tn_nI hl60]
  intro k
  induction k with
  | zero => intro _; rw [show min 0 l = 0 by omega]; rfl
  | succ k ih =>
    intro hk
    show (if nI l ≤ nI k then lcD kk dy dr nu (nI l) k else lcD kk dy dr nu (nI l) k ||| tDo kk (dy + nI k) (lcD kk dy dr nu (nI l) k) nu) = _
    rw [ih (by omega)]
    by_cases h : l ≤ k
    · rw [if_pos ((nI_leI (by omega) (by omega)).mpr h), show min (k + 1) l = min k l by omega]
    · rw [if_neg (fun z => h ((nI_leI (by omega) (by omega)).mp z)), show min (k + 1) l = k + 1 by omega, show min k l = k by omega]; rfl
theorem tellb_iff {it co : Nat → Int32} {b : Nat} : ∀ n, tellb it co b n = true ↔ ∀ k, k < n → it (b + k) = co k := by
  intro n
  induction n with
  | zero => exact ⟨fun _ k hk => absurd hk (Nat.not_lt_zero k), fun _ => rfl⟩
  | succ n ih =>
    show (tellb it co b n && decide (it (b + n) = co n)) = true ↔ _
    rw [Bool.and_eq_true, ih, decide_eq_true_iff]
    constructor
    · rintro ⟨h1, h2⟩ k hk
      by_cases hkn : k = n
      · subst hkn; exact h2
      · exact h1 k (by omega)
    · intro h; exact ⟨fun k hk => h k (by omega), h n (by omega)⟩
theorem gsb_iff {f it : Nat → Int32} {r : Nat} {kk nu : Int32} {fr : Nat} : ∀ n, gsb f it r kk nu fr n = true ↔ ∀ k, k < n → gsV f r kk nu (k + 1) = it (fr + k) := by
  intro n
  induction n with
  | zero => exact ⟨fun _ k hk => absurd hk (Nat.not_lt_zero k), fun _ => rfl⟩
  | succ n ih =>
    show (gsb f it r kk nu fr n && decide (gsV f r kk nu (n + 1) = it (fr + n))) = true ↔ _
    rw [Bool.and_eq_true, ih, decide_eq_true_iff]
    constructor
    · rintro ⟨h1, h2⟩ k hk
      by_cases hkn : k = n
      · subst hkn; exact h2
      · exact h1 k (by omega)
    · intro h; exact ⟨fun k hk => h k (by omega), h n (by omega)⟩
theorem tell_eq (h : TR st dy ln n kd dd nt lf f) {r : Nat} (hr : r < n) {kk nu : Int32} (hk : isK kk) (hn : is63 nu) {it mit co : Nat → Int32} {a b x : Nat} (hx : x ≤ 16) (hit : ∀ k, k < x → it (a + k) = mit (b + k)) : tellb it (lcC kk dy (dd r) nu (lf r) co 16) a x = true ↔ gsb f mit r kk nu b x = true := by
  obtain ⟨g1, g2, g3, g4, g5, g6, g7, g8⟩ := h.rd hr
  rw [tellb_iff, gsb_iff]
  have e : ∀ k, k < x → lcC kk dy (dd r) nu (lf r) co 16 k = gsV f r kk nu (k + 1) := by
    intro k hkx
    have e1 : lcC kk dy (dd r) nu (lf r) co 16 k = if k < 16 then lcD kk dy (dd r) nu (lf r) (k + 1) else co k := itr_0 (g := fun j => lcD kk dy (dd r) nu (lf r) (j + 1)) 16 k
    rw [e1, if_pos (by omega), lcD_eq g8 (k + 1) (by omega)]
    unfold gsV
    rw [go_any h hr hk hn, ← g3]
    obtain ⟨d9, hd9, hde⟩ := h.2.2.2.2.1
    rw [hde, dnB_12 hd9 hk hn]
  constructor
  · intro z k hkx; rw [← e k hkx, ← hit k hkx]; exact (z k hkx).symm
  · intro z k hkx; rw [e k hkx, hit k hkx]; exact (z k hkx).symm
theorem isK_s {j : Nat} (h : j < 5) : isK (nI (j + 1)) := isK_nI (by omega)
theorem tm_eq (h : TR st dy ln n kd dd nt lf f) {r : Nat} (hr : r < n) {it mit co : Nat → Int32} {a b x : Nat} (hx : x ≤ 16) (hit : ∀ k, k < x → it (a + k) = mit (b + k)) : ∀ k, k ≤ 5 → tmX it a x dy (dd r) (nt r) (lf r) co k = tmF f mit r b x k := by
  obtain ⟨g1, g2, g3, g4, g5, g6, g7, g8⟩ := h.rd hr
  intro k
  induction k with
  | zero => intro _; rfl
  | succ k ih =>
    intro hk
    rw [tmX_s, ih (by omega)]
    have e : tmF f mit r b x (k + 1) = tmF f mit r b x k ||| (if gsb f mit r (nI (k + 1)) (f (4 + 4 * r + 2)) b x = true then 1 <<< (nI (k + 1) &&& 31) else 0) := rfl
    rw [e, ← g5]
    have hc := tell_eq (co := tmC dy (dd r) (nt r) (lf r) co k) h hr (isK_s (show k < 5 by omega)) g6 hx hit
    by_cases hq : gsb f mit r (nI (k + 1)) (nt r) b x = true
    · rw [if_pos (hc.mpr hq), if_pos hq]
    · rw [if_neg (mt hc.mp hq), if_neg hq, or_0]
theorem part_it {la sz it mla mma mit : Nat → Int32} (hR : RRw la sz it mla mma mit) {r a b k : Nat} (hr : r ≤ 7) (hl : ¬ la r = -1) (hs : sz r = nI k) (hk : k ≤ 40) (hab : a + b ≤ k) : ∀ j, j < b → it (r * 40 + a + j) = mit (40 * r + a + j) := by
  intro j hj
  rcases (hR r hr).2.2 with ⟨z, -⟩ | ⟨-, -, -, h4⟩
  · exact absurd z hl
  · have := h4 (a + j) k hs (by omega) hk
    rw [show r * 40 + a + j = r * 40 + (a + j) by omega, this]
    congr 1; omega
theorem e_temper (h : TR st dy ln n kd dd nt lf f) {la sz it mla mma mit co : Nat → Int32} (hR : RRw la sz it mla mma mit) (fi reader row i x : Int32) : (x_temper fi dy n dd nt lf la sz it co reader row i x).1 = (m_temper fi f mla mma mit reader row i x).1 ∧ (x_temper fi dy n dd nt lf la sz it co reader row i x).2.1 = (m_temper fi f mla mma mit reader row i x).2 := by
  unfold x_temper m_temper
  by_cases h1 : hasN n reader
  · rw [if_neg (not_not_intro h1), if_neg (not_not_intro ((hasR h reader).mp h1))]
    by_cases h2 : ¬ row < 0 ∧ ¬ 7 < row
    · rw [if_neg (not_not_intro ((row8 row).mpr h2)), if_neg (not_not_intro h2)]
      by_cases h3 : ¬ x < 1 ∧ ¬ 16 < x
      · rw [if_neg (not_not_intro h3), if_neg (not_not_intro h3)]
        obtain ⟨r, hr, rfl, e⟩ := rdx h.n6 h1
        obtain ⟨rw_, hrw, rfl, ew⟩ := row_tn h2
        rw [e, ew]
        obtain ⟨⟨k, hk, hsz⟩, -, g3⟩ := hR rw_ hrw
        rcases g3 with ⟨f1, f2⟩ | ⟨f1, f2, f3, f4⟩
        · have hl : lkF la sz rw_ i x = 1 := by unfold lkF; rw [if_pos f1]
          rw [hl, if_pos (show ¬ (1 : Int32) = 0 by decide), if_pos f2]
          exact ⟨rfl, rfl⟩
        · rw [if_neg (show ¬ mla rw_ = -1000000 from fun z => (ln_ne f2).2 (f1.trans z)), ← f3, hsz]
          by_cases h4 : ¬ i < 0 ∧ ¬ x < 0 ∧ ¬ nI k < i ∧ ¬ nI k - i < x
          · have hl : lkF la sz rw_ i x = 0 := by unfold lkF; rw [if_neg (ln_ne f2).1, hsz, if_pos ((pl_pt hk i x).mpr h4)]
            rw [hl, if_neg (not_not_intro (rfl : (0 : Int32) = 0)), if_neg (not_not_intro h4)]
            obtain ⟨iv, nv, hin, rfl, rfl⟩ := i_part hk h4
            have hnv : nv ≤ 16 := by have z := h3.2; rw [i_lt, nI_toInt (by omega)] at z; have : (16 : Int32).toInt = 16 := rfl; omega
            rw [tn_nI (show iv ≤ 40 by omega), tn_nI (show nv ≤ 40 by omega)]
            exact ⟨tm_eq h hr hnv (part_it hR hrw (ln_ne f2).1 hsz hk hin) 5 (Nat.le_refl 5), rfl⟩
          · have hl : lkF la sz rw_ i x = 2 := by unfold lkF; rw [if_neg (ln_ne f2).1, hsz, if_neg (mt (pl_pt hk i x).mp h4)]
            rw [hl, if_pos (show ¬ (2 : Int32) = 0 by decide), if_pos h4]
            exact ⟨rfl, rfl⟩
      · rw [if_pos h3, if_pos h3]; exact ⟨rfl, rfl⟩
    · rw [if_pos (mt (row8 row).mp h2), if_pos h2]; exact ⟨rfl, rfl⟩
  · rw [if_pos h1, if_pos (mt (hasR h reader).mpr h1)]; exact ⟨rfl, rfl⟩
/-- the first of n from a on for which it is so -/
def fmF (P : Nat → Bool) : Nat → Nat → Int32
  | _, 0 => -1000000
  | a, n + 1 => if P a = true then nI a else fmF P (a + 1) n
def cnF (P : Nat → Bool) : Nat → Nat → Nat
  | _, 0 => 0
  | a, n + 1 => (if P a = true then 1 else 0) + cnF P (a + 1) n
theorem cnF_snoc (P : Nat → Bool) : ∀ n a, cnF P a (n + 1) = cnF P a n + (if P (a + n) = true then 1 else 0) := by
  intro n
  induction n with
  | zero => intro a; show (if P a = true then 1 else 0) + 0 = 0 + _; rw [Nat.add_zero, Nat.zero_add, Nat.add_zero]
  | succ n ih =>
    intro a
    show (if P a = true then 1 else 0) + cnF P (a + 1) (n + 1) = ((if P a = true then 1 else 0) + cnF P (a + 1) n) + _
    rw [ih (a + 1), show a + 1 + n = a + (n + 1) by omega]; omega
theorem cnF_le (P : Nat → Bool) : ∀ n a, cnF P a n ≤ n := by
  intro n
  induction n with
  | zero => intro a; exact Nat.le_refl 0
  | succ n ih =>
    intro a
    show (if P a = true then 1 else 0) + cnF P (a + 1) n ≤ n + 1
    have := ih (a + 1)
    split <;> omega
theorem fmF_snoc (P : Nat → Bool) : ∀ n a, fmF P a (n + 1) = if cnF P a n = 0 then (if P (a + n) = true then nI (a + n) else -1000000) else fmF P a n := by
  intro n
  induction n with
  | zero => intro a; show (if P a = true then nI a else -1000000) = _; rw [if_pos (show cnF P a 0 = 0 from rfl)]; rfl
  | succ n ih =>
    intro a
    show (if P a = true then nI a else fmF P (a + 1) (n + 1)) = if (if P a = true then 1 else 0) + cnF P (a + 1) n = 0 then _ else (if P a = true then nI a else fmF P (a + 1) n)
    by_cases hp : P a = true
    · rw [if_pos hp, if_pos hp, if_neg (by omega), if_pos hp]
    · rw [if_neg hp, if_neg hp, if_neg hp, ih (a + 1), Nat.zero_add, show a + 1 + n = a + (n + 1) by omega]
theorem to_eq (h : TR st dy ln n kd dd nt lf f) {r : Nat} (hr : r < n) {it mit co : Nat → Int32} {a b x : Nat} (hx : x ≤ 16) (hit : ∀ k, k < x → it (a + k) = mit (b + k)) : toX it a x (kd r) dy (dd r) (lf r) co 64 = tlS f mit r b x 64 := by
  obtain ⟨g1, g2, g3, g4, g5, g6, g7, g8⟩ := h.rd hr
  have hA : ∀ k, k ≤ 64 → toX it a x (kd r) dy (dd r) (lf r) co k = (nI (cnF (fun j => gsb f mit r (kd r) (nI j) b x) (64 - k) k), fmF (fun j => gsb f mit r (kd r) (nI j) b x) (64 - k) k) := by
    intro k
    induction k with
    | zero => intro _; rfl
    | succ k ih =>
      intro hk
      rw [toX_s, ih (by omega)]
      have hc := tell_eq (co := toC (kd r) dy (dd r) (lf r) co k) h hr g2 (nu := nI (63 - k)) ⟨63 - k, by omega, rfl⟩ hx hit
      have e1 : cnF (fun j => gsb f mit r (kd r) (nI j) b x) (64 - (k + 1)) (k + 1) = (if gsb f mit r (kd r) (nI (63 - k)) b x = true then 1 else 0) + cnF (fun j => gsb f mit r (kd r) (nI j) b x) (64 - k) k := by
        rw [show 64 - (k + 1) = 63 - k by omega, show 64 - k = (63 - k) + 1 by omega]; rfl
      have e2 : fmF (fun j => gsb f mit r (kd r) (nI j) b x) (64 - (k + 1)) (k + 1) = if gsb f mit r (kd r) (nI (63 - k)) b x = true then nI (63 - k) else fmF (fun j => gsb f mit r (kd r) (nI j) b x) (64 - k) k := by
        rw [show 64 - (k + 1) = 63 - k by omega, show 64 - k = (63 - k) + 1 by omega]; rfl
      rw [e1, e2]
      by_cases hq : gsb f mit r (kd r) (nI (63 - k)) b x = true
      · rw [if_pos (hc.mpr hq), if_pos hq, if_pos hq, Nat.add_comm, ← nI_1]
      · rw [if_neg (mt hc.mp hq), if_neg hq, if_neg hq, Nat.zero_add]
  have hB : ∀ k, k ≤ 64 → tlS f mit r b x k = (nI (cnF (fun j => gsb f mit r (kd r) (nI j) b x) 0 k), fmF (fun j => gsb f mit r (kd r) (nI j) b x) 0 k) := by
    intro k
    induction k with
    | zero => intro _; rfl
    | succ k ih =>
      intro hk
      have e : tlS f mit r b x (k + 1) = ((tlS f mit r b x k).1 + (if gsb f mit r (f (4 + 4 * r)) (nI k) b x = true then 1 else 0), if gsb f mit r (f (4 + 4 * r)) (nI k) b x = true ∧ (tlS f mit r b x k).1 = 0 then nI k else (tlS f mit r b x k).2) := rfl
      rw [e, ih (by omega), ← g1, cnF_snoc, fmF_snoc, Nat.zero_add]
      have hle := cnF_le (fun j => gsb f mit r (kd r) (nI j) b x) k 0
      have h0 : nI (cnF (fun j => gsb f mit r (kd r) (nI j) b x) 0 k) = 0 ↔ cnF (fun j => gsb f mit r (kd r) (nI j) b x) 0 k = 0 := nI_eq (b := 0) (by omega) (by omega)
      have hz : cnF (fun j => gsb f mit r (kd r) (nI j) b x) 0 k = 0 → fmF (fun j => gsb f mit r (kd r) (nI j) b x) 0 k = -1000000 := by
        have hg : ∀ n a, cnF (fun j => gsb f mit r (kd r) (nI j) b x) a n = 0 → fmF (fun j => gsb f mit r (kd r) (nI j) b x) a n = -1000000 := by
          intro n
          induction n with
          | zero => intro a _; rfl
          | succ n ih2 =>
            intro a hh
            have hh : (if gsb f mit r (kd r) (nI a) b x = true then 1 else 0) + cnF (fun j => gsb f mit r (kd r) (nI j) b x) (a + 1) n = 0 := hh
            show (if gsb f mit r (kd r) (nI a) b x = true then nI a else _) = _
            by_cases hp : gsb f mit r (kd r) (nI a) b x = true
            · rw [if_pos hp] at hh; omega
            · rw [if_neg hp] at hh ⊢; exact ih2 (a + 1) (by omega)
        exact hg k 0
      generalize cnF (fun j => gsb f mit r (kd r) (nI j) b x) 0 k = C at h0 hz hle ⊢
      generalize fmF (fun j => gsb f mit r (kd r) (nI j) b x) 0 k = F at hz ⊢
      show (nI C + _, if _ ∧ nI C = 0 then nI k else F) = (nI (C + _), _)
      by_cases hq : gsb f mit r (kd r) (nI k) b x = true
      · rw [if_pos hq]
        refine Prod.ext ?_ ?_
        · show nI C + 1 = nI (C + if gsb f mit r (kd r) (nI k) b x = true then 1 else 0)
          rw [if_pos hq, nI_1]
        · show (if gsb f mit r (kd r) (nI k) b x = true ∧ nI C = 0 then nI k else F) = if C = 0 then (if gsb f mit r (kd r) (nI k) b x = true then nI k else -1000000) else F
          by_cases hC : C = 0
          · rw [if_pos ⟨hq, h0.mpr hC⟩, if_pos hC, if_pos hq]
          · rw [if_neg (fun z => hC (h0.mp z.2)), if_neg hC]
      · rw [if_neg hq]
        refine Prod.ext ?_ ?_
        · show nI C + 0 = nI (C + if gsb f mit r (kd r) (nI k) b x = true then 1 else 0)
          rw [if_neg hq, Nat.add_zero]; exact Int32.add_zero _
        · show (if gsb f mit r (kd r) (nI k) b x = true ∧ nI C = 0 then nI k else F) = if C = 0 then (if gsb f mit r (kd r) (nI k) b x = true then nI k else -1000000) else F
          rw [if_neg (fun z => hq z.1), if_neg hq]
          by_cases hC : C = 0
          · rw [if_pos hC, hz hC]
          · rw [if_neg hC]
  rw [hA 64 (Nat.le_refl 64), hB 64 (Nat.le_refl 64)]
theorem e_told (h : TR st dy ln n kd dd nt lf f) {la sz it mla mma mit co : Nat → Int32} (hR : RRw la sz it mla mma mit) (fi reader row i x what : Int32) : (x_told fi dy n kd dd lf la sz it co reader row i x what).1 = (m_told fi f mla mma mit reader row i x what).1 ∧ (x_told fi dy n kd dd lf la sz it co reader row i x what).2.1 = (m_told fi f mla mma mit reader row i x what).2 := by
  unfold x_told m_told
  by_cases h1 : hasN n reader
  · rw [if_neg (not_not_intro h1), if_neg (not_not_intro ((hasR h reader).mp h1))]
    by_cases h2 : ¬ row < 0 ∧ ¬ 7 < row
    · rw [if_neg (not_not_intro ((row8 row).mpr h2)), if_neg (not_not_intro h2)]
      by_cases h3 : ¬ x < 1 ∧ ¬ 16 < x
      · rw [if_neg (not_not_intro h3), if_neg (not_not_intro h3)]
        by_cases h5 : isC what
        · rw [if_neg (not_not_intro h5), if_neg (not_not_intro ((cho_C what).mp h5))]
          obtain ⟨r, hr, rfl, e⟩ := rdx h.n6 h1
          obtain ⟨rw_, hrw, rfl, ew⟩ := row_tn h2
          rw [e, ew]
          obtain ⟨⟨k, hk, hsz⟩, -, g3⟩ := hR rw_ hrw
          rcases g3 with ⟨f1, f2⟩ | ⟨f1, f2, f3, f4⟩
          · have hl : lkF la sz rw_ i x = 1 := by unfold lkF; rw [if_pos f1]
            rw [hl, if_pos (show ¬ (1 : Int32) = 0 by decide), if_pos f2]
            exact ⟨rfl, rfl⟩
          · rw [if_neg (show ¬ mla rw_ = -1000000 from fun z => (ln_ne f2).2 (f1.trans z)), ← f3, hsz]
            by_cases h4 : ¬ i < 0 ∧ ¬ x < 0 ∧ ¬ nI k < i ∧ ¬ nI k - i < x
            · have hl : lkF la sz rw_ i x = 0 := by unfold lkF; rw [if_neg (ln_ne f2).1, hsz, if_pos ((pl_pt hk i x).mpr h4)]
              rw [hl, if_neg (not_not_intro (rfl : (0 : Int32) = 0)), if_neg (not_not_intro h4)]
              obtain ⟨iv, nv, hin, rfl, rfl⟩ := i_part hk h4
              have hnv : nv ≤ 16 := by have z := h3.2; rw [i_lt, nI_toInt (by omega)] at z; have : (16 : Int32).toInt = 16 := rfl; omega
              rw [tn_nI (show iv ≤ 40 by omega), tn_nI (show nv ≤ 40 by omega)]
              have hE : toE it (rw_ * 40 + iv) nv (kd r) dy (dd r) (lf r) co = tlE f mit r (40 * rw_ + iv) nv := to_eq h hr hnv (part_it hR hrw (ln_ne f2).1 hsz hk hin)
              rw [hE]
              exact ⟨rfl, rfl⟩
            · have hl : lkF la sz rw_ i x = 2 := by unfold lkF; rw [if_neg (ln_ne f2).1, hsz, if_neg (mt (pl_pt hk i x).mp h4)]
              rw [hl, if_pos (show ¬ (2 : Int32) = 0 by decide), if_pos h4]
              exact ⟨rfl, rfl⟩
        · rw [if_pos h5, if_pos (mt (cho_C what).mpr h5)]; exact ⟨rfl, rfl⟩
      · rw [if_pos h3, if_pos h3]; exact ⟨rfl, rfl⟩
    · rw [if_pos (mt (row8 row).mp h2), if_pos h2]; exact ⟨rfl, rfl⟩
  · rw [if_pos h1, if_pos (mt (hasR h reader).mpr h1)]; exact ⟨rfl, rfl⟩
end PA
