/-! PURE: odds -/
def sm (n : Nat) (F : Nat → Nat) : Nat := itr (fun i b => b + F i) n 0
theorem sm_s (n : Nat) (F : Nat → Nat) : sm (n + 1) F = sm n F + F n := rfl
theorem sm_congr {n : Nat} {F G : Nat → Nat} (h : ∀ i, i < n → F i = G i) : sm n F = sm n G := by
  induction n with
  | zero => rfl
  | succ n ih => rw [sm_s, sm_s, ih (fun i hi => h i (by omega)), h n (by omega)]
theorem sm_front (n : Nat) (F : Nat → Nat) : sm (n + 1) F = F 0 + sm n (fun i => F (i + 1)) := by
  induction n with
  | zero => show 0 + F 0 = F 0 + 0; omega
  | succ n ih => rw [sm_s, ih, sm_s, Nat.add_assoc]
theorem sm_app (a b : Nat) (F : Nat → Nat) : sm (a + b) F = sm a F + sm b (fun i => F (a + i)) := by
  induction b with
  | zero => rfl
  | succ b ih => rw [← Nat.add_assoc, sm_s, ih, sm_s, Nat.add_assoc]
theorem sm_0 {n : Nat} {F : Nat → Nat} (h : ∀ i, i < n → F i = 0) : sm n F = 0 := by
  induction n with
  | zero => rfl
  | succ n ih => rw [sm_s, ih (fun i hi => h i (by omega)), h n (by omega)]
theorem sm_lin (n a b : Nat) (F G : Nat → Nat) : sm n (fun i => a * F i + b * G i) = a * sm n F + b * sm n G := by
  induction n with
  | zero => show 0 = a * 0 + b * 0; rw [Nat.mul_zero, Nat.mul_zero]
  | succ n ih => rw [sm_s, sm_s, sm_s, ih, Nat.mul_add, Nat.mul_add]; omega
theorem sm_mul (n a : Nat) (F : Nat → Nat) : sm n (fun i => a * F i) = a * sm n F := by
  induction n with
  | zero => rfl
  | succ n ih => rw [sm_s, sm_s, ih, Nat.mul_add]
theorem sm_le {n : Nat} {F G : Nat → Nat} (h : ∀ i, F i ≤ G i) : sm n F ≤ sm n G := by
  induction n with
  | zero => exact Nat.le_refl 0
  | succ n ih => rw [sm_s, sm_s]; exact Nat.add_le_add ih (h n)
/-- the class' ways, as naturals -/
def wyN (T : Nat → Nat) : Nat → Nat → Nat
  | 0, i => if i = 0 then 1 else 0
  | r + 1, 0 => wyN T r 0 * (10 - T r)
  | r + 1, i + 1 => wyN T r (i + 1) * (10 - T r) + wyN T r i * T r
theorem wyN_big (T : Nat → Nat) : ∀ r i, r < i → wyN T r i = 0 := by
  intro r
  induction r with
  | zero => intro i hi; show (if i = 0 then 1 else 0) = 0; rw [if_neg (by omega)]
  | succ r ih =>
    intro i hi
    cases i with
    | zero => omega
    | succ i =>
      show wyN T r (i + 1) * (10 - T r) + wyN T r i * T r = 0
      rw [ih (i + 1) (by omega), ih i (by omega), Nat.zero_mul, Nat.zero_mul]
def cF (T : Nat → Nat) (r : Nat) (φ : Nat → Nat) : Nat := sm (r + 1) (fun i => φ i * wyN T r i)
theorem cF_s (T : Nat → Nat) (r : Nat) (φ : Nat → Nat) : cF T (r + 1) φ = (10 - T r) * cF T r φ + T r * cF T r (fun i => φ (i + 1)) := by
  unfold cF
  rw [sm_front]
  have e1 : sm (r + 1) (fun i => φ (i + 1) * wyN T (r + 1) (i + 1)) = (10 - T r) * sm (r + 1) (fun i => φ (i + 1) * wyN T r (i + 1)) + T r * sm (r + 1) (fun i => φ (i + 1) * wyN T r i) := by
    rw [← sm_lin]
    refine sm_congr (fun i _ => ?_)
    show φ (i + 1) * (wyN T r (i + 1) * (10 - T r) + wyN T r i * T r) = _
    rw [Nat.mul_add, Nat.mul_left_comm, Nat.mul_left_comm (φ (i + 1)) (wyN T r i)]
    rw [Nat.mul_comm (wyN T r (i + 1)) (φ (i + 1) * (10 - T r)), Nat.mul_comm (wyN T r i) (φ (i + 1) * T r)]
    rw [Nat.mul_comm (φ (i + 1)) (10 - T r), Nat.mul_assoc, Nat.mul_comm (φ (i + 1)) (T r), Nat.mul_assoc]
  have e2 : sm (r + 1) (fun i => φ i * wyN T r i) = φ 0 * wyN T r 0 + sm (r + 1) (fun i => φ (i + 1) * wyN T r (i + 1)) := by
    have h1 := sm_front (r + 1) (fun i => φ i * wyN T r i)
    rw [sm_s, wyN_big T r (r + 1) (by omega), Nat.mul_zero, Nat.add_zero] at h1
    exact h1
  rw [e1, e2]
  show φ 0 * (wyN T r 0 * (10 - T r)) + _ = _
  rw [Nat.mul_add, ← Nat.mul_assoc, Nat.mul_comm (φ 0 * wyN T r 0) (10 - T r)]
  dsimp only
  omega
theorem cF_1 {T : Nat → Nat} {n : Nat} (hT : ∀ r, r < n → T r ≤ 10) : ∀ r, r ≤ n → cF T r (fun _ => 1) = 10 ^ r := by
  intro r
  induction r with
  | zero => intro _; rfl
  | succ r ih =>
    intro hr
    rw [cF_s, ih (by omega), ← Nat.add_mul, show 10 - T r + T r = 10 by have := hT r (by omega); omega, Nat.pow_succ, Nat.mul_comm]
theorem arF_at {t : Int32} {b : Nat} {f : Nat → Int32} : ∀ k, k ≤ b → ∀ i, arF t b f k i = if b - k < i ∧ i ≤ b then f i * (10 - t) + f (i - 1) * t else f i := by
  intro k
  induction k with
  | zero => intro _ i; rw [if_neg (by omega)]; rfl
  | succ k ih =>
    intro hk i
    show upd (arF t b f k) (b - k) (arF t b f k (b - k) * (10 - t) + arF t b f k (b - k - 1) * t) i = _
    rw [ih (by omega) (b - k), if_neg (by omega), ih (by omega) (b - k - 1), if_neg (by omega)]
    by_cases h : i = b - k
    · subst h; rw [pk_us, if_pos (by omega)]
    · rw [pk_un h, ih (by omega) i]
      by_cases h2 : b - k < i ∧ i ≤ b
      · rw [if_pos h2, if_pos (by omega)]
      · rw [if_neg h2, if_neg (by omega)]
theorem nI_mul (a b : Nat) : nI a * nI b = nI (a * b) := pk_mul _ _
section PO
variable {st dy ln : Int32} {n : Nat} {kd dd nt lf f : Nat → Int32}
/-- in how many tenths it comes true -/
def tN (dy : Int32) (kd dd nt lf : Nat → Int32) (cv r : Nat) : Nat := (if dd r = nt r then cv else 0) + (if dnB (kd r) dy (dd r) (nt r) (qE lf r) = nt r then 10 - cv else 0)
theorem tN_le {cv r : Nat} (hc : cv ≤ 10) : tN dy kd dd nt lf cv r ≤ 10 := by
  unfold tN
  split <;> split <;> omega
theorem te_eq {cv r : Nat} (hc : cv ≤ 10) : teF dy kd dd nt lf (nI cv) r = nI (tN dy kd dd nt lf cv r) := by
  have h10 : (10 : Int32) - nI cv = nI (10 - cv) := pk_sub (a := 10) (b := cv) hc
  unfold teF tN
  rw [h10, ← nI_add]
  congr 1
  · by_cases h : dd r = nt r
    · rw [if_pos h, if_pos h]
    · rw [if_neg h, if_neg h]; rfl
  · by_cases h : dnB (kd r) dy (dd r) (nt r) (qE lf r) = nt r
    · rw [if_pos h, if_pos h]
    · rw [if_neg h, if_neg h]; rfl
theorem wy_eq {cv : Nat} (hc : cv ≤ 10) {wy : Nat → Int32} : ∀ r i, i ≤ r → wyF dy kd dd nt lf (nI cv) wy r i = nI (wyN (tN dy kd dd nt lf cv) r i) := by
  intro r
  induction r with
  | zero =>
    intro i hi
    have : i = 0 := by omega
    subst this
    show upd wy 0 1 0 = nI 1
    exact pk_us
  | succ r ih =>
    intro i hi
    show arW r (teF dy kd dd nt lf (nI cv) r) (wyF dy kd dd nt lf (nI cv) wy r) i = _
    rw [te_eq hc]
    have hT := tN_le (dy := dy) (kd := kd) (dd := dd) (nt := nt) (lf := lf) (r := r) hc
    generalize hTe : tN dy kd dd nt lf cv r = t at hT
    have h10 : (10 : Int32) - nI t = nI (10 - t) := pk_sub (a := 10) (b := t) hT
    generalize hF : wyF dy kd dd nt lf (nI cv) wy r = F at ih
    have hb : ∀ j, arF (nI t) r (upd F (r + 1) (F r * nI t)) r j = if r - r < j ∧ j ≤ r then upd F (r + 1) (F r * nI t) j * (10 - nI t) + upd F (r + 1) (F r * nI t) (j - 1) * nI t else upd F (r + 1) (F r * nI t) j := fun j => arF_at r (Nat.le_refl r) j
    unfold arW
    cases i with
    | zero =>
      rw [pk_us, hb 0, if_neg (by omega), pk_un (by omega), h10, ih 0 (by omega), nI_mul]
      show _ = nI (wyN _ r 0 * (10 - tN dy kd dd nt lf cv r))
      rw [hTe]
    | succ i =>
      rw [pk_un (by omega), hb (i + 1)]
      have eW : wyN (tN dy kd dd nt lf cv) (r + 1) (i + 1) = wyN (tN dy kd dd nt lf cv) r (i + 1) * (10 - t) + wyN (tN dy kd dd nt lf cv) r i * t := by rw [← hTe]; rfl
      rw [eW]
      by_cases hir : i = r
      · subst hir
        rw [if_neg (by omega), pk_us, ih i (by omega), nI_mul, wyN_big _ i (i + 1) (by omega), Nat.zero_mul, Nat.zero_add]
      · rw [if_pos (by omega), pk_un (by omega), pk_un (by omega), h10, ih (i + 1) (by omega), show i + 1 - 1 = i by omega, ih i (by omega), nI_mul, nI_mul, nI_add]
theorem ws_eq {F : Nat → Int32} {W : Nat → Nat} {a m : Nat} (h : ∀ j, j < m → F (a + j) = nI (W (a + j))) : wsF F a m = nI (sm m (fun j => W (a + j))) := by
  induction m with
  | zero => rfl
  | succ m ih =>
    show wsF F a m + F (a + m) = nI (sm m (fun j => W (a + j)) + W (a + m))
    rw [ih (fun j hj => h j (by omega)), h m (by omega), nI_add]
def fiK (k i : Nat) : Nat := if k ≤ i then 1 else 0
theorem good_c (T : Nat → Nat) (k : Nat) : sm (n + 1 - k) (fun j => wyN T n (k + j)) = cF T n (fiK k) := by
  unfold cF
  by_cases h : k ≤ n + 1
  · have e : n + 1 = k + (n + 1 - k) := by omega
    have h2 := sm_app k (n + 1 - k) (fun i => fiK k i * wyN T n i)
    rw [← e] at h2
    rw [h2, sm_0 (n := k) (fun i hi => by unfold fiK; rw [if_neg (by omega), Nat.zero_mul]), Nat.zero_add]
    refine sm_congr (fun j _ => ?_)
    unfold fiK
    rw [if_pos (by omega), Nat.one_mul]
  · rw [show n + 1 - k = 0 by omega, sm_0 (n := n + 1) (fun i hi => by unfold fiK; rw [if_neg (by omega), Nat.zero_mul])]; rfl
theorem od_good {cv k : Nat} (hc : cv ≤ 10) (hn : n ≤ 6) {wy : Nat → Int32} : odG dy kd dd nt lf (nI cv) wy n k = nI (cF (tN dy kd dd nt lf cv) n (fiK k)) ∧ cF (tN dy kd dd nt lf cv) n (fiK k) ≤ 1000000 := by
  constructor
  · rw [← good_c]
    exact ws_eq (W := wyN (tN dy kd dd nt lf cv) n) (fun j hj => wy_eq hc n (k + j) (by omega))
  · have h1 : cF (tN dy kd dd nt lf cv) n (fiK k) ≤ cF (tN dy kd dd nt lf cv) n (fun _ => 1) := sm_le (fun i => by
      refine Nat.mul_le_mul_right _ ?_
      show fiK k i ≤ 1
      unfold fiK; split <;> omega)
    rw [cF_1 (n := n) (fun r _ => tN_le hc) n (Nat.le_refl n)] at h1
    have h2 : 10 ^ n ≤ 10 ^ 6 := Nat.pow_le_pow_right (by omega) hn
    have h3 : (10 : Nat) ^ 6 = 1000000 := by decide
    omega
/-- the reference's ways -/
def eF (w0 w1 ee aa : Nat → Nat) : Nat → (Nat → Nat) → Nat
  | 0, φ => φ 0
  | r + 1, φ => w0 r * eF w0 w1 ee aa r (fun i => φ (i + ee r)) + w1 r * eF w0 w1 ee aa r (fun i => φ (i + aa r))
def wt (w0 w1 : Nat → Nat) (g i : Nat) : Nat := itr (fun r b => b * (if g.testBit r = true then w1 r else w0 r)) i 1
def ct (ee aa : Nat → Nat) (g i : Nat) : Nat := itr (fun r b => b + (if g.testBit r = true then aa r else ee r)) i 0
theorem wt_congr {w0 w1 : Nat → Nat} {g h : Nat} : ∀ i, (∀ r, r < i → g.testBit r = h.testBit r) → wt w0 w1 g i = wt w0 w1 h i := by
  intro i
  induction i with
  | zero => intro _; rfl
  | succ i ih =>
    intro e
    show wt w0 w1 g i * _ = wt w0 w1 h i * _
    rw [ih (fun r hr => e r (by omega)), e i (by omega)]
theorem ct_congr {ee aa : Nat → Nat} {g h : Nat} : ∀ i, (∀ r, r < i → g.testBit r = h.testBit r) → ct ee aa g i = ct ee aa h i := by
  intro i
  induction i with
  | zero => intro _; rfl
  | succ i ih =>
    intro e
    show ct ee aa g i + _ = ct ee aa h i + _
    rw [ih (fun r hr => e r (by omega)), e i (by omega)]
theorem e_sum (w0 w1 ee aa : Nat → Nat) : ∀ r (φ : Nat → Nat), sm (2 ^ r) (fun g => φ (ct ee aa g r) * wt w0 w1 g r) = eF w0 w1 ee aa r φ := by
  intro r
  induction r with
  | zero => intro φ; show 0 + φ 0 * 1 = φ 0; omega
  | succ r ih =>
    intro φ
    rw [Nat.pow_succ, Nat.mul_two, sm_app]
    have h0 : sm (2 ^ r) (fun g => φ (ct ee aa g (r + 1)) * wt w0 w1 g (r + 1)) = w0 r * eF w0 w1 ee aa r (fun i => φ (i + ee r)) := by
      rw [← ih (fun i => φ (i + ee r))]
      rw [← sm_mul]
      refine sm_congr (fun g hg => ?_)
      have hb : g.testBit r = false := Nat.testBit_lt_two_pow hg
      show φ (ct ee aa g r + (if g.testBit r = true then aa r else ee r)) * (wt w0 w1 g r * (if g.testBit r = true then w1 r else w0 r)) = _
      rw [hb, if_neg (by decide), if_neg (by decide), ← Nat.mul_assoc, Nat.mul_comm (w0 r)]
    have h1 : sm (2 ^ r) (fun i => φ (ct ee aa (2 ^ r + i) (r + 1)) * wt w0 w1 (2 ^ r + i) (r + 1)) = w1 r * eF w0 w1 ee aa r (fun i => φ (i + aa r)) := by
      rw [← ih (fun i => φ (i + aa r))]
      rw [← sm_mul]
      refine sm_congr (fun g hg => ?_)
      have hb : (2 ^ r + g).testBit r = true := by rw [Nat.testBit_two_pow_add_eq, Nat.testBit_lt_two_pow hg]; rfl
      have hs : ∀ j, j < r → (2 ^ r + g).testBit j = g.testBit j := fun j hj => Nat.testBit_two_pow_add_gt hj g
      show φ (ct ee aa (2 ^ r + g) r + (if (2 ^ r + g).testBit r = true then aa r else ee r)) * (wt w0 w1 (2 ^ r + g) r * (if (2 ^ r + g).testBit r = true then w1 r else w0 r)) = _
      rw [hb, if_pos rfl, if_pos rfl, wt_congr r hs, ct_congr r hs, ← Nat.mul_assoc, Nat.mul_comm (w1 r)]
    rw [h0, h1]; rfl
theorem bq_nI (g i : Nat) (hi : i < 32) : bq (nI g) i = g.testBit i := by
  show (BitVec.ofNat 32 g).getLsbD i = _
  rw [BitVec.getLsbD_ofNat, decide_eq_true hi, Bool.true_and]
theorem has_bq (x : Int32) (r : Nat) (hr : r < 32) : hasb x r ↔ bq x r = true := by
  have h0 : bq (x >>> (nI r &&& 31)) 0 = bq x r := by rw [b_sshr r hr x (by omega), if_pos (by omega), Nat.add_zero]
  have h1 : bq ((x >>> (nI r &&& 31)) &&& 1) 0 = bq x r := by rw [b_and, h0, show bq 1 0 = true by decide, Bool.and_true]
  unfold hasb
  rcases and1 (x >>> (nI r &&& 31)) with h | h
  · rw [h] at h1 ⊢
    rw [← h1]; decide
  · rw [h] at h1 ⊢
    rw [← h1]; decide
theorem has_tb {g r : Nat} (hr : r < 32) : hasb (nI g) r ↔ g.testBit r = true := by rw [has_bq _ r hr, bq_nI g r hr]
theorem has_lv {r : Nat} (hn : n ≤ 6) (hr : r < n) : hasb (lvI f n) r ↔ lvs f r := by
  rw [has_bq _ r (by omega), b_lvI f n hn r (by omega), decide_eq_true_iff]
  exact ⟨fun z => z.2, fun z => ⟨hr, z⟩⟩
def o0 (f : Nat → Int32) (cv r : Nat) : Nat := if lvs f r then 10 - cv else 1
def o1 (f : Nat → Int32) (cv r : Nat) : Nat := if lvs f r then cv else 0
def oe (f : Nat → Int32) (r : Nat) : Nat := if fsI f r 60 = 0 then 1 else 0
def oa (f : Nat → Int32) (r : Nat) : Nat := if fsI f r 0 = 0 then 1 else 0
theorem odS_ct {g : Nat} : ∀ i, i ≤ 6 → odS f g i = ct (oe f) (oa f) g i := by
  intro i
  induction i with
  | zero => intro _; rfl
  | succ i ih =>
    intro hi
    show odS f g i + (if fsI f i (if hasb (nI g) i then 0 else 60) = 0 then 1 else 0) = ct (oe f) (oa f) g i + (if g.testBit i = true then oa f i else oe f i)
    rw [ih (by omega)]
    by_cases hb : g.testBit i = true
    · rw [if_pos hb, if_pos ((has_tb (by omega)).mpr hb)]; rfl
    · rw [if_neg hb, if_neg (mt (has_tb (by omega)).mp hb)]; rfl
theorem odW_wt (hn : n ≤ 6) {cv g : Nat} (hg : g < 2 ^ n) : odW f n cv g n = wt (o0 f cv) (o1 f cv) g n := by
  have hin : (nI g &&& (lvI f n ^^^ (-1))) = 0 ↔ ∀ r, r < n → g.testBit r = true → lvs f r := by
    constructor
    · intro h r hr hb
      have h1 : bq (nI g &&& (lvI f n ^^^ (-1))) r = false := by rw [h]; exact b_0 r
      rw [b_and, b_xor, b_m1 r (by omega), bq_nI g r (by omega), hb, b_lvI f n hn r (by omega)] at h1
      by_cases hl : lvs f r
      · exact hl
      · rw [decide_eq_false (fun z => hl z.2)] at h1; exact absurd h1 (by decide)
    · intro h
      apply b_ext; intro i hi
      rw [b_0, b_and, b_xor, b_m1 i hi, bq_nI g i hi, b_lvI f n hn i hi]
      cases hb : g.testBit i with
      | false => rfl
      | true =>
        have hi2 : i < n := by
          by_cases hin : i < n
          · exact hin
          · have : g.testBit i = false := Nat.testBit_lt_two_pow (Nat.lt_of_lt_of_le hg (Nat.pow_le_pow_right (by omega) (by omega)))
            rw [this] at hb; cases hb
        rw [decide_eq_true ⟨hi2, h i hi2 hb⟩]; rfl
  have e1 : ∀ i, i ≤ n → (∀ r, r < i → g.testBit r = true → lvs f r) → (nI g &&& (lvI f n ^^^ (-1))) = 0 → odW f n cv g i = wt (o0 f cv) (o1 f cv) g i := by
    intro i
    induction i with
    | zero => intro _ _ hz; show (if (nI g &&& (lvI f n ^^^ (-1))) = 0 then 1 else 0) = 1; rw [if_pos hz]
    | succ i ih =>
      intro hi ha hz
      show odW f n cv g i * (if ¬ hasb (lvI f n) i then 1 else if hasb (nI g) i then cv else 10 - cv) = wt (o0 f cv) (o1 f cv) g i * (if g.testBit i = true then o1 f cv i else o0 f cv i)
      rw [ih (by omega) (fun r hr => ha r (by omega)) hz]
      congr 1
      have hlv := has_lv (f := f) hn (show i < n by omega)
      unfold o0 o1
      by_cases hb : g.testBit i = true
      · have hl := ha i (by omega) hb
        rw [if_pos hb, if_pos hl, if_neg (not_not_intro (hlv.mpr hl)), if_pos ((has_tb (by omega)).mpr hb)]
      · rw [if_neg hb]
        by_cases hl : lvs f i
        · rw [if_pos hl, if_neg (not_not_intro (hlv.mpr hl)), if_neg (mt (has_tb (by omega)).mp hb)]
        · rw [if_neg hl, if_pos (mt hlv.mp hl)]
  by_cases hz : (nI g &&& (lvI f n ^^^ (-1))) = 0
  · exact e1 n (Nat.le_refl n) (hin.mp hz) hz
  · have z1 : ∀ i, odW f n cv g i = 0 := by
      intro i
      induction i with
      | zero => show (if (nI g &&& (lvI f n ^^^ (-1))) = 0 then 1 else 0) = 0; rw [if_neg hz]
      | succ i ih => show odW f n cv g i * _ = 0; rw [ih, Nat.zero_mul]
    have z2 : ∃ r, r < n ∧ g.testBit r = true ∧ ¬ lvs f r := by
      by_cases hx : ∃ r, r < n ∧ g.testBit r = true ∧ ¬ lvs f r
      · exact hx
      · exact absurd (hin.mpr (fun r hr hb => Decidable.byContradiction (fun hl => hx ⟨r, hr, hb, hl⟩))) hz
    obtain ⟨r, hr, hb, hl⟩ := z2
    have z3 : ∀ i, r < i → wt (o0 f cv) (o1 f cv) g i = 0 := by
      intro i
      induction i with
      | zero => intro h; omega
      | succ i ih =>
        intro h
        show wt (o0 f cv) (o1 f cv) g i * (if g.testBit i = true then o1 f cv i else o0 f cv i) = 0
        by_cases hir : i = r
        · subst hir
          rw [if_pos hb]
          unfold o1
          rw [if_neg hl, Nat.mul_zero]
        · rw [ih (by omega), Nat.zero_mul]
    rw [z1 n, z3 n hr]
theorem odA_e (hn : n ≤ 6) {kv cv : Nat} : odA f n kv cv (2 ^ n) = eF (o0 f cv) (o1 f cv) (oe f) (oa f) n (fiK kv) := by
  rw [← e_sum]
  show sm (2 ^ n) (fun g => if kv ≤ odS f g n then odW f n cv g n else 0) = _
  refine sm_congr (fun g hg => ?_)
  rw [odS_ct n hn, odW_wt hn hg]
  unfold fiK
  by_cases h : kv ≤ ct (oe f) (oa f) g n
  · rw [if_pos h, if_pos h, Nat.one_mul]
  · rw [if_neg h, if_neg h, Nat.zero_mul]
def pF (f : Nat → Int32) (r : Nat) : Nat := itr (fun j p => p * (if lvs f j then 1 else 10)) r 1
theorem pF_pos (f : Nat → Int32) : ∀ r, 0 < pF f r := by
  intro r
  induction r with
  | zero => exact Nat.one_pos
  | succ r ih =>
    show 0 < pF f r * _
    refine Nat.mul_pos ih ?_
    split <;> omega
theorem bc_z {x : Int32} (h : is63 x) : bc32 x = 0 ↔ x = 0 := all63 (P := fun x => bc32 x = 0 ↔ x = 0) (by decide +kernel) h
theorem xor_z (a b : Int32) : a ^^^ b = 0 ↔ a = b := by
  constructor
  · intro h
    apply b_ext; intro i hi
    have h1 : bq (a ^^^ b) i = false := by rw [h]; exact b_0 i
    rw [b_xor] at h1
    cases ha : bq a i <;> cases hb : bq b i <;> rw [ha, hb] at h1 <;> first | rfl | exact absurd h1 (by decide)
  · intro h
    subst h
    apply b_ext; intro i hi
    rw [b_xor, b_0]; cases bq a i <;> rfl
theorem e_ce (h : TR st dy ln n kd dd nt lf f) {cv : Nat} (hc : cv ≤ 10) : ∀ r, r ≤ n → ∀ φ, cF (tN dy kd dd nt lf cv) r φ = eF (o0 f cv) (o1 f cv) (oe f) (oa f) r φ * pF f r := by
  intro r
  induction r with
  | zero => intro _ φ; show 0 + φ 0 * 1 = φ 0 * 1; omega
  | succ r ih =>
    intro hr φ
    have hrn : r < n := by omega
    obtain ⟨g1, g2, g3, g4, g5, g6, g7, g8⟩ := h.rd hrn
    have eE : eF (o0 f cv) (o1 f cv) (oe f) (oa f) (r + 1) φ = o0 f cv r * eF (o0 f cv) (o1 f cv) (oe f) (oa f) r (fun i => φ (i + oe f r)) + o1 f cv r * eF (o0 f cv) (o1 f cv) (oe f) (oa f) r (fun i => φ (i + oa f r)) := rfl
    have eP : pF f (r + 1) = pF f r * (if lvs f r then 1 else 10) := rfl
    have ha : fsI f r 0 = 0 ↔ dd r = nt r := by rw [fs_0 h hrn, bc_z (c_xor g4 g6), xor_z]
    have he : fsI f r 60 = 0 ↔ dnB (kd r) dy (dd r) (nt r) (qE lf r) = nt r := by rw [fs_eq h hrn, bc_z (c_xor (c_dnB g4 g6 _) g6), xor_z]
    rw [cF_s, ih (by omega), ih (by omega), eE, eP]
    have hlv : lvs f r ↔ ¬ lf r ≤ 0 := by unfold lvs; rw [← g7]
    generalize hE : eF (o0 f cv) (o1 f cv) (oe f) (oa f) r = E
    generalize pF f r = p
    unfold tN o0 o1 oe oa
    by_cases hl : lvs f r
    · rw [if_pos hl, if_pos hl, if_pos hl, Nat.mul_one]
      by_cases h1 : dd r = nt r
      · rw [if_pos h1, if_pos (ha.mpr h1)]
        by_cases h2 : dnB (kd r) dy (dd r) (nt r) (qE lf r) = nt r
        · rw [if_pos h2, if_pos (he.mpr h2), show cv + (10 - cv) = 10 by omega, show 10 - 10 = 0 by omega, Nat.zero_mul, Nat.zero_add, ← Nat.add_mul, show 10 - cv + cv = 10 by omega, Nat.mul_assoc]
        · rw [if_neg h2, if_neg (mt he.mp h2), Nat.add_zero, Nat.add_mul, Nat.mul_assoc, Nat.mul_assoc]; rfl
      · rw [if_neg h1, if_neg (mt ha.mp h1)]
        by_cases h2 : dnB (kd r) dy (dd r) (nt r) (qE lf r) = nt r
        · rw [if_pos h2, if_pos (he.mpr h2), Nat.zero_add, show 10 - (10 - cv) = cv by omega, Nat.add_mul, Nat.mul_assoc, Nat.mul_assoc, Nat.add_comm]; rfl
        · rw [if_neg h2, if_neg (mt he.mp h2), Nat.zero_add, Nat.zero_mul, Nat.add_zero, Nat.sub_zero]
          show 10 * (E φ * p) = ((10 - cv) * E φ + cv * E φ) * p
          rw [← Nat.add_mul, show 10 - cv + cv = 10 by omega, Nat.mul_assoc]
    · rw [if_neg hl, if_neg hl, if_neg hl, Nat.zero_mul, Nat.add_zero, Nat.one_mul]
      have hl0 : lf r ≤ 0 := Decidable.byContradiction (fun z => hl (hlv.mpr z))
      have hq : dnB (kd r) dy (dd r) (nt r) (qE lf r) = dd r := by
        have : qE lf r = 0 := by have := (lf_0 g8).mp hl0; unfold qE; omega
        rw [this]; rfl
      rw [hq]
      rw [hq] at he
      by_cases h1 : dd r = nt r
      · rw [if_pos h1, if_pos h1, if_pos (he.mpr h1), show cv + (10 - cv) = 10 by omega, show 10 - 10 = 0 by omega, Nat.zero_mul, Nat.zero_add, ← Nat.mul_assoc, Nat.mul_comm]
        rw [Nat.mul_comm 10 (E _), ← Nat.mul_assoc, Nat.mul_comm p, Nat.mul_assoc]
      · rw [if_neg h1, if_neg h1, if_neg (mt he.mp h1), Nat.zero_add, Nat.zero_mul, Nat.add_zero, Nat.sub_zero]
        show 10 * (E φ * p) = E φ * (p * 10)
        rw [Nat.mul_comm 10, Nat.mul_assoc]
theorem ten_eq (hn : n ≤ 6) : ∀ k, k ≤ n → tenF k = odB f n k * pF f k := by
  intro k
  induction k with
  | zero => intro _; rfl
  | succ k ih =>
    intro hk
    show tenF k * 10 = (odB f n k * (if hasb (lvI f n) k then 10 else 1)) * (pF f k * (if lvs f k then 1 else 10))
    have hlv := has_lv (f := f) hn (show k < n by omega)
    rw [ih (by omega)]
    by_cases hl : lvs f k
    · rw [if_pos hl, if_pos (hlv.mpr hl), Nat.mul_one, Nat.mul_assoc, Nat.mul_assoc, Nat.mul_comm 10]
    · rw [if_neg hl, if_neg (mt hlv.mp hl), Nat.mul_one, Nat.mul_assoc]
theorem e_odds (h : TR st dy ln n kd dd nt lf f) {wy : Nat → Int32} (kk dc what : Int32) : (x_odds st dy n kd dd nt lf wy kk dc what).1 = m_odds f n kk dc what := by
  have hn := h.n6
  unfold x_odds m_odds
  by_cases h1 : st = 0
  · rw [if_pos h1, if_pos (h.st0.mp h1)]
  · rw [if_neg h1, if_neg (mt h.st0.mpr h1)]
    by_cases h2 : kk < 0
    · rw [if_pos h2, if_pos (show ¬ (¬ kk < 0 ∧ ¬ 6 < kk) from fun z => z.1 h2)]
    · rw [if_neg h2]
      by_cases h3 : 6 < kk
      · rw [if_pos h3, if_pos (show ¬ (¬ kk < 0 ∧ ¬ 6 < kk) from fun z => z.2 h3)]
      · rw [if_neg h3, if_neg (not_not_intro (And.intro h2 h3))]
        by_cases h4 : dc < 0
        · rw [if_pos h4, if_pos (show ¬ (¬ dc < 0 ∧ ¬ 10 < dc) from fun z => z.1 h4)]
        · rw [if_neg h4]
          by_cases h5 : 10 < dc
          · rw [if_pos h5, if_pos (show ¬ (¬ dc < 0 ∧ ¬ 10 < dc) from fun z => z.2 h5)]
          · rw [if_neg h5, if_neg (not_not_intro (And.intro h4 h5))]
            by_cases h6 : isC what
            · rw [if_neg (not_not_intro h6), if_neg (not_not_intro ((cho_C what).mp h6))]
              obtain ⟨kv, hkv, rfl⟩ := i_nat 6 h2 h3 rfl (by decide)
              obtain ⟨cv, hcv, rfl⟩ := i_nat 10 h4 h5 rfl (by decide)
              rw [tn_nI hkv, tn_nI hcv]
              obtain ⟨e1, e2⟩ := od_good (dy := dy) (kd := kd) (dd := dd) (nt := nt) (lf := lf) (k := kv) (wy := wy) hcv hn
              have e3 : tn (odG dy kd dd nt lf (nI cv) wy n kv) = odAE f n kv cv * pF f n := by
                rw [e1, tn_nI e2, e_ce h hcv n (Nat.le_refl n), ← odA_e hn]; rfl
              have hp := pF_pos f n
              rw [e3, ten_eq hn n (Nat.le_refl n), Nat.gcd_mul_right, Nat.mul_div_mul_right _ _ hp, Nat.mul_div_mul_right _ _ hp]
            · rw [if_pos h6, if_pos (mt (cho_C what).mpr h6)]
end PO
