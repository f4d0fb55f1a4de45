/-! PURE: bits (rows of the kit's BITS.to-paste, bt called bq) -/
def bq (x : Int32) (i : Nat) : Bool := x.toBitVec.getLsbD i
theorem b_ext {x y : Int32} (h : ∀ i, i < 32 → bq x i = bq y i) : x = y := Int32.toBitVec_inj.mp (BitVec.eq_of_getLsbD_eq (fun i hi => h i hi))
theorem b_or (x y : Int32) (i : Nat) : bq (x ||| y) i = (bq x i || bq y i) := by unfold bq; rw [Int32.toBitVec_or, BitVec.getLsbD_or]
theorem b_and (x y : Int32) (i : Nat) : bq (x &&& y) i = (bq x i && bq y i) := by unfold bq; rw [Int32.toBitVec_and, BitVec.getLsbD_and]
theorem b_xor (x y : Int32) (i : Nat) : bq (x ^^^ y) i = (bq x i ^^ bq y i) := by unfold bq; rw [Int32.toBitVec_xor, BitVec.getLsbD_xor]
theorem b_big {x : Int32} {i : Nat} (h : 32 ≤ i) : bq x i = false := BitVec.getLsbD_of_ge _ _ h
theorem b_m1 : ∀ i, i < 32 → bq (-1) i = true := by decide +kernel
theorem b_0 (i : Nat) : bq 0 i = false := BitVec.getLsbD_zero
theorem s_l : ∀ n, n < 32 → ((nI n &&& 31).toBitVec.smod 32).toNat = n := by decide +kernel
theorem s_u : ∀ n, n < 32 → (((nI n).toUInt32 &&& Int32.toUInt32 31).toBitVec % 32).toNat = n := by decide +kernel
theorem b_shl (n : Nat) (hn : n < 32) (x : Int32) {i : Nat} (hi : i < 32) : bq (x <<< (nI n &&& 31)) i = (decide (n ≤ i) && bq x (i - n)) := by
  unfold bq
  rw [Int32.toBitVec_shiftLeft]
  show (x.toBitVec <<< ((nI n &&& 31).toBitVec.smod 32).toNat).getLsbD i = _
  rw [s_l n hn, BitVec.getLsbD_shiftLeft]
  rcases Nat.lt_or_ge i n with h | h
  · simp [h, Nat.not_le.mpr h]
  · simp [hi, h, Nat.not_lt.mpr h]
theorem b_sshr (n : Nat) (hn : n < 32) (x : Int32) {i : Nat} (hi : i < 32) : bq (x >>> (nI n &&& 31)) i = if n + i < 32 then bq x (n + i) else bq x 31 := by
  unfold bq
  rw [Int32.toBitVec_shiftRight]
  show (x.toBitVec.sshiftRight ((nI n &&& 31).toBitVec.smod 32).toNat).getLsbD i = _
  rw [s_l n hn, BitVec.getLsbD_sshiftRight, BitVec.msb_eq_getLsbD_last]
  simp [hi]
theorem nx_and (a b : Nat) : nI a &&& nI b = nI (a &&& b) := by
  apply Int32.toBitVec_inj.1
  show BitVec.ofNat 32 a &&& BitVec.ofNat 32 b = BitVec.ofNat 32 (a &&& b)
  apply BitVec.eq_of_getLsbD_eq
  intro i hi
  simp [hi]
theorem nx_xor (a b : Nat) : nI a ^^^ nI b = nI (a ^^^ b) := by
  apply Int32.toBitVec_inj.1
  show BitVec.ofNat 32 a ^^^ BitVec.ofNat 32 b = BitVec.ofNat 32 (a ^^^ b)
  apply BitVec.eq_of_getLsbD_eq
  intro i hi
  simp [hi]
/-! PURE: small sets -/
abbrev is63 (x : Int32) : Prop := ∃ k : Nat, k ≤ 63 ∧ x = nI k
theorem nx_or (a b : Nat) : nI a ||| nI b = nI (a ||| b) := by
  apply Int32.toBitVec_inj.1
  show BitVec.ofNat 32 a ||| BitVec.ofNat 32 b = BitVec.ofNat 32 (a ||| b)
  apply BitVec.eq_of_getLsbD_eq
  intro i hi
  simp [hi]
theorem le63 {a : Nat} (h : a ≤ 63) : a < 2 ^ 6 := by omega
theorem c_or {x y : Int32} (hx : is63 x) (hy : is63 y) : is63 (x ||| y) := by
  obtain ⟨a, ha, rfl⟩ := hx; obtain ⟨b, hb, rfl⟩ := hy
  exact ⟨a ||| b, by have := Nat.or_lt_two_pow (le63 ha) (le63 hb); omega, nx_or a b⟩
theorem c_xor {x y : Int32} (hx : is63 x) (hy : is63 y) : is63 (x ^^^ y) := by
  obtain ⟨a, ha, rfl⟩ := hx; obtain ⟨b, hb, rfl⟩ := hy
  exact ⟨a ^^^ b, by have := Nat.xor_lt_two_pow (le63 ha) (le63 hb); omega, nx_xor a b⟩
theorem c_and {x y : Int32} (hx : is63 x) : is63 (x &&& y) := by
  obtain ⟨a, ha, rfl⟩ := hx
  have e : y = nI y.toBitVec.toNat := by
    apply Int32.toBitVec_inj.1
    show y.toBitVec = BitVec.ofNat 32 y.toBitVec.toNat
    simp
  rw [e, nx_and]
  exact ⟨_, by have := Nat.and_lt_two_pow y.toBitVec.toNat (le63 ha); rw [Nat.and_comm] at this; omega, rfl⟩
theorem c_63 : is63 63 := ⟨63, by omega, rfl⟩
theorem c_0 : is63 0 := ⟨0, by omega, rfl⟩
theorem all63 {P : Int32 → Prop} (h : ∀ a : Fin 64, P (nI a.val)) {x : Int32} (hx : is63 x) : P x := by
  obtain ⟨a, ha, rfl⟩ := hx
  exact h ⟨a, by omega⟩
theorem ones_bc {x : Int32} (hx : is63 x) : ones8 x = bc32 x := all63 (P := fun x => ones8 x = bc32 x) (by decide +kernel) hx
theorem least_lst {x : Int32} (hx : is63 x) : leastf x 0 6 = lst x := all63 (P := fun x => leastf x 0 6 = lst x) (by decide +kernel) hx
theorem c_lst {x : Int32} (hx : is63 x) : is63 (lst x) := c_and hx
theorem bc_3 {x : Int32} (hx : is63 x) : 3 ≤ bc32 x ↔ 2 < bc32 x := all63 (P := fun x => 3 ≤ bc32 x ↔ 2 < bc32 x) (by decide +kernel) hx
theorem c_tld {x y : Int32} (hy : is63 y) : is63 (tld x y) := c_and hy
theorem c_oth {x y : Int32} : is63 (oth x y) := c_and (c_and c_63)
theorem does_tDo {kd did nt day : Int32} (hk : isK kd) (hn : is63 nt) : doesf kd did nt day = tDo kd day did nt := by
  have h1 : leastf (nt &&& (did ^^^ (-1))) 0 6 = lst (tld did nt) := least_lst (c_tld hn)
  have h2 : leastf ((nt &&& (did ^^^ (-1))) &&& (leastf (nt &&& (did ^^^ (-1))) 0 6 ^^^ (-1))) 0 6 = lst (tld did nt &&& (lst (tld did nt) ^^^ (-1))) := by rw [h1]; exact least_lst (c_and (c_tld hn))
  have h3 : leastf ((63 &&& (nt ^^^ (-1))) &&& (did ^^^ (-1))) 0 6 = lst (oth did nt) := least_lst c_oth
  have h4 : ones8 (nt &&& (did ^^^ (-1))) = bc32 (tld did nt) := ones_bc (c_tld hn)
  unfold doesf tDo
  rw [h2, h1, h3, h4]
  have h5 : (if 3 ≤ bc32 (tld did nt) then (0 : Int32) else lst (tld did nt)) = (if 2 < bc32 (tld did nt) then 0 else lst (tld did nt)) := by
    by_cases h : 2 < bc32 (tld did nt)
    · rw [if_pos h, if_pos ((bc_3 (c_tld hn)).mpr h)]
    · rw [if_neg h, if_neg (fun z => h ((bc_3 (c_tld hn)).mp z))]
  rw [h5]
theorem c_tDo {kd day did nt : Int32} (hn : is63 nt) : is63 (tDo kd day did nt) := by
  unfold tDo
  split
  · exact c_lst (c_tld hn)
  · split
    · exact c_or (c_lst (c_tld hn)) (c_lst (c_and (c_tld hn)))
    · split
      · split
        · exact c_0
        · exact c_lst (c_tld hn)
      · split
        · exact c_lst c_oth
        · split
          · exact c_lst c_oth
          · exact c_0
theorem c_dnB {kd day did nt : Int32} (hd : is63 did) (hn : is63 nt) (k : Nat) : is63 (dnB kd day did nt k) := by
  induction k with
  | zero => exact hd
  | succ k ih => exact c_or ih (c_tDo hn)
theorem go_dnB {kd day did nt : Int32} (hk : isK kd) (hn : is63 nt) (k : Nat) : goF day kd nt k did = dnB kd day did nt k := by
  induction k with
  | zero => rfl
  | succ k ih =>
    show goF day kd nt k did ||| doesf kd (goF day kd nt k did) nt (day + nI k) = dnB kd day did nt k ||| tDo kd (day + nI k) (dnB kd day did nt k) nt
    rw [ih, does_tDo hk hn]
/-! PURE: behind twelve days nothing new is done -/
def uS (u : Int32) : Int32 := u &&& (lst u ^^^ (-1))
theorem tld_or (x d nt : Int32) : tld (x ||| d) nt = tld x nt &&& (d ^^^ (-1)) := by
  apply b_ext; intro i hi
  unfold tld
  rw [b_and, b_xor, b_or, b_and, b_and, b_xor, b_xor, b_m1 i hi]
  cases bq nt i <;> cases bq x i <;> cases bq d i <;> rfl
theorem oth_or (x d nt : Int32) : oth (x ||| d) nt = oth x nt &&& (d ^^^ (-1)) := by
  apply b_ext; intro i hi
  unfold oth
  rw [b_and, b_and, b_xor, b_xor, b_or, b_and, b_and, b_and, b_xor, b_xor, b_xor, b_m1 i hi]
  cases bq 63 i <;> cases bq nt i <;> cases bq x i <;> cases bq d i <;> rfl
theorem or_0 (x : Int32) : x ||| 0 = x := by
  apply b_ext; intro i hi
  rw [b_or, b_0]; cases bq x i <;> rfl
theorem and_m1 (x : Int32) : x &&& (0 ^^^ (-1)) = x := by
  apply b_ext; intro i hi
  rw [b_and, b_xor, b_0, b_m1 i hi]; cases bq x i <;> rfl
theorem lst_0 : lst 0 = 0 := by decide
theorem u2 (u : Int32) : u &&& ((lst u ||| lst (uS u)) ^^^ (-1)) = uS (uS u) := by
  have : u &&& ((lst u ||| lst (uS u)) ^^^ (-1)) = (u &&& (lst u ^^^ (-1))) &&& (lst (uS u) ^^^ (-1)) := tld_or (lst u) (lst (uS u)) u
  rw [this]; rfl
def uI (n : Nat) (u : Int32) : Int32 := itr (fun _ u => uS u) n u
theorem uI_6 {u : Int32} (h : is63 u) : uI 6 u = 0 := all63 (P := fun u => uI 6 u = 0) (by decide +kernel) h
theorem uI_s (n : Nat) (u : Int32) : uI (n + 1) u = uS (uI n u) := rfl
theorem uS_0 : uS 0 = 0 := by decide
theorem uI_ge {u : Int32} (h : is63 u) (n : Nat) : uI (6 + n) u = 0 := by
  induction n with
  | zero => exact uI_6 h
  | succ n ih => rw [← Nat.add_assoc, uI_s, ih, uS_0]
/-- from here on nothing is done -/
def stk (kd x nt : Int32) : Prop := ∀ day, tDo kd day x nt = 0
theorem stk_12 {kd x nt : Int32} {d : Nat} (hd9 : d ≤ 999) (hk : isK kd) (hn : is63 nt) : stk kd (dnB kd (nI d) x nt 12) nt := by
  have step : ∀ k, dnB kd (nI d) x nt (k + 1) = dnB kd (nI d) x nt k ||| tDo kd (nI d + nI k) (dnB kd (nI d) x nt k) nt := fun k => rfl
  rcases hk with rfl | rfl | rfl | rfl | rfl
  · have h : ∀ k, tld (dnB 1 (nI d) x nt k) nt = uI k (tld x nt) := by
      intro k
      induction k with
      | zero => rfl
      | succ k ih => rw [step, tDo_1, tld_or, ih]; rfl
    intro day
    rw [tDo_1, h, uI_ge (c_tld hn) 6, lst_0]
  · have h : ∀ k, tld (dnB 2 (nI d) x nt k) nt = uI (2 * k) (tld x nt) := by
      intro k
      induction k with
      | zero => rfl
      | succ k ih => rw [step, tDo_2, tld_or, ih, Nat.mul_succ, uI_s, uI_s]; exact u2 _
    intro day
    rw [tDo_2, h, uI_ge (c_tld hn) 18]
    decide
  · have h : ∀ k, (2 < bc32 (tld x nt) ∧ dnB 3 (nI d) x nt k = x) ∨ (¬ 2 < bc32 (tld x nt) ∧ tld (dnB 3 (nI d) x nt k) nt = uI k (tld x nt)) := by
      have hm : ∀ (u : Int32), is63 u → ¬ 2 < bc32 u → ¬ 2 < bc32 (uS u) := fun u hu => all63 (P := fun u => ¬ 2 < bc32 u → ¬ 2 < bc32 (uS u)) (by decide +kernel) hu
      have hu : ∀ k, is63 (uI k (tld x nt)) := fun k => by
        induction k with
        | zero => exact c_tld hn
        | succ k ih => exact c_and ih
      have hb : ¬ 2 < bc32 (tld x nt) → ∀ k, ¬ 2 < bc32 (uI k (tld x nt)) := fun h0 k => by
        induction k with
        | zero => exact h0
        | succ k ih => exact hm _ (hu k) ih
      intro k
      by_cases h0 : 2 < bc32 (tld x nt)
      · left
        refine ⟨h0, ?_⟩
        induction k with
        | zero => rfl
        | succ k ih => rw [step, ih, tDo_3, if_pos h0, or_0]
      · right
        refine ⟨h0, ?_⟩
        induction k with
        | zero => rfl
        | succ k ih => rw [step, tDo_3, tld_or, ih, if_neg (hb h0 k)]; rfl
    intro day
    rcases h 12 with ⟨h0, h1⟩ | ⟨h0, h1⟩
    · rw [tDo_3, h1, if_pos h0]
    · rw [tDo_3, h1, uI_ge (c_tld hn) 6]
      decide
  · have h : ∀ k, oth (dnB 4 (nI d) x nt k) nt = uI k (oth x nt) := by
      intro k
      induction k with
      | zero => rfl
      | succ k ih => rw [step, tDo_4, oth_or, ih]; rfl
    intro day
    rw [tDo_4, h, uI_ge c_oth 6, lst_0]
  · have hp : ∀ m, m ≤ 2000 → (nI m - nI m / 2 * 2 = 0 ↔ m % 2 = 0) := fun m hm => by
      have e : nI m - nI m / 2 * 2 = nI (m % 2) := pk_rem (by omega) (by decide) (by decide)
      rw [e]
      exact nI_eq (b := 0) (by omega) (by omega)
    have h : ∀ k, k ≤ 12 → oth (dnB 5 (nI d) x nt k) nt = uI ((k + (if d % 2 = 0 then 1 else 0)) / 2) (oth x nt) := by
      intro k
      induction k with
      | zero =>
        intro _
        have : (0 + (if d % 2 = 0 then 1 else 0)) / 2 = 0 := by split <;> rfl
        rw [this]; rfl
      | succ k ih =>
        intro hk12
        rw [step, tDo_5, nI_add, oth_or, ih (by omega)]
        by_cases hd : (d + k) % 2 = 0
        · rw [if_pos ((hp _ (by omega)).mpr hd)]
          have : (k + 1 + (if d % 2 = 0 then 1 else 0)) / 2 = (k + (if d % 2 = 0 then 1 else 0)) / 2 + 1 := by split <;> omega
          rw [this, uI_s]; rfl
        · rw [if_neg (fun z => hd ((hp _ (by omega)).mp z)), and_m1]
          have : (k + 1 + (if d % 2 = 0 then 1 else 0)) / 2 = (k + (if d % 2 = 0 then 1 else 0)) / 2 := by split <;> omega
          rw [this]
    intro day
    rw [tDo_5, h 12 (Nat.le_refl 12)]
    have : (12 + (if d % 2 = 0 then 1 else 0)) / 2 = 6 + 0 := by split <;> rfl
    rw [this, uI_ge c_oth 0, lst_0]
    split <;> rfl
theorem dnB_stop {kd x nt : Int32} {d : Nat} (hd9 : d ≤ 999) (hk : isK kd) (hn : is63 nt) (n : Nat) : dnB kd (nI d) x nt (12 + n) = dnB kd (nI d) x nt 12 := by
  induction n with
  | zero => rfl
  | succ n ih =>
    show dnB kd (nI d) x nt (12 + n) ||| tDo kd (nI d + nI (12 + n)) (dnB kd (nI d) x nt (12 + n)) nt = _
    rw [ih, stk_12 hd9 hk hn, or_0]
theorem dnB_12 {kd x nt : Int32} {d : Nat} (hd9 : d ≤ 999) (hk : isK kd) (hn : is63 nt) (n : Nat) : dnB kd (nI d) x nt (min 12 n) = dnB kd (nI d) x nt n := by
  by_cases h : n ≤ 12
  · rw [show min 12 n = n by omega]
  · have := dnB_stop (x := x) (d := d) hd9 hk hn (n - 12)
    rw [show 12 + (n - 12) = n by omega] at this
    rw [show min 12 n = 12 by omega, this]
