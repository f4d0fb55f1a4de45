/-! PURE: a town's text -/
def tokN (c : Int32) : Int32 := if ¬ 0 ≤ c then 0 else if ¬ c < 97 ∧ ¬ 122 < c then 1 else if c = 44 then 3 else if c = 59 then 4 else 5
abbrev isB (c : Int32) : Prop := ∃ b : Nat, b ≤ 255 ∧ c = nI b
theorem allB {P : Int32 → Prop} (h : ∀ a : Fin 256, P (nI a.val)) {x : Int32} (hx : isB x) : P x := by
  obtain ⟨a, ha, rfl⟩ := hx
  exact h ⟨a, by omega⟩
theorem tok_c {c : Int32} (h : isB c) : (tokN c = 3 ↔ c = 44) ∧ (tokN c = 4 ↔ c = 59) ∧ ¬ tokN c = 2 ∧ ¬ tokN c = 0 ∧ (c = 119 → tokN c = 1) ∧ 0 ≤ c ∧ kindOf c = kSF c ∧ (¬ kSF c = 0 → tokN c = 1 ∧ ¬ kindOf c ≤ 0) ∧ (¬ kindOf c ≤ 0 → ¬ kSF c = 0) ∧ (digb c → ¬ c = 44 ∧ ¬ c = 59 ∧ ¬ c = 119 ∧ kSF c = 0) :=
  allB (P := fun c => (tokN c = 3 ↔ c = 44) ∧ (tokN c = 4 ↔ c = 59) ∧ ¬ tokN c = 2 ∧ ¬ tokN c = 0 ∧ (c = 119 → tokN c = 1) ∧ 0 ≤ c ∧ kindOf c = kSF c ∧ (¬ kSF c = 0 → tokN c = 1 ∧ ¬ kindOf c ≤ 0) ∧ (¬ kindOf c ≤ 0 → ¬ kSF c = 0) ∧ (digb c → ¬ c = 44 ∧ ¬ c = 59 ∧ ¬ c = 119 ∧ kSF c = 0)) (by decide +kernel) h
theorem kSF_K {c : Int32} (h : ¬ kSF c = 0) : isK (kSF c) := by
  unfold kSF at h ⊢
  by_cases h1 : c = 99
  · rw [if_pos h1]; exact Or.inr (Or.inr (Or.inr (Or.inl rfl)))
  · rw [if_neg h1] at h ⊢
    by_cases h2 : c = 107
    · rw [if_pos h2]; exact Or.inr (Or.inr (Or.inr (Or.inr rfl)))
    · rw [if_neg h2] at h ⊢
      by_cases h3 : c = 112
      · rw [if_pos h3]; exact Or.inl rfl
      · rw [if_neg h3] at h ⊢
        by_cases h4 : c = 115
        · rw [if_pos h4]; exact Or.inr (Or.inr (Or.inl rfl))
        · rw [if_neg h4] at h ⊢
          by_cases h5 : c = 118
          · rw [if_pos h5]; exact Or.inr (Or.inl rfl)
          · rw [if_neg h5] at h; exact absurd rfl h
def BB (t : Nat) (b1 b2 : Nat → Int32) : Prop := ∀ k, k < t → b1 k = b2 k ∧ isB (b1 k)
section PX
variable {t : Nat} {b1 b2 : Nat → Int32}
theorem B_in (h : BB t b1 b2) {k : Nat} (hk : k < t) : byt b2 t k = b1 k := by unfold byt; rw [if_pos hk]; exact (h k hk).1.symm
theorem B_out {k : Nat} (hk : ¬ k < t) : byt b2 t k = -1 := by unfold byt; rw [if_neg hk]
theorem dig_m1 : ¬ digb (-1) := by decide
theorem adT_e (s : Nat) : adT b2 t s = if digb (byt b2 t s) then (if rl b2 t s (t - s) < 3 then 2 else 5) else tokN (byt b2 t s) := rfl
theorem ad_end {s : Nat} (hs : ¬ s < t) : adT b2 t s = 0 ∧ ¬ digb (byt b2 t s) := by
  rw [adT_e, B_out hs, if_neg dig_m1]
  exact ⟨by decide, dig_m1⟩
theorem ad_2 {s : Nat} (h : BB t b1 b2) (hd : ¬ digb (byt b2 t s)) : ¬ adT b2 t s = 2 := by
  rw [adT_e, if_neg hd]
  by_cases hs : s < t
  · rw [B_in h hs]; exact (tok_c (h s hs).2).2.2.1
  · rw [B_out hs]; decide
theorem ad_3 (h : BB t b1 b2) (s : Nat) : adT b2 t s = 3 ↔ (s < t ∧ b1 s = 44) := by
  by_cases hs : s < t
  · have hc := tok_c (h s hs).2
    rw [adT_e, B_in h hs]
    by_cases hd : digb (b1 s)
    · rw [if_pos hd]
      refine ⟨fun z => ?_, fun z => absurd z.2 (hc.2.2.2.2.2.2.2.2.2 hd).1⟩
      split at z <;> exact absurd z (by decide)
    · rw [if_neg hd]; exact ⟨fun z => ⟨hs, hc.1.mp z⟩, fun z => hc.1.mpr z.2⟩
  · rw [(ad_end hs).1]; exact ⟨fun z => absurd z (by decide), fun z => absurd z.1 hs⟩
theorem ad_4 (h : BB t b1 b2) (s : Nat) : adT b2 t s = 4 ↔ (s < t ∧ b1 s = 59) := by
  by_cases hs : s < t
  · have hc := tok_c (h s hs).2
    rw [adT_e, B_in h hs]
    by_cases hd : digb (b1 s)
    · rw [if_pos hd]
      refine ⟨fun z => ?_, fun z => absurd z.2 (hc.2.2.2.2.2.2.2.2.2 hd).2.1⟩
      split at z <;> exact absurd z (by decide)
    · rw [if_neg hd]; exact ⟨fun z => ⟨hs, hc.2.1.mp z⟩, fun z => hc.2.1.mpr z.2⟩
  · rw [(ad_end hs).1]; exact ⟨fun z => absurd z (by decide), fun z => absurd z.1 hs⟩
theorem adV_c (h : BB t b1 b2) {s : Nat} (hs : s < t) (hd : ¬ digb (b1 s)) : adV b2 t s = b1 s := by
  have : adV b2 t s = if digb (byt b2 t s) then vvf b2 t s (rl b2 t s (t - s)) else byt b2 t s := rfl
  rw [this, B_in h hs, if_neg hd]
theorem adA_c (h : BB t b1 b2) {s : Nat} (hs : s < t) (hd : ¬ digb (b1 s)) : adA b2 t s = s + 1 := by
  have : adA b2 t s = if digb (byt b2 t s) then s + rl b2 t s (t - s) else if 0 ≤ byt b2 t s then s + 1 else s := rfl
  rw [this, B_in h hs, if_neg hd, if_pos (tok_c (h s hs).2).2.2.2.2.2.1]
theorem ad_w (h : BB t b1 b2) (s : Nat) : (adT b2 t s = 1 ∧ adV b2 t s = 119) ↔ (s < t ∧ b1 s = 119) := by
  by_cases hs : s < t
  · have hc := tok_c (h s hs).2
    by_cases hd : digb (b1 s)
    · refine ⟨fun z => ?_, fun z => absurd z.2 (hc.2.2.2.2.2.2.2.2.2 hd).2.2.1⟩
      have z1 := z.1
      rw [adT_e, B_in h hs, if_pos hd] at z1
      split at z1 <;> exact absurd z1 (by decide)
    · rw [adV_c h hs hd, adT_e, B_in h hs, if_neg hd]
      exact ⟨fun z => ⟨hs, z.2⟩, fun z => ⟨hc.2.2.2.2.1 z.2, z.2⟩⟩
  · rw [(ad_end hs).1]; exact ⟨fun z => absurd z.1 (by decide), fun z => absurd z.1 hs⟩
theorem ad_k (h : BB t b1 b2) {s : Nat} (hs : s < t) : ((adT b2 t s = 1 ∧ ¬ kindOf (adV b2 t s) ≤ 0) ↔ ¬ kSF (b1 s) = 0) ∧ (¬ kSF (b1 s) = 0 → ¬ digb (b1 s) ∧ kindOf (adV b2 t s) = kSF (b1 s)) := by
  have hc := tok_c (h s hs).2
  by_cases hd : digb (b1 s)
  · have hk := (hc.2.2.2.2.2.2.2.2.2 hd).2.2.2
    refine ⟨⟨fun z => ?_, fun z => absurd hk z⟩, fun z => absurd hk z⟩
    have z1 := z.1
    rw [adT_e, B_in h hs, if_pos hd] at z1
    split at z1 <;> exact absurd z1 (by decide)
  · rw [adV_c h hs hd, adT_e, B_in h hs, if_neg hd]
    exact ⟨⟨fun z => hc.2.2.2.2.2.2.2.2.1 z.2, fun z => hc.2.2.2.2.2.2.2.1 z⟩, fun _ => ⟨hd, hc.2.2.2.2.2.2.1⟩⟩
/-! numbers -/
theorem rl_spec : ∀ n a, a + n = t → (∀ j, j < rl b2 t a n → digb (byt b2 t (a + j))) ∧ ¬ digb (byt b2 t (a + rl b2 t a n)) ∧ rl b2 t a n ≤ n := by
  intro n
  induction n with
  | zero => intro a ha; exact ⟨fun j hj => absurd hj (Nat.not_lt_zero j), by show ¬ digb (byt b2 t (a + 0)); rw [B_out (by omega)]; exact dig_m1, Nat.le_refl 0⟩
  | succ n ih =>
    intro a ha
    by_cases hd : digb (byt b2 t a)
    · have e : rl b2 t a (n + 1) = rl b2 t (a + 1) n + 1 := by show (if digb (byt b2 t a) then rl b2 t (a + 1) n + 1 else 0) = _; rw [if_pos hd]
      obtain ⟨i1, i2, i3⟩ := ih (a + 1) (by omega)
      rw [e]
      refine ⟨fun j hj => ?_, by rw [show a + (rl b2 t (a + 1) n + 1) = a + 1 + rl b2 t (a + 1) n by omega]; exact i2, by omega⟩
      cases j with
      | zero => exact hd
      | succ j => rw [show a + (j + 1) = a + 1 + j by omega]; exact i1 j (by omega)
    · have e : rl b2 t a (n + 1) = 0 := by show (if digb (byt b2 t a) then rl b2 t (a + 1) n + 1 else 0) = _; rw [if_neg hd]
      rw [e]
      exact ⟨fun j hj => absurd hj (Nat.not_lt_zero j), hd, Nat.zero_le _⟩
theorem nf_min (h : BB t b1 b2) {s : Nat} (hs : s ≤ t) : ∀ k, nfF b1 t s k = min k (rl b2 t s (t - s)) := by
  obtain ⟨h1, h2, h3⟩ := rl_spec (b2 := b2) (t := t) (t - s) s (by omega)
  have hdg : ∀ k, (s + k < t ∧ ¬ b1 (s + k) < 48 ∧ ¬ 57 < b1 (s + k)) ↔ digb (byt b2 t (s + k)) := by
    intro k
    constructor
    · intro z; rw [B_in h z.1]; exact z.2
    · intro z; have := byt_lt z; rw [B_in h this] at z; exact ⟨this, z⟩
  intro k
  induction k with
  | zero => show 0 = _; omega
  | succ k ih =>
    show (if nfF b1 t s k = k ∧ s + k < t ∧ ¬ b1 (s + k) < 48 ∧ ¬ 57 < b1 (s + k) then k + 1 else nfF b1 t s k) = _
    rw [ih]
    by_cases hk : k < rl b2 t s (t - s)
    · rw [if_pos ⟨by omega, (hdg k).mpr (h1 k hk)⟩]; omega
    · rw [if_neg ?_]
      · omega
      · intro z
        have e : k = rl b2 t s (t - s) := by have := z.1; omega
        have z2 := (hdg k).mp z.2
        rw [e] at z2
        exact h2 z2
theorem dig_n {c : Int32} (hb : isB c) (hd : digb c) : ∃ d : Nat, d ≤ 9 ∧ c = nI (48 + d) := by
  obtain ⟨b, hb5, rfl⟩ := hb
  have h1 := hd.1
  have h2 := hd.2
  rw [i_lt, nI_toInt (by omega)] at h1
  rw [i_lt, nI_toInt (by omega)] at h2
  have e1 : (48 : Int32).toInt = 48 := rfl
  have e2 : (57 : Int32).toInt = 57 := rfl
  exact ⟨b - 48, by omega, by congr 1; omega⟩
theorem nv_vv (h : BB t b1 b2) {s m : Nat} (hm : m ≤ 2) (hd : ∀ j, j < m → digb (byt b2 t (s + j))) : ∀ k, k ≤ m → nvF b1 s k = vvf b2 t s k ∧ ∃ v : Nat, v < 10 ^ k ∧ nvF b1 s k = nI v := by
  intro k
  induction k with
  | zero => intro _; exact ⟨rfl, 0, by decide, rfl⟩
  | succ k ih =>
    intro hk
    obtain ⟨i1, v, hv, i2⟩ := ih (by omega)
    have hdk := hd k (by omega)
    have hlt := byt_lt hdk
    have e1 : nvF b1 s (k + 1) = nvF b1 s k * 10 + b1 (s + k) - 48 := rfl
    have e2 : vvf b2 t s (k + 1) = if k < 2 then 10 * vvf b2 t s k + byt b2 t (s + k) - 48 else vvf b2 t s k := rfl
    rw [e1, e2, if_pos (by omega), ← i1, B_in h hlt, Int32.mul_comm 10]
    refine ⟨rfl, ?_⟩
    rw [B_in h hlt] at hdk
    obtain ⟨d, hd9, ed⟩ := dig_n (h _ hlt).2 hdk
    refine ⟨v * 10 + d, by rw [Nat.pow_succ]; omega, ?_⟩
    rw [i2, ed]
    show nI v * nI 10 + nI (48 + d) - nI 48 = _
    rw [nI_mul, nI_add, pk_sub (by omega)]
    congr 1; omega
/-! the two readings go together -/
def sAt (b2 : Nat → Int32) (t s : Nat) (fk : Int32) : PS := (s, adA b2 t s, adT b2 t s, adV b2 t s, fk, -1)
def RPs (b2 : Nat → Int32) (t : Nat) (fk : Int32) (σ : PS) (z : Nat × Int32) : Prop := z.1 ≤ t ∧ ((z.2 = 0 ∧ σ = sAt b2 t z.1 fk) ∨ (¬ z.2 = 0 ∧ σ.2.2.2.2.1 = z.2 ∧ σ.2.2.2.2.2 = nI z.1))
theorem bI1 {P : Prop} [Decidable P] (h : P) : ¬ bI P = 0 := fun z => bI_0.mp z h
theorem take_ok {fk sg kd : Int32} {P : Prop} [Decidable P] {σ : PS} {z : Nat × Int32} (ht : t ≤ 120) (hR : RPs b2 t fk σ z) (hk : kd = 1) (hP : z.2 = 0 → (P ↔ (z.1 < t ∧ b1 z.1 = sg))) (hA : z.1 < t ∧ b1 z.1 = sg → adA b2 t z.1 = z.1 + 1) : RPs b2 t fk (pTake b2 t (bI P) kd σ).2 (tSg b1 t sg z) := by
  subst hk
  obtain ⟨h1, h2⟩ := hR
  unfold pTake tSg
  rcases h2 with ⟨h2, rfl⟩ | ⟨h2, h3, h4⟩
  · have hw : (sAt b2 t z.1 fk).2.2.2.2.2 < 0 := by show (-1 : Int32) < 0; decide
    rw [if_neg (not_not_intro hw), if_pos h2]
    by_cases hp : P
    · have hq := (hP h2).mp hp
      rw [if_neg (bI1 hp), if_pos hq]
      refine ⟨by show z.1 + 1 ≤ t; omega, Or.inl ⟨h2, ?_⟩⟩
      show ((sAt b2 t z.1 fk).2.1, adA b2 t (sAt b2 t z.1 fk).2.1, _) = _
      rw [show (sAt b2 t z.1 fk).2.1 = z.1 + 1 from hA hq]; rfl
    · rw [if_pos (bI_0.mpr hp), if_neg (mt (hP h2).mpr hp)]
      exact ⟨h1, Or.inr ⟨show ¬ (1 : Int32) = 0 by decide, rfl, rfl⟩⟩
  · have hw : ¬ σ.2.2.2.2.2 < 0 := by rw [h4]; exact nI_pos (by omega)
    rw [if_pos hw, if_neg h2]
    exact ⟨h1, Or.inr ⟨h2, h3, h4⟩⟩
theorem fig_ok {fk mo : Int32} {σ : PS} {z : Nat × Int32} (h : BB t b1 b2) (ht : t ≤ 120) (hR : RPs b2 t fk σ z) : (pFig b2 t 0 mo σ).1 = (tNm b1 t mo z).1 ∧ RPs b2 t fk (pFig b2 t 0 mo σ).2 (tNm b1 t mo z).2 := by
  obtain ⟨h1, h2⟩ := hR
  unfold pFig tNm
  rcases h2 with ⟨h2, rfl⟩ | ⟨h2, h3, h4⟩
  · have hw : (sAt b2 t z.1 fk).2.2.2.2.2 < 0 := by show (-1 : Int32) < 0; decide
    rw [if_pos h2, nf_min h h1 3]
    obtain ⟨g1, g2, g3⟩ := rl_spec (b2 := b2) (t := t) (t - z.1) z.1 (by omega)
    have eT : (sAt b2 t z.1 fk).2.2.1 = adT b2 t z.1 := rfl
    have eV : (sAt b2 t z.1 fk).2.2.2.1 = adV b2 t z.1 := rfl
    rw [eT, eV]
    by_cases hm : rl b2 t z.1 (t - z.1) = 0 ∨ 3 ≤ rl b2 t z.1 (t - z.1)
    · have hT : ¬ adT b2 t z.1 = 2 := by
        rcases hm with hm | hm
        · rw [hm] at g2; exact ad_2 h g2
        · rw [adT_e, if_pos (show digb (byt b2 t z.1) from g1 0 (by omega)), if_neg (by omega)]; decide
      rw [if_pos (show (sAt b2 t z.1 fk).2.2.2.2.2 < 0 ∧ ¬ adT b2 t z.1 = 2 from ⟨hw, hT⟩), if_pos (by omega)]
      unfold pTake
      rw [if_neg (not_not_intro hw), if_pos rfl]
      exact ⟨rfl, h1, Or.inr ⟨show ¬ (1 : Int32) = 0 by decide, rfl, rfl⟩⟩
    · have hd0 : digb (byt b2 t z.1) := g1 0 (by omega)
      have hT : adT b2 t z.1 = 2 := by rw [adT_e, if_pos hd0, if_pos (by omega)]
      have hV : adV b2 t z.1 = vvf b2 t z.1 (rl b2 t z.1 (t - z.1)) := by
        have : adV b2 t z.1 = if digb (byt b2 t z.1) then vvf b2 t z.1 (rl b2 t z.1 (t - z.1)) else byt b2 t z.1 := rfl
        rw [this, if_pos hd0]
      have hAd : adA b2 t z.1 = z.1 + rl b2 t z.1 (t - z.1) := by
        have : adA b2 t z.1 = if digb (byt b2 t z.1) then z.1 + rl b2 t z.1 (t - z.1) else if 0 ≤ byt b2 t z.1 then z.1 + 1 else z.1 := rfl
        rw [this, if_pos hd0]
      obtain ⟨n1, v, hv, n2⟩ := nv_vv h (s := z.1) (m := rl b2 t z.1 (t - z.1)) (by omega) g1 _ (Nat.le_refl _)
      rw [if_neg (show ¬ ((sAt b2 t z.1 fk).2.2.2.2.2 < 0 ∧ ¬ adT b2 t z.1 = 2) from fun q => q.2 hT), if_neg (by omega), show min 3 (rl b2 t z.1 (t - z.1)) = rl b2 t z.1 (t - z.1) by omega, hV, ← n1]
      have hv0 : ¬ nvF b1 z.1 (rl b2 t z.1 (t - z.1)) < 0 := by
        rw [n2]
        have : 10 ^ rl b2 t z.1 (t - z.1) ≤ 10 ^ 2 := Nat.pow_le_pow_right (by omega) (by omega)
        exact nI_pos (by omega)
      unfold pTake
      rw [if_neg (not_not_intro hw)]
      by_cases hle : nvF b1 z.1 (rl b2 t z.1 (t - z.1)) ≤ mo
      · have hq : ¬ nvF b1 z.1 (rl b2 t z.1 (t - z.1)) < 0 ∧ ¬ mo < nvF b1 z.1 (rl b2 t z.1 (t - z.1)) := ⟨hv0, by rw [i_le] at hle; rw [i_lt]; omega⟩
        rw [if_neg (bI1 hq), if_neg (not_not_intro hle)]
        refine ⟨?_, by show z.1 + rl b2 t z.1 (t - z.1) ≤ t; omega, Or.inl ⟨h2, ?_⟩⟩
        · show adV b2 t z.1 = _; rw [hV, n1]
        · show ((sAt b2 t z.1 fk).2.1, adA b2 t (sAt b2 t z.1 fk).2.1, _) = _
          rw [show (sAt b2 t z.1 fk).2.1 = z.1 + rl b2 t z.1 (t - z.1) from hAd]; rfl
      · have hq : ¬ (¬ nvF b1 z.1 (rl b2 t z.1 (t - z.1)) < 0 ∧ ¬ mo < nvF b1 z.1 (rl b2 t z.1 (t - z.1))) := fun q => q.2 (by rw [i_le] at hle; rw [i_lt]; omega)
        rw [if_pos (bI_0.mpr hq), if_pos hle]
        exact ⟨rfl, h1, Or.inr ⟨show ¬ (2 : Int32) = 0 by decide, rfl, rfl⟩⟩
  · have hw : ¬ σ.2.2.2.2.2 < 0 := by rw [h4]; exact nI_pos (by omega)
    rw [if_neg (show ¬ (σ.2.2.2.2.2 < 0 ∧ ¬ σ.2.2.1 = 2) from fun q => hw q.1), if_neg h2]
    unfold pTake
    rw [if_pos hw]
    exact ⟨rfl, h1, Or.inr ⟨h2, h3, h4⟩⟩
theorem nodig {c : Int32} (hc : c = 44 ∨ c = 59 ∨ c = 119) : ¬ digb c := by rcases hc with rfl | rfl | rfl <;> decide
theorem sg_ok {fk : Int32} {σ : PS} {z : Nat × Int32} (h : BB t b1 b2) (ht : t ≤ 120) (hR : RPs b2 t fk σ z) : RPs b2 t fk (pTake b2 t (bI (σ.2.2.1 = 3)) 1 σ).2 (tSg b1 t 44 z) ∧ RPs b2 t fk (pTake b2 t (bI (σ.2.2.1 = 4)) 1 σ).2 (tSg b1 t 59 z) ∧ RPs b2 t fk (pTake b2 t (bI (σ.2.2.1 = 1 ∧ σ.2.2.2.1 = 119)) 1 σ).2 (tSg b1 t 119 z) := by
  have hs : z.2 = 0 → σ = sAt b2 t z.1 fk := fun h0 => by
    rcases hR.2 with q | q
    · exact q.2
    · exact absurd h0 q.1
  refine ⟨take_ok ht hR rfl (fun h0 => ?_) (fun q => adA_c h q.1 (nodig (Or.inl q.2))), take_ok ht hR rfl (fun h0 => ?_) (fun q => adA_c h q.1 (nodig (Or.inr (Or.inl q.2)))), take_ok ht hR rfl (fun h0 => ?_) (fun q => adA_c h q.1 (nodig (Or.inr (Or.inr q.2))))⟩
  · rw [hs h0]; exact ad_3 h z.1
  · rw [hs h0]; exact ad_4 h z.1
  · rw [hs h0]; exact ad_w h z.1
theorem next_ok {fk mo : Int32} {σ : PS} {z : Nat × Int32} (h : BB t b1 b2) (ht : t ≤ 120) (hR : RPs b2 t fk σ z) : (pNext b2 t 0 mo σ).1 = (tNm b1 t mo (tSg b1 t 44 z)).1 ∧ RPs b2 t fk (pNext b2 t 0 mo σ).2 (tNm b1 t mo (tSg b1 t 44 z)).2 := fig_ok h ht (sg_ok h ht hR).1
theorem tSg_0 {sg : Int32} {z : Nat × Int32} (h : (tSg b1 t sg z).2 = 0) : z.2 = 0 := by
  unfold tSg at h
  by_cases h1 : z.2 = 0
  · exact h1
  · rw [if_neg h1] at h; exact h
theorem tNm_0 {mo : Int32} {z : Nat × Int32} (hB : BB t b1 b2) (hz : z.1 ≤ t) (h : (tNm b1 t mo z).2.2 = 0) : z.2 = 0 ∧ (tNm b1 t mo z).1 ≤ mo ∧ ∃ v : Nat, v ≤ 99 ∧ (tNm b1 t mo z).1 = nI v := by
  unfold tNm at h ⊢
  by_cases h1 : z.2 = 0
  · rw [if_pos h1] at h ⊢
    by_cases h2 : nfF b1 t z.1 3 = 0 ∨ nfF b1 t z.1 3 = 3
    · rw [if_pos h2] at h; exact absurd h (show ¬ (1 : Int32) = 0 by decide)
    · rw [if_neg h2] at h ⊢
      by_cases h3 : nvF b1 z.1 (nfF b1 t z.1 3) ≤ mo
      · rw [if_neg (not_not_intro h3)]
        refine ⟨h1, h3, ?_⟩
        rw [nf_min hB hz 3] at h2 ⊢
        obtain ⟨g1, g2, g3⟩ := rl_spec (b2 := b2) (t := t) (t - z.1) z.1 (by omega)
        obtain ⟨-, v, hv, n2⟩ := nv_vv hB (s := z.1) (m := rl b2 t z.1 (t - z.1)) (by omega) g1 _ (Nat.le_refl _)
        have : 10 ^ rl b2 t z.1 (t - z.1) ≤ 10 ^ 2 := Nat.pow_le_pow_right (by omega) (by omega)
        exact ⟨v, by omega, by rw [show min 3 (rl b2 t z.1 (t - z.1)) = rl b2 t z.1 (t - z.1) by omega]; exact n2⟩
      · rw [if_pos h3] at h; exact absurd h (show ¬ (2 : Int32) = 0 by decide)
  · rw [if_neg h1] at h; exact absurd h h1
/-! a reader's text -/
theorem rB_e (z : Nat × Int32) : rB b1 t z = (((tNm b1 t 63 z).1, (tNm b1 t 63 (tSg b1 t 44 (tNm b1 t 63 z).2)).1, (tNm b1 t 60 (tSg b1 t 44 (tNm b1 t 63 (tSg b1 t 44 (tNm b1 t 63 z).2)).2)).1), tSg b1 t 59 (tNm b1 t 60 (tSg b1 t 44 (tNm b1 t 63 (tSg b1 t 44 (tNm b1 t 63 z).2)).2)).2) := by unfold rB; dsimp only
theorem le_63 {x : Int32} {m : Nat} (hm : m ≤ 63) (h : x ≤ nI m) (hv : ∃ v : Nat, v ≤ 99 ∧ x = nI v) : ∃ v : Nat, v ≤ m ∧ x = nI v := by
  obtain ⟨v, hv9, rfl⟩ := hv
  rw [nI_leI (by omega) (by omega)] at h
  exact ⟨v, h, rfl⟩
theorem body_a {fk : Int32} {σ σ2 σ3 σ4 : Int32 × PS} {z : Nat × Int32} {x2 x3 x4 : Int32 × Nat × Int32} {q : Nat × Int32} {p5 : Int32 × PS} (h : BB t b1 b2) (ht : t ≤ 120) (hR : RPs b2 t fk σ.2 z) (e2 : pFig b2 t 0 63 σ.2 = σ2) (e3 : pNext b2 t 0 63 σ2.2 = σ3) (e4 : pNext b2 t 0 60 σ3.2 = σ4) (e5 : pTake b2 t (bI (σ4.2.2.2.1 = 4)) 1 σ4.2 = p5) (y2 : tNm b1 t 63 z = x2) (y3 : tNm b1 t 63 (tSg b1 t 44 x2.2) = x3) (y4 : tNm b1 t 60 (tSg b1 t 44 x3.2) = x4) (y5 : tSg b1 t 59 x4.2 = q) :
    σ2.1 = x2.1 ∧ σ3.1 = x3.1 ∧ σ4.1 = x4.1 ∧ RPs b2 t fk p5.2 q ∧ (q.2 = 0 → is63 x2.1 ∧ is63 x3.1 ∧ isL x4.1) := by
  have s1 := fig_ok (mo := 63) h ht hR
  rw [e2, y2] at s1
  have s2 := next_ok (mo := 63) h ht s1.2
  rw [e3, y3] at s2
  have s3 := next_ok (mo := 60) h ht s2.2
  rw [e4, y4] at s3
  have s4 := (sg_ok h ht s3.2).2.1
  rw [e5, y5] at s4
  refine ⟨s1.1, s2.1, s3.1, s4, fun h0 => ?_⟩
  have l2 : x2.2.1 ≤ t := s1.2.1
  have l3 : x3.2.1 ≤ t := s2.2.1
  have a3 : x4.2.2 = 0 := tSg_0 (by rw [y5]; exact h0)
  have t3 := tNm_0 (mo := 60) h (tSg_le (sg := 44) l3) (by rw [y4]; exact a3)
  rw [y4] at t3
  have a2 : x3.2.2 = 0 := tSg_0 t3.1
  have t2 := tNm_0 (mo := 63) h (tSg_le (sg := 44) l2) (by rw [y3]; exact a2)
  rw [y3] at t2
  have a1 : x2.2.2 = 0 := tSg_0 t2.1
  have t1 := tNm_0 (mo := 63) h hR.1 (by rw [y2]; exact a1)
  rw [y2] at t1
  exact ⟨le_63 (m := 63) (by omega) t1.2.1 t1.2.2, le_63 (m := 63) (by omega) t2.2.1 t2.2.2, le_63 (m := 60) (by omega) t3.2.1 t3.2.2⟩
end PX
