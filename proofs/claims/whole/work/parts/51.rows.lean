/-! PURE: rows, tape, trace -/
theorem itr_at {b : Nat} {g : Nat → Int32} {f : Nat → Int32} (n k : Nat) : (itr (fun j f => upd f (b + j) (g j)) n f) k = if b ≤ k ∧ k < b + n then g (k - b) else f k := by
  induction n with
  | zero => rw [if_neg (by omega)]; rfl
  | succ n ih =>
    show upd (itr (fun j f => upd f (b + j) (g j)) n f) (b + n) (g n) k = _
    by_cases h : k = b + n
    · subst h
      rw [pk_us, if_pos (by omega), show b + n - b = n by omega]
    · rw [pk_un h, ih]
      by_cases h2 : b ≤ k ∧ k < b + n
      · rw [if_pos h2, if_pos (by omega)]
      · rw [if_neg h2, if_neg (by omega)]
def RRw (la sz it mla mma mit : Nat → Int32) : Prop := ∀ r, r ≤ 7 → (∃ k, k ≤ 40 ∧ sz r = nI k) ∧ (∃ k, k ≤ 40 ∧ mma r = nI k) ∧ ((la r = -1 ∧ mla r = -1000000) ∨ (la r = mla r ∧ (la r = 0 ∨ la r = 1 ∨ la r = 2) ∧ sz r = mma r ∧ ∀ i k, sz r = nI k → i < k → k ≤ 40 → it (r * 40 + i) = mit (40 * r + i)))
theorem row8 (x : Int32) : (¬ x < 0 ∧ ¬ 8 ≤ x) ↔ (¬ x < 0 ∧ ¬ 7 < x) := by
  rw [i_lt, i_le, i_lt]
  have h8 : (8 : Int32).toInt = 8 := rfl
  have h7 : (7 : Int32).toInt = 7 := rfl
  omega
theorem n1 : ¬ (0 : Int32) = -1 ∧ ¬ (1 : Int32) = -1 ∧ ¬ (2 : Int32) = -1 ∧ ¬ (0 : Int32) = -1000000 ∧ ¬ (1 : Int32) = -1000000 ∧ ¬ (2 : Int32) = -1000000 := by decide
theorem ln_ne {x : Int32} (h : x = 0 ∨ x = 1 ∨ x = 2) : ¬ x = -1 ∧ ¬ x = -1000000 := by
  rcases h with rfl | rfl | rfl <;> decide
theorem mis_iff {la sz it mla mma mit : Nat → Int32} (hR : RRw la sz it mla mma mit) {r : Nat} (hr : r ≤ 7) : la r = -1 ↔ mla r = -1000000 := by
  rcases (hR r hr).2.2 with ⟨h1, h2⟩ | ⟨h1, h2, -⟩
  · exact ⟨fun _ => h2, fun _ => h1⟩
  · exact ⟨fun z => absurd z (ln_ne h2).1, fun z => absurd (h1.trans z) (ln_ne h2).2⟩
theorem row_tn {x : Int32} (h : ¬ x < 0 ∧ ¬ 7 < x) : ∃ r : Nat, r ≤ 7 ∧ x = nI r ∧ tn x = r := by
  obtain ⟨r, hr, rfl⟩ := i_nat 7 h.1 h.2 rfl (by decide)
  exact ⟨r, hr, rfl, tn_nI hr⟩
theorem lane3 {x : Int32} (h : ¬ x < 0 ∧ ¬ 2 < x) : x = 0 ∨ x = 1 ∨ x = 2 := by
  obtain ⟨r, hr, rfl⟩ := i_nat 2 h.1 h.2 rfl (by decide)
  rcases (show r = 0 ∨ r = 1 ∨ r = 2 by omega) with rfl | rfl | rfl
  · exact Or.inl rfl
  · exact Or.inr (Or.inl rfl)
  · exact Or.inr (Or.inr rfl)
theorem e_row {fi : Int32} {la sz it mla mma mit : Nat → Int32} (hR : RRw la sz it mla mma mit) (row lane x : Int32) : (x_row fi la sz it row lane x).1 = (m_row fi mla mma mit row lane x).1 ∧ (x_row fi la sz it row lane x).2.1 = (m_row fi mla mma mit row lane x).2.1 ∧ RRw (x_row fi la sz it row lane x).2.2.1 (x_row fi la sz it row lane x).2.2.2.1 (x_row fi la sz it row lane x).2.2.2.2 (m_row fi mla mma mit row lane x).2.2.1 (m_row fi mla mma mit row lane x).2.2.2.1 (m_row fi mla mma mit row lane x).2.2.2.2 := by
  unfold x_row m_row
  by_cases h1 : ¬ row < 0 ∧ ¬ 7 < row
  · rw [if_neg (not_not_intro ((row8 row).mpr h1)), if_neg (not_not_intro h1)]
    by_cases h2 : ¬ lane < 0 ∧ ¬ 2 < lane
    · rw [if_neg (not_not_intro h2), if_neg (not_not_intro h2)]
      by_cases h3 : x ≤ 40
      · rw [if_neg (not_not_intro h3), if_neg (not_not_intro h3)]
        by_cases h4 : 0 ≤ x
        · rw [if_neg (not_not_intro h4), if_neg (not_not_intro h4)]
          refine ⟨rfl, rfl, ?_⟩
          obtain ⟨r, hr, rfl, e⟩ := row_tn h1
          obtain ⟨n, hn, rfl⟩ := nI_of2 (n := 40) rfl (i_0le h4) h3
          show RRw (upd la (tn (nI r)) lane) (upd sz (tn (nI r)) (nI n)) (itr (fun j f => upd f (tn (nI r) * 40 + j) 0) (tn (nI n)) it) (upd mla (tn (nI r)) lane) (upd mma (tn (nI r)) (nI n)) (itr (fun k f => upd f (40 * tn (nI r) + k) 0) 40 mit)
          rw [e, tn_nI hn]
          intro q hq
          by_cases hqr : q = r
          · subst hqr
            rw [pk_us, pk_us, pk_us, pk_us]
            refine ⟨⟨n, hn, rfl⟩, ⟨n, hn, rfl⟩, Or.inr ⟨rfl, lane3 h2, rfl, fun i k hk hi hk40 => ?_⟩⟩
            have : n = k := (nI_eq (by omega) (by omega)).mp hk
            subst this
            rw [itr_at (g := fun _ => 0), itr_at (g := fun _ => 0), if_pos (by omega), if_pos (by omega)]
          · obtain ⟨g1, g2, g3⟩ := hR q hq
            rw [pk_un hqr, pk_un hqr, pk_un hqr, pk_un hqr]
            refine ⟨g1, g2, ?_⟩
            rcases g3 with g | ⟨g3, g4, g5, g6⟩
            · exact Or.inl g
            · refine Or.inr ⟨g3, g4, g5, fun i k hk hi hk40 => ?_⟩
              rw [itr_at (g := fun _ => 0), itr_at (g := fun _ => 0), if_neg (by omega), if_neg (by omega)]
              exact g6 i k hk hi hk40
        · rw [if_pos h4, if_pos h4]; exact ⟨rfl, rfl, hR⟩
      · rw [if_pos h3, if_pos h3]; exact ⟨rfl, rfl, hR⟩
    · rw [if_pos h2, if_pos h2]; exact ⟨rfl, rfl, hR⟩
  · rw [if_pos (mt (row8 row).mp h1), if_pos h1]; exact ⟨rfl, rfl, hR⟩
theorem sx8 (v : Int32) : (v <<< ((24 : Int32) &&& 31)) >>> ((24 : Int32) &&& 31) = v.toInt8.toInt32 := by
  apply b_ext; intro i hi
  have h1 : bq ((v <<< ((24 : Int32) &&& 31)) >>> ((24 : Int32) &&& 31)) i = if 24 + i < 32 then bq (v <<< ((24 : Int32) &&& 31)) (24 + i) else bq (v <<< ((24 : Int32) &&& 31)) 31 := b_sshr 24 (by omega) _ hi
  have h2 : ∀ j, j < 32 → bq (v <<< ((24 : Int32) &&& 31)) j = (decide (24 ≤ j) && bq v (j - 24)) := fun j hj => b_shl 24 (by omega) v hj
  have h3 : bq v.toInt8.toInt32 i = if i < 8 then bq v i else bq v 7 := by
    show (BitVec.signExtend 32 (BitVec.signExtend 8 v.toBitVec)).getLsbD i = _
    rw [BitVec.getLsbD_signExtend, decide_eq_true hi, Bool.true_and]
    by_cases h : i < 8
    · rw [if_pos h, if_pos h, BitVec.getLsbD_signExtend, decide_eq_true h, Bool.true_and, if_pos hi]; rfl
    · rw [if_neg h, if_neg h, BitVec.msb_eq_getLsbD_last, BitVec.getLsbD_signExtend, if_pos (show 8 - 1 < 32 by omega)]; rfl
  rw [h1, h3]
  by_cases h : i < 8
  · rw [if_pos (by omega), if_pos h, h2 _ (by omega), decide_eq_true (by omega), Bool.true_and, show 24 + i - 24 = i by omega]
  · rw [if_neg (by omega), if_neg h, h2 31 (by omega)]; rfl
theorem sx16 (v : Int32) : (v <<< ((16 : Int32) &&& 31)) >>> ((16 : Int32) &&& 31) = v.toInt16.toInt32 := by
  apply b_ext; intro i hi
  have h1 : bq ((v <<< ((16 : Int32) &&& 31)) >>> ((16 : Int32) &&& 31)) i = if 16 + i < 32 then bq (v <<< ((16 : Int32) &&& 31)) (16 + i) else bq (v <<< ((16 : Int32) &&& 31)) 31 := b_sshr 16 (by omega) _ hi
  have h2 : ∀ j, j < 32 → bq (v <<< ((16 : Int32) &&& 31)) j = (decide (16 ≤ j) && bq v (j - 16)) := fun j hj => b_shl 16 (by omega) v hj
  have h3 : bq v.toInt16.toInt32 i = if i < 16 then bq v i else bq v 15 := by
    show (BitVec.signExtend 32 (BitVec.signExtend 16 v.toBitVec)).getLsbD i = _
    rw [BitVec.getLsbD_signExtend, decide_eq_true hi, Bool.true_and]
    by_cases h : i < 16
    · rw [if_pos h, if_pos h, BitVec.getLsbD_signExtend, decide_eq_true h, Bool.true_and, if_pos hi]; rfl
    · rw [if_neg h, if_neg h, BitVec.msb_eq_getLsbD_last, BitVec.getLsbD_signExtend, if_pos (show 16 - 1 < 32 by omega)]; rfl
  rw [h1, h3]
  by_cases h : i < 16
  · rw [if_pos (by omega), if_pos h, h2 _ (by omega), decide_eq_true (by omega), Bool.true_and, show 16 + i - 16 = i by omega]
  · rw [if_neg (by omega), if_neg h, h2 31 (by omega)]; rfl
theorem cut_kept (lane v : Int32) : cutf lane v = keptf lane v := by
  unfold cutf keptf
  rw [sx8, sx16]
theorem pl_of {a b k : Nat} (hk : k ≤ 40) (h : a + b ≤ k) : (¬ nI a < 0 ∧ ¬ nI b < 0 ∧ ¬ nI k < nI b ∧ ¬ nI k - nI b < nI a) ∧ (¬ nI a < 0 ∧ ¬ nI b < 0 ∧ ¬ nI k < nI a ∧ ¬ nI k - nI a < nI b) := by
  have e1 := i_subT (n := k) (by omega) b (by omega)
  have e2 := i_subT (n := k) (by omega) a (by omega)
  refine ⟨⟨nI_pos (by omega), nI_pos (by omega), ?_, ?_⟩, nI_pos (by omega), nI_pos (by omega), ?_, ?_⟩
  · rw [i_lt, nI_toInt (by omega), nI_toInt (by omega)]; omega
  · rw [i_lt, e1, nI_toInt (by omega)]; omega
  · rw [i_lt, nI_toInt (by omega), nI_toInt (by omega)]; omega
  · rw [i_lt, e2, nI_toInt (by omega)]; omega
theorem pl_pt {k : Nat} (hk : k ≤ 40) (i x : Int32) : (¬ i < 0 ∧ ¬ x < 0 ∧ ¬ nI k < x ∧ ¬ nI k - x < i) ↔ (¬ i < 0 ∧ ¬ x < 0 ∧ ¬ nI k < i ∧ ¬ nI k - i < x) := by
  constructor
  · intro h
    obtain ⟨a, b, hab, rfl, rfl⟩ := i_place hk h
    exact (pl_of hk hab).2
  · intro h
    obtain ⟨a, b, hab, rfl, rfl⟩ := i_part hk h
    exact (pl_of hk hab).1
theorem pl_1 {k : Nat} (hk : k ≤ 40) (i : Int32) : (¬ i < 0 ∧ ¬ (1 : Int32) < 0 ∧ ¬ nI k < 1 ∧ ¬ nI k - 1 < i) ↔ (¬ i < 0 ∧ ¬ nI k - 1 < i) := by
  constructor
  · exact fun h => ⟨h.1, h.2.2.2⟩
  · intro h
    refine ⟨h.1, by decide, ?_, h.2⟩
    have h0 := h.1
    have h1 := h.2
    have e : (nI k - 1).toInt = (k : Int) - 1 := i_subT (by omega) 1 (by omega)
    rw [i_lt] at h0
    rw [i_lt, e] at h1
    rw [i_lt, nI_toInt (by omega)]
    have z0 : (0 : Int32).toInt = 0 := rfl
    have z1 : (1 : Int32).toInt = 1 := rfl
    omega
theorem e_set {fi : Int32} {la sz it mla mma mit : Nat → Int32} (hR : RRw la sz it mla mma mit) (row i v : Int32) : (x_set fi la sz it row i v).1 = (m_set fi mla mma mit row i v).1 ∧ (x_set fi la sz it row i v).2.1 = (m_set fi mla mma mit row i v).2.1 ∧ RRw la sz (x_set fi la sz it row i v).2.2 mla mma (m_set fi mla mma mit row i v).2.2 := by
  unfold x_set m_set
  by_cases h1 : ¬ row < 0 ∧ ¬ 7 < row
  · rw [if_neg (not_not_intro ((row8 row).mpr h1)), if_neg (not_not_intro h1)]
    obtain ⟨r, hr, rfl, e⟩ := row_tn h1
    rw [e]
    obtain ⟨⟨k, hk, hsz⟩, ⟨k', hk', hma⟩, h3⟩ := hR r hr
    rcases h3 with ⟨g1, g2⟩ | ⟨g1, g2, g3, g4⟩
    · have hl : lkF la sz r i 1 = 1 := by unfold lkF; rw [if_pos g1]
      rw [hl, if_pos (show ¬ (1 : Int32) = 0 by decide), if_pos g2]
      exact ⟨rfl, rfl, hR⟩
    · have hkk : mma r = nI k := g3.symm.trans hsz
      rw [if_neg (show ¬ mla r = -1000000 from fun z => (ln_ne g2).2 (g1.trans z)), hkk]
      by_cases h4 : ¬ i < 0 ∧ ¬ nI k - 1 < i
      · have hl : lkF la sz r i 1 = 0 := by unfold lkF; rw [if_neg (ln_ne g2).1, hsz, if_pos ((pl_1 hk i).mpr h4)]
        rw [hl, if_neg (not_not_intro (rfl : (0 : Int32) = 0)), if_neg (not_not_intro h4), cut_kept, ← g1]
        refine ⟨rfl, rfl, ?_⟩
        obtain ⟨iv, hiv, rfl⟩ := i_below hk h4.1 h4.2
        show RRw la sz (upd it (r * 40 + tn (nI iv)) (keptf (la r) v)) mla mma (upd mit (40 * r + tn (nI iv)) (keptf (la r) v))
        rw [tn_nI hiv]
        intro q hq
        obtain ⟨f1, f2, f3⟩ := hR q hq
        refine ⟨f1, f2, ?_⟩
        rcases f3 with f | ⟨f3, f4, f5, f6⟩
        · exact Or.inl f
        · refine Or.inr ⟨f3, f4, f5, fun j k2 hk2 hj hk240 => ?_⟩
          by_cases hj2 : q * 40 + j = r * 40 + iv
          · rw [hj2, show 40 * q + j = 40 * r + iv by omega, pk_us, pk_us]
          · rw [pk_un hj2, pk_un (by omega)]; exact f6 j k2 hk2 hj hk240
      · have hl : lkF la sz r i 1 = 2 := by unfold lkF; rw [if_neg (ln_ne g2).1, hsz, if_neg (mt (pl_1 hk i).mp h4)]
        rw [hl, if_pos (show ¬ (2 : Int32) = 0 by decide), if_pos h4]
        exact ⟨rfl, rfl, hR⟩
  · rw [if_pos (mt (row8 row).mp h1), if_pos h1]; exact ⟨rfl, rfl, hR⟩
theorem e_copy {fi : Int32} {la sz it mla mma mit msr : Nat → Int32} (hR : RRw la sz it mla mma mit) (a i b j x : Int32) : (x_copy fi la sz it a i b j x).1 = (m_copy fi mla mma mit msr a i b j x).1 ∧ (x_copy fi la sz it a i b j x).2.1 = (m_copy fi mla mma mit msr a i b j x).2.1 ∧ RRw la sz (x_copy fi la sz it a i b j x).2.2 mla mma (m_copy fi mla mma mit msr a i b j x).2.2.1 := by
  unfold x_copy m_copy
  by_cases h1 : ¬ a < 0 ∧ ¬ 7 < a
  · rw [if_neg (not_not_intro ((row8 a).mpr h1)), if_neg (not_not_intro h1)]
    by_cases h2 : ¬ b < 0 ∧ ¬ 7 < b
    · rw [if_neg (not_not_intro ((row8 b).mpr h2)), if_neg (not_not_intro h2)]
      obtain ⟨ra, hra, rfl, ea⟩ := row_tn h1
      obtain ⟨rb, hrb, rfl, eb⟩ := row_tn h2
      rw [ea, eb]
      obtain ⟨⟨ka, hka, hsa⟩, -, ha3⟩ := hR ra hra
      obtain ⟨⟨kb, hkb, hsb⟩, -, hb3⟩ := hR rb hrb
      rcases ha3 with ⟨g1, g2⟩ | ⟨ga1, ga2, ga3, ga4⟩
      · rw [if_pos g1, if_pos g2]; exact ⟨rfl, rfl, hR⟩
      · rw [if_neg (ln_ne ga2).1, if_neg (show ¬ mla ra = -1000000 from fun z => (ln_ne ga2).2 (ga1.trans z))]
        rcases hb3 with ⟨g1, g2⟩ | ⟨gb1, gb2, gb3, gb4⟩
        · rw [if_pos g1, if_pos g2]; exact ⟨rfl, rfl, hR⟩
        · rw [if_neg (ln_ne gb2).1, if_neg (show ¬ mla rb = -1000000 from fun z => (ln_ne gb2).2 (gb1.trans z)), ← ga1, ← gb1, ← ga3, ← gb3, hsa, hsb]
          by_cases h5 : la ra = la rb
          · rw [if_neg (not_not_intro h5), if_neg (not_not_intro h5)]
            by_cases h6 : ¬ i < 0 ∧ ¬ x < 0 ∧ ¬ nI ka < i ∧ ¬ nI ka - i < x
            · rw [if_neg (not_not_intro ((pl_pt hka i x).mpr h6)), if_neg (not_not_intro h6)]
              by_cases h7 : ¬ j < 0 ∧ ¬ x < 0 ∧ ¬ nI kb < j ∧ ¬ nI kb - j < x
              · rw [if_neg (not_not_intro ((pl_pt hkb j x).mpr h7)), if_neg (not_not_intro h7)]
                refine ⟨rfl, rfl, ?_⟩
                obtain ⟨iv, nv, hin, rfl, rfl⟩ := i_part hka h6
                obtain ⟨jv, nv2, hjn, rfl, hn2⟩ := i_part hkb h7
                have hn2 : nv = nv2 := (nI_eq (by omega) (by omega)).mp hn2
                subst hn2
                show RRw la sz (va_cpy it it (ra * 40 + tn (nI iv)) (rb * 40 + tn (nI jv)) (tn (nI nv))) mla mma (itr (fun k f => upd f (40 * rb + tn (nI jv) + k) (itr (fun k f => upd f k (mit (40 * ra + tn (nI iv) + k))) (tn (nI nv)) msr k)) (tn (nI nv)) mit)
                rw [tn_nI (show iv ≤ 40 by omega), tn_nI (show jv ≤ 40 by omega), tn_nI (show nv ≤ 40 by omega)]
                have hsr : ∀ k, k < nv → itr (fun k f => upd f k (mit (40 * ra + iv + k))) nv msr k = mit (40 * ra + iv + k) := by
                  intro k hk
                  have := itr_at (b := 0) (g := fun k => mit (40 * ra + iv + k)) (f := msr) nv k
                  simp only [Nat.zero_add, Nat.zero_le, true_and, Nat.sub_zero] at this
                  rw [this, if_pos hk]
                generalize itr (fun k f => upd f k (mit (40 * ra + iv + k))) nv msr = sr2 at hsr
                intro q hq
                obtain ⟨f1, f2, f3⟩ := hR q hq
                refine ⟨f1, f2, ?_⟩
                rcases f3 with f | ⟨f3, f4, f5, f6⟩
                · exact Or.inl f
                · refine Or.inr ⟨f3, f4, f5, fun t k2 hk2 ht hk240 => ?_⟩
                  rw [itr_at (b := 40 * rb + jv) (g := sr2)]
                  by_cases hin2 : rb * 40 + jv ≤ q * 40 + t ∧ q * 40 + t < rb * 40 + jv + nv
                  · have hqr : q = rb := by omega
                    subst hqr
                    rw [pk_cpy_in hin2.1 hin2.2, if_pos (by omega), hsr _ (by omega)]
                    have := ga4 (iv + (t - jv)) ka hsa (by omega) hka
                    rw [show ra * 40 + iv + (q * 40 + t - (q * 40 + jv)) = ra * 40 + (iv + (t - jv)) by omega, this]
                    congr 1; omega
                  · rw [if_neg (by omega)]
                    have : va_cpy it it (ra * 40 + iv) (rb * 40 + jv) nv (q * 40 + t) = it (q * 40 + t) := by unfold va_cpy; rw [if_neg hin2]
                    rw [this]; exact f6 t k2 hk2 ht hk240
              · rw [if_pos (mt (pl_pt hkb j x).mp h7), if_pos h7]; exact ⟨rfl, rfl, hR⟩
            · rw [if_pos (mt (pl_pt hka i x).mp h6), if_pos h6]; exact ⟨rfl, rfl, hR⟩
          · rw [if_pos h5, if_pos h5]; exact ⟨rfl, rfl, hR⟩
    · rw [if_pos (mt (row8 b).mp h2), if_pos h2]; exact ⟨rfl, rfl, hR⟩
  · rw [if_pos (mt (row8 a).mp h1), if_pos h1]; exact ⟨rfl, rfl, hR⟩
theorem e_drop {fi : Int32} {la sz it mla mma mit : Nat → Int32} (hR : RRw la sz it mla mma mit) (row : Int32) : (x_drop fi la sz row).1 = (m_drop fi mla mma row).1 ∧ (x_drop fi la sz row).2.1 = (m_drop fi mla mma row).2.1 ∧ RRw (x_drop fi la sz row).2.2.1 (x_drop fi la sz row).2.2.2 it (m_drop fi mla mma row).2.2 mma mit := by
  unfold x_drop m_drop
  by_cases h1 : ¬ row < 0 ∧ ¬ 7 < row
  · rw [if_neg (not_not_intro ((row8 row).mpr h1)), if_neg (not_not_intro h1)]
    obtain ⟨r, hr, rfl, e⟩ := row_tn h1
    rw [e]
    obtain ⟨g1, g2, g3⟩ := hR r hr
    rcases g3 with ⟨f1, f2⟩ | ⟨f1, f2, f3, f4⟩
    · rw [if_pos f1, if_pos f2]; exact ⟨rfl, rfl, hR⟩
    · rw [if_neg (ln_ne f2).1, if_neg (show ¬ mla r = -1000000 from fun z => (ln_ne f2).2 (f1.trans z))]
      refine ⟨f3, rfl, ?_⟩
      show RRw (upd la r (-1)) (upd sz r 0) it (upd mla r (-1000000)) mma mit
      intro q hq
      by_cases hqr : q = r
      · subst hqr
        rw [pk_us, pk_us, pk_us]
        exact ⟨⟨0, by omega, rfl⟩, g2, Or.inl ⟨rfl, rfl⟩⟩
      · rw [pk_un hqr, pk_un hqr, pk_un hqr]
        exact hR q hq
  · rw [if_pos (mt (row8 row).mp h1), if_pos h1]; exact ⟨rfl, rfl, hR⟩
theorem e_present {la sz it mla mma mit : Nat → Int32} (hR : RRw la sz it mla mma mit) : prF la 8 = rwF mla 8 := by
  have h : ∀ k, k ≤ 8 → prF la k = rwF mla k := by
    intro k
    induction k with
    | zero => intro _; rfl
    | succ k ih =>
      intro hk
      show (if la k = -1 then prF la k else prF la k + 1) = rwF mla k + (if mla k = -1000000 then 0 else 1)
      rw [ih (by omega)]
      have hm := mis_iff hR (show k ≤ 7 by omega)
      by_cases h : la k = -1
      · rw [if_pos h, if_pos (hm.mp h)]; exact (Int32.add_zero _).symm
      · rw [if_neg h, if_neg (mt hm.mpr h)]
  exact h 8 (Nat.le_refl 8)
/-! the tape -/
def RTp (tl : Int32) (b1 : Nat → Int32) (tp : Int32) (b2 : Nat → Int32) : Prop := ∃ t : Nat, t ≤ 120 ∧ tl = nI t ∧ tp = nI t ∧ ∀ k, k < t → b1 k = b2 k ∧ ∃ b : Nat, b ≤ 255 ∧ b1 k = nI b
theorem e_feed {t : Nat} {b1 b2 : Nat → Int32} (ht : t ≤ 120) (hB : ∀ k, k < t → b1 k = b2 k ∧ ∃ b : Nat, b ≤ 255 ∧ b1 k = nI b) (x : Int32) : (x_feed t b1 x).1 = (m_feed t b2 x).1 ∧ RTp (nI (x_feed t b1 x).2.1) (x_feed t b1 x).2.2 (nI (m_feed t b2 x).2.1) (m_feed t b2 x).2.2 := by
  have h0 : RTp (nI t) b1 (nI t) b2 := ⟨t, ht, rfl, rfl, hB⟩
  unfold x_feed m_feed
  by_cases h1 : x < 0
  · rw [if_pos h1, if_pos (show ¬ (¬ x < 0 ∧ ¬ 255 < x) from fun z => z.1 h1)]; exact ⟨rfl, h0⟩
  · rw [if_neg h1]
    by_cases h2 : x ≤ 255
    · have h3 : ¬ 255 < x := by rw [i_le] at h2; rw [i_lt]; omega
      rw [if_neg (not_not_intro h2), if_neg (not_not_intro (And.intro h1 h3))]
      by_cases h4 : t = 120
      · rw [if_pos (by omega), if_pos h4]; exact ⟨rfl, h0⟩
      · rw [if_neg (by omega), if_neg h4]
        refine ⟨rfl, t + 1, by omega, rfl, rfl, fun k hk => ?_⟩
        show upd b1 t x k = upd b2 t x k ∧ ∃ b : Nat, b ≤ 255 ∧ upd b1 t x k = nI b
        by_cases hkt : k = t
        · subst hkt
          rw [pk_us, pk_us]
          obtain ⟨j, hj, e⟩ := nI_of2 (n := 255) rfl h1 h2
          exact ⟨rfl, j, hj, e⟩
        · rw [pk_un hkt, pk_un hkt]; exact hB k (by omega)
    · have h3 : 255 < x := by rw [i_le] at h2; rw [i_lt]; omega
      rw [if_pos h2, if_pos (show ¬ (¬ x < 0 ∧ ¬ 255 < x) from fun z => z.2 h3)]; exact ⟨rfl, h0⟩
/-! the trace -/
def RTr (zl : Int32) (z1 : Nat → Int32) (tr : Int32) (z2 : Nat → Int32) : Prop := ∃ z : Nat, z ≤ 16 ∧ zl = nI z ∧ tr = nI z ∧ ∀ k, k < z → z1 k = z2 k
theorem e_trace {z : Nat} {z1 z2 : Nat → Int32} (hz : z ≤ 16) (h : ∀ k, k < z → z1 k = z2 k) (i : Int32) : t_num z z1 i = m_trace z z2 i := by
  unfold t_num m_trace
  by_cases h1 : i < 0
  · rw [if_pos h1, if_pos (show ¬ (¬ i < 0 ∧ ¬ nI z - 1 < i) from fun q => q.1 h1)]
  · rw [if_neg h1]
    by_cases h2 : nI z ≤ i
    · have h3 : nI z - 1 < i := by
        have e : (nI z - 1).toInt = (z : Int) - 1 := i_subT (by omega) 1 (by omega)
        rw [i_le, nI_toInt (by omega)] at h2
        rw [i_lt, e]; omega
      rw [if_pos h2, if_pos (show ¬ (¬ i < 0 ∧ ¬ nI z - 1 < i) from fun q => q.2 h3)]
    · have h3 : ¬ nI z - 1 < i := by
        have e : (nI z - 1).toInt = (z : Int) - 1 := i_subT (by omega) 1 (by omega)
        rw [i_le, nI_toInt (by omega)] at h2
        rw [i_lt, e]; omega
      rw [if_neg h2, if_neg (not_not_intro (And.intro h1 h3))]
      obtain ⟨j, hj, rfl⟩ := nI_of h1
      rw [i_le, nI_toInt (by omega), nI_toInt hj] at h2
      have : tn (nI j) = j := nI_clamp hj
      rw [this]; exact h j (by omega)
