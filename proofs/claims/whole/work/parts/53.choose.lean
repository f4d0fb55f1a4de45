/-! PURE: choices -/
theorem bc6 {x : Int32} (h : is63 x) : ¬ 7 ≤ bc32 x := all63 (P := fun x => ¬ 7 ≤ bc32 x) (by decide +kernel) h
theorem bcN {x : Int32} (h : is63 x) : ∃ c : Nat, c ≤ 6 ∧ bc32 x = nI c := by
  have h0 : ¬ bc32 x < 0 := all63 (P := fun x => ¬ bc32 x < 0) (by decide +kernel) h
  have h6 : bc32 x ≤ 6 := all63 (P := fun x => bc32 x ≤ 6) (by decide +kernel) h
  exact nI_of2 (n := 6) rfl h0 h6
section PC
variable {st dy ln : Int32} {n : Nat} {kd dd nt lf f : Nat → Int32}
theorem tw_D (h : TR st dy ln n kd dd nt lf f) {r : Nat} (hr : r < n) {k : Nat} (hk : k ≤ 63) : twD f r k = wrD (kd r) dy (dd r) (qE lf r) k := by
  obtain ⟨g1, g2, g3, g4, g5, g6, g7, g8⟩ := h.rd hr
  unfold twD
  rw [← g1, ← g3]
  exact go_any h hr g2 ⟨k, hk, rfl⟩ 60
theorem tw_eq (h : TR st dy ln n kd dd nt lf f) {r : Nat} (hr : r < n) (deeds : Int32) : ∀ k, k ≤ 64 → (wrF (kd r) dy (dd r) deeds (qE lf r) k).1 = (twB f r deeds k).1 ∧ (((twB f r deeds k).1 = -1000000 ∧ (wrF (kd r) dy (dd r) deeds (qE lf r) k).2 = 7 ∧ (twB f r deeds k).2 = -1000000) ∨ ∃ j, j ≤ 63 ∧ (twB f r deeds k).1 = nI j ∧ (wrF (kd r) dy (dd r) deeds (qE lf r) k).2 = bc32 (wrD (kd r) dy (dd r) (qE lf r) j ^^^ nI j) ∧ (twB f r deeds k).2 = bc32 (wrD (kd r) dy (dd r) (qE lf r) j ^^^ nI j)) := by
  obtain ⟨g1, g2, g3, g4, g5, g6, g7, g8⟩ := h.rd hr
  intro k
  induction k with
  | zero => intro _; exact ⟨rfl, Or.inl ⟨rfl, rfl, rfl⟩⟩
  | succ k ih =>
    intro hk
    obtain ⟨i1, i2⟩ := ih (by omega)
    have e1 : wrF (kd r) dy (dd r) deeds (qE lf r) (k + 1) = if deeds &&& (wrD (kd r) dy (dd r) (qE lf r) k ^^^ (-1)) = 0 ∧ ¬ (wrF (kd r) dy (dd r) deeds (qE lf r) k).2 ≤ bc32 (wrD (kd r) dy (dd r) (qE lf r) k ^^^ nI k) then (nI k, bc32 (wrD (kd r) dy (dd r) (qE lf r) k ^^^ nI k)) else wrF (kd r) dy (dd r) deeds (qE lf r) k := rfl
    rw [twB_1, twB_2, e1]
    unfold twP
    rw [tw_D h hr (show k ≤ 63 by omega)]
    have h63 : is63 (wrD (kd r) dy (dd r) (qE lf r) k ^^^ nI k) := c_xor (c_dnB g4 ⟨k, by omega, rfl⟩ _) ⟨k, by omega, rfl⟩
    rw [ones_bc h63]
    generalize wrF (kd r) dy (dd r) deeds (qE lf r) k = C at i1 i2 ⊢
    generalize twB f r deeds k = M at i1 i2 ⊢
    have hc : (deeds &&& (wrD (kd r) dy (dd r) (qE lf r) k ^^^ (-1)) = 0 ∧ ¬ C.2 ≤ bc32 (wrD (kd r) dy (dd r) (qE lf r) k ^^^ nI k)) ↔ (deeds &&& (wrD (kd r) dy (dd r) (qE lf r) k ^^^ (-1)) = 0 ∧ (M.1 = -1000000 ∨ ¬ M.2 ≤ bc32 (wrD (kd r) dy (dd r) (qE lf r) k ^^^ nI k))) := by
      refine and_congr_right (fun _ => ?_)
      rcases i2 with ⟨a1, a2, a3⟩ | ⟨j, hj, a1, a2, a3⟩
      · rw [a2]; exact ⟨fun _ => Or.inl a1, fun _ => bc6 h63⟩
      · rw [a2, a3, a1]; exact ⟨fun z => Or.inr z, fun z => z.resolve_left (nN (by omega))⟩
    by_cases hq : deeds &&& (wrD (kd r) dy (dd r) (qE lf r) k ^^^ (-1)) = 0 ∧ ¬ C.2 ≤ bc32 (wrD (kd r) dy (dd r) (qE lf r) k ^^^ nI k)
    · rw [if_pos hq, if_pos (hc.mp hq), if_pos (hc.mp hq)]
      exact ⟨rfl, Or.inr ⟨k, by omega, rfl, rfl, rfl⟩⟩
    · rw [if_neg hq, if_neg (mt hc.mpr hq), if_neg (mt hc.mpr hq)]
      exact ⟨i1, i2⟩
theorem e_toWrite (h : TR st dy ln n kd dd nt lf f) (reader deeds what : Int32) : x_toWrite dy n kd dd nt lf reader deeds what = m_toWrite f reader deeds what := by
  unfold x_toWrite m_toWrite
  by_cases h1 : hasN n reader
  · rw [if_neg (not_not_intro h1), if_neg (not_not_intro ((hasR h reader).mp h1))]
    by_cases h2 : ¬ deeds < 0 ∧ ¬ 63 < deeds
    · rw [if_neg (not_not_intro h2), if_neg (not_not_intro h2)]
      by_cases h3 : isC what
      · rw [if_neg (not_not_intro h3), if_neg (not_not_intro ((cho_C what).mp h3))]
        obtain ⟨r, hr, rfl, e⟩ := rdx h.n6 h1
        obtain ⟨g1, g2, g3, g4, g5, g6, g7, g8⟩ := h.rd hr
        rw [e]
        unfold lvs
        rw [← g7]
        by_cases h4 : ¬ lf r ≤ 0
        · rw [if_neg (not_not_intro h4), if_neg (not_not_intro h4)]
          have hE : wrE (kd r) dy (dd r) deeds (qE lf r) = (wrF (kd r) dy (dd r) deeds (qE lf r) 64).1 := by unfold wrE; exact Eq.refl _
          have hT : twE f r deeds = twB f r deeds 64 := by unfold twE; exact Eq.refl _
          obtain ⟨i1, i2⟩ := tw_eq h hr deeds 64 (Nat.le_refl 64)
          rw [hE, i1, hT]
          generalize wrF (kd r) dy (dd r) deeds (qE lf r) 64 = C at i1 i2 ⊢
          generalize twB f r deeds 64 = M at i1 i2 ⊢
          rcases i2 with ⟨a1, a2, a3⟩ | ⟨j, hj, a1, a2, a3⟩
          · rw [if_pos a1, a1, a3]; split <;> rfl
          · rw [a1, if_neg (nN (by omega)), a3]
            rcases h3 with rfl | rfl
            · rw [if_neg (by decide), if_pos rfl]
            · rw [if_pos rfl, if_neg (by decide)]
        · rw [if_pos h4, if_pos h4]
      · rw [if_pos h3, if_pos (mt (cho_C what).mpr h3)]
    · rw [if_pos h2, if_pos h2]
  · rw [if_pos h1, if_pos (mt (hasR h reader).mpr h1)]
theorem td_D (h : TR st dy ln n kd dd nt lf f) {r : Nat} (hr : r < n) (k : Nat) : tdD f r k = dnB (kd r) dy (dd r &&& (nI k ^^^ (-1))) (nt r) (qE lf r) := by
  obtain ⟨g1, g2, g3, g4, g5, g6, g7, g8⟩ := h.rd hr
  unfold tdD
  rw [← g1, ← g3, ← g5]
  exact go_any h hr g2 g6 60
theorem td_eq (h : TR st dy ln n kd dd nt lf f) {r : Nat} (hr : r < n) : ∀ k, k ≤ 64 → (dyF (kd r) dy (dd r) (nt r) (qE lf r) k).1 = tdB f r k ∧ ((tdB f r k = -1000000 ∧ (dyF (kd r) dy (dd r) (nt r) (qE lf r) k).2 = 7) ∨ ∃ j, j ≤ 63 ∧ tdB f r k = nI j ∧ (dyF (kd r) dy (dd r) (nt r) (qE lf r) k).2 = bc32 (nI j)) := by
  obtain ⟨g1, g2, g3, g4, g5, g6, g7, g8⟩ := h.rd hr
  intro k
  induction k with
  | zero => intro _; exact ⟨rfl, Or.inl ⟨rfl, rfl⟩⟩
  | succ k ih =>
    intro hk
    obtain ⟨i1, i2⟩ := ih (by omega)
    have e1 : dyF (kd r) dy (dd r) (nt r) (qE lf r) (k + 1) = if nI k &&& (dd r ^^^ (-1)) = 0 ∧ ¬ (dyF (kd r) dy (dd r) (nt r) (qE lf r) k).2 ≤ bc32 (nI k) ∧ dnB (kd r) dy (dd r &&& (nI k ^^^ (-1))) (nt r) (qE lf r) = nt r then (nI k, bc32 (nI k)) else dyF (kd r) dy (dd r) (nt r) (qE lf r) k := rfl
    have e2 : tdB f r (k + 1) = if tdP f r k ∧ (tdB f r k = -1000000 ∨ ¬ ones8 (tdB f r k) ≤ ones8 (nI k)) then nI k else tdB f r k := rfl
    rw [e1, e2]
    unfold tdP
    rw [td_D h hr k, ← g3, ← g5, ones_bc (x := nI k) ⟨k, by omega, rfl⟩]
    generalize dyF (kd r) dy (dd r) (nt r) (qE lf r) k = C at i1 i2 ⊢
    generalize tdB f r k = M at i1 i2 ⊢
    have hc : (nI k &&& (dd r ^^^ (-1)) = 0 ∧ ¬ C.2 ≤ bc32 (nI k) ∧ dnB (kd r) dy (dd r &&& (nI k ^^^ (-1))) (nt r) (qE lf r) = nt r) ↔ ((nI k &&& (dd r ^^^ (-1)) = 0 ∧ dnB (kd r) dy (dd r &&& (nI k ^^^ (-1))) (nt r) (qE lf r) = nt r) ∧ (M = -1000000 ∨ ¬ ones8 M ≤ bc32 (nI k))) := by
      rcases i2 with ⟨a1, a2⟩ | ⟨j, hj, a1, a2⟩
      · rw [a2]; exact ⟨fun z => ⟨⟨z.1, z.2.2⟩, Or.inl a1⟩, fun z => ⟨z.1.1, bc6 ⟨k, by omega, rfl⟩, z.1.2⟩⟩
      · rw [a2, a1, ones_bc (x := nI j) ⟨j, hj, rfl⟩]; exact ⟨fun z => ⟨⟨z.1, z.2.2⟩, Or.inr z.2.1⟩, fun z => ⟨z.1.1, z.2.resolve_left (nN (by omega)), z.1.2⟩⟩
    by_cases hq : nI k &&& (dd r ^^^ (-1)) = 0 ∧ ¬ C.2 ≤ bc32 (nI k) ∧ dnB (kd r) dy (dd r &&& (nI k ^^^ (-1))) (nt r) (qE lf r) = nt r
    · rw [if_pos hq, if_pos (hc.mp hq)]
      exact ⟨rfl, Or.inr ⟨k, by omega, rfl, rfl⟩⟩
    · rw [if_neg hq, if_neg (mt hc.mpr hq)]
      exact ⟨i1, i2⟩
theorem e_toDeny (h : TR st dy ln n kd dd nt lf f) (reader what : Int32) : x_toDeny dy n kd dd nt lf reader what = m_toDeny f reader what := by
  unfold x_toDeny m_toDeny
  by_cases h1 : hasN n reader
  · rw [if_neg (not_not_intro h1), if_neg (not_not_intro ((hasR h reader).mp h1))]
    by_cases h3 : isC what
    · rw [if_neg (not_not_intro h3), if_neg (not_not_intro ((cho_C what).mp h3))]
      obtain ⟨r, hr, rfl, e⟩ := rdx h.n6 h1
      rw [e]
      have hE : dyE (kd r) dy (dd r) (nt r) (qE lf r) = (dyF (kd r) dy (dd r) (nt r) (qE lf r) 64).1 := by unfold dyE; exact Eq.refl _
      obtain ⟨i1, i2⟩ := td_eq h hr 64 (Nat.le_refl 64)
      rw [hE, i1]
      generalize tdB f r 64 = M at i1 i2 ⊢
      rcases i2 with ⟨a1, a2⟩ | ⟨j, hj, a1, a2⟩
      · rw [if_pos a1, if_pos a1]
      · rw [a1, if_neg (nN (by omega)), if_neg (nN (by omega)), ones_bc (x := nI j) ⟨j, hj, rfl⟩]
    · rw [if_pos h3, if_pos (mt (cho_C what).mpr h3)]
  · rw [if_pos h1, if_pos (mt (hasR h reader).mpr h1)]
theorem and1 (x : Int32) : x &&& 1 = 0 ∨ x &&& 1 = 1 := by
  cases h : bq x 0
  · left
    apply b_ext; intro i hi
    rw [b_and, b_0]
    by_cases hi0 : i = 0
    · subst hi0; rw [h]; rfl
    · rw [(by decide +kernel : ∀ i, i < 32 → i ≠ 0 → bq 1 i = false) i hi hi0, Bool.and_false]
  · right
    apply b_ext; intro i hi
    rw [b_and]
    by_cases hi0 : i = 0
    · subst hi0; rw [h]; rfl
    · rw [(by decide +kernel : ∀ i, i < 32 → i ≠ 0 → bq 1 i = false) i hi hi0, Bool.and_false]
theorem has0 (x : Int32) (r : Nat) : ((x >>> (nI r &&& 31)) &&& 1) = 0 ↔ ¬ hasb x r := by
  unfold hasb
  rcases and1 (x >>> (nI r &&& 31)) with h | h
  · rw [h]; exact ⟨fun _ => by decide, fun _ => rfl⟩
  · rw [h]; exact ⟨fun z => absurd z (by decide), fun z => absurd rfl z⟩
theorem lp_eq (h : TR st dy ln n kd dd nt lf f) (s : Int32) : ∀ k, k ≤ n → lpF nt s k = plA f s k := by
  intro k
  induction k with
  | zero => intro _; rfl
  | succ k ih =>
    intro hk
    obtain ⟨g1, g2, g3, g4, g5, g6, g7, g8⟩ := h.rd (show k < n by omega)
    show (if ((s >>> (nI k &&& 31)) &&& 1) = 0 then lpF nt s k else lpF nt s k + bc32 (nt k)) = plA f s k + (if hasb s k then ones8 (f (4 + 4 * k + 2)) else 0)
    rw [ih (by omega), ← g5, ones_bc g6]
    by_cases hb : hasb s k
    · rw [if_neg (fun z => (has0 s k).mp z hb), if_pos hb]
    · rw [if_pos ((has0 s k).mpr hb), if_neg hb]; exact (Int32.add_zero _).symm
theorem dp_eq (h : TR st dy ln n kd dd nt lf f) (s : Int32) : ∀ k, k ≤ n → dpF dd nt s k = plB f s k ∧ ∃ v : Nat, v ≤ 6 * k ∧ dpF dd nt s k = nI v := by
  intro k
  induction k with
  | zero => intro _; exact ⟨rfl, 0, by omega, rfl⟩
  | succ k ih =>
    intro hk
    obtain ⟨g1, g2, g3, g4, g5, g6, g7, g8⟩ := h.rd (show k < n by omega)
    obtain ⟨i1, v, hv, i2⟩ := ih (by omega)
    have e1 : dpF dd nt s (k + 1) = (if ((s >>> (nI k &&& 31)) &&& 1) = 0 then dpF dd nt s k else dpF dd nt s k + bc32 (nt k &&& dd k)) := rfl
    have e2 : plB f s (k + 1) = plB f s k + (if hasb s k then ones8 (f (4 + 4 * k + 2) &&& f (4 + 4 * k + 1)) else 0) := rfl
    rw [e1, e2, ← i1, ← g5, ← g3, ones_bc (c_and g6)]
    by_cases hb : hasb s k
    · rw [if_neg (fun z => (has0 s k).mp z hb), if_pos hb]
      obtain ⟨c, hc, e⟩ := bcN (x := nt k &&& dd k) (c_and g6)
      exact ⟨rfl, v + c, by omega, by rw [i2, e, nI_add]⟩
    · rw [if_pos ((has0 s k).mpr hb), if_neg hb]
      exact ⟨(Int32.add_zero _).symm, v, by omega, i2⟩
theorem dp_0 (h : TR st dy ln n kd dd nt lf f) : ∀ k, k ≤ 6 → dpF dd nt 0 k = 0 := by
  intro k
  induction k with
  | zero => intro _; rfl
  | succ k ih =>
    intro hk
    show (if (((0 : Int32) >>> (nI k &&& 31)) &&& 1) = 0 then dpF dd nt 0 k else _) = 0
    rw [if_pos ((by decide +kernel : ∀ k, k < 6 → (((0 : Int32) >>> (nI k &&& 31)) &&& 1) = 0) k (by omega))]
    exact ih (by omega)
theorem pr_eq (h : TR st dy ln n kd dd nt lf f) : ∀ k, k ≤ 63 → rpF ln dd nt n k = (plL f n k).1 ∧ (plL f n k).2 = dpF dd nt (rpF ln dd nt n k) n ∧ ∃ m : Nat, m ≤ k ∧ rpF ln dd nt n k = nI m := by
  intro k
  induction k with
  | zero => intro _; exact ⟨rfl, (dp_0 h n h.n6).symm, 0, Nat.le_refl 0, rfl⟩
  | succ k ih =>
    intro hk
    obtain ⟨i1, i2, m, hm, i3⟩ := ih (by omega)
    have e1 : rpF ln dd nt n (k + 1) = if ¬ ln < lpF nt (nI (k + 1)) n ∧ btP dd nt n (nI (k + 1)) (rpF ln dd nt n k) then nI (k + 1) else rpF ln dd nt n k := rfl
    rw [plL_1, plL_2, e1]
    unfold plP btP
    obtain ⟨d1, va, hva, d2⟩ := dp_eq h (nI (k + 1)) n (Nat.le_refl n)
    obtain ⟨-, vb, hvb, d3⟩ := dp_eq h (rpF ln dd nt n k) n (Nat.le_refl n)
    have hn6 := h.n6
    rw [lp_eq h (nI (k + 1)) n (Nat.le_refl n), ← h.2.2.1, ← d1, i2, ← i1, d2, d3, ones_bc (x := nI (k + 1)) ⟨k + 1, by omega, rfl⟩, ones_bc (x := rpF ln dd nt n k) ⟨m, by omega, i3⟩]
    have hc : (0 < nI va - nI vb ∨ (nI va - nI vb = 0 ∧ ¬ bc32 (rpF ln dd nt n k) ≤ bc32 (nI (k + 1)))) ↔ (nI vb < nI va ∨ (nI va = nI vb ∧ ¬ bc32 (rpF ln dd nt n k) ≤ bc32 (nI (k + 1)))) := by
      have e := i_subT (n := va) (by omega) vb (by omega)
      have ea := nI_toInt (n := va) (by omega)
      have eb := nI_toInt (n := vb) (by omega)
      have z0 : (0 : Int32).toInt = 0 := rfl
      have p1 : 0 < nI va - nI vb ↔ nI vb < nI va := by rw [i_lt, i_lt, e, ea, eb, z0]; omega
      have p2 : nI va - nI vb = 0 ↔ nI va = nI vb := by rw [i_toInt, i_toInt (a := nI va), e, ea, eb, z0]; omega
      rw [p1, p2]
    have hc2 : (¬ ln < plA f (nI (k + 1)) n ∧ (0 < nI va - nI vb ∨ (nI va - nI vb = 0 ∧ ¬ bc32 (rpF ln dd nt n k) ≤ bc32 (nI (k + 1))))) ↔ (¬ ln < plA f (nI (k + 1)) n ∧ (nI vb < nI va ∨ (nI va = nI vb ∧ ¬ bc32 (rpF ln dd nt n k) ≤ bc32 (nI (k + 1))))) := and_congr_right (fun _ => hc)
    by_cases hq : ¬ ln < plA f (nI (k + 1)) n ∧ (0 < nI va - nI vb ∨ (nI va - nI vb = 0 ∧ ¬ bc32 (rpF ln dd nt n k) ≤ bc32 (nI (k + 1))))
    · rw [if_pos hq, if_pos (hc2.mp hq), if_pos (hc2.mp hq), d2]
      exact ⟨rfl, rfl, k + 1, Nat.le_refl _, rfl⟩
    · rw [if_neg hq, if_neg (mt hc2.mpr hq), if_neg (mt hc2.mpr hq)]
      exact ⟨rfl, d3.symm, m, by omega, i3⟩
theorem e_print (h : TR st dy ln n kd dd nt lf f) (what : Int32) : x_print st ln n dd nt what = m_print f n what := by
  have hn6 := h.n6
  have hp : 2 ^ n - 1 ≤ 63 := by
    have : 2 ^ n ≤ 2 ^ 6 := Nat.pow_le_pow_right (by omega) hn6
    omega
  obtain ⟨i1, i2, -⟩ := pr_eq h (2 ^ n - 1) hp
  have hE : rpE ln dd nt n = rpF ln dd nt n (2 ^ n - 1) := by unfold rpE; exact Eq.refl _
  unfold x_print m_print
  rw [hE, i2, ← i1]
  by_cases h1 : st = 0
  · rw [if_pos h1, if_pos (h.st0.mp h1)]
  · rw [if_neg h1, if_neg (mt h.st0.mpr h1)]
    by_cases h2 : isC what
    · rw [if_neg (not_not_intro h2), if_neg (not_not_intro ((cho_C what).mp h2))]
      rcases h2 with rfl | rfl
      · rw [if_neg (by decide), if_pos rfl]
      · rw [if_pos rfl, if_neg (by decide)]
    · rw [if_pos h2, if_pos (mt (cho_C what).mpr h2)]
theorem e_as (h : TR st dy ln n kd dd nt lf f) (fi reader x : Int32) : x_as fi n kd reader x = m_as fi f reader x := by
  unfold x_as m_as
  by_cases h1 : hasN n reader
  · rw [if_neg (not_not_intro h1), if_neg (not_not_intro ((hasR h reader).mp h1))]
    obtain ⟨r, hr, rfl, e⟩ := rdx h.n6 h1
    rw [e, (h.rd hr).1]
    by_cases h2 : x < 0
    · rw [if_pos h2, if_pos (show ¬ (¬ x < 0 ∧ ¬ 5 < x) from fun z => z.1 h2)]
    · rw [if_neg h2]
      by_cases h3 : x ≤ 5
      · have h4 : ¬ 5 < x := by rw [i_le] at h3; rw [i_lt]; omega
        rw [if_neg (not_not_intro h3), if_neg (not_not_intro (And.intro h2 h4))]
      · have h4 : 5 < x := by rw [i_le] at h3; rw [i_lt]; omega
        rw [if_pos h3, if_pos (show ¬ (¬ x < 0 ∧ ¬ 5 < x) from fun z => z.2 h4)]
  · rw [if_pos h1, if_pos (mt (hasR h reader).mpr h1)]
end PC
