/-! PURE: acts, days, images -/
theorem cpy_at {f g : Nat → Int32} {a b n : Nat} (k : Nat) : cpy f a g b n k = if b ≤ k ∧ k < b + n then f (a + (k - b)) else g k := itr_at (g := fun k => f (a + k)) n k
theorem cp6_at {f g : Nat → Int32} {n : Nat} (k : Nat) : cp6 f g n k = if k < n then f k else g k := itr_0 (g := f) n k
theorem TK.congr {f g : Nat → Int32} {n : Nat} (h : TK f n) (e : ∀ i, i < 28 → g i = f i) : TK g n := by
  obtain ⟨h1, h2, h3⟩ := h
  exact ⟨h1, by rw [e 3 (by omega)]; exact h2, fun r hr => by rw [e _ (by omega)]; exact h3 r hr⟩
theorem TR.congr {st dy ln : Int32} {n : Nat} {kd dd nt lf f kd' dd' nt' lf' f' : Nat → Int32} (h : TR st dy ln n kd dd nt lf f) (e : ∀ i, i < 28 → f' i = f i) (e1 : ∀ r, r < 6 → kd' r = kd r) (e2 : ∀ r, r < 6 → dd' r = dd r) (e3 : ∀ r, r < 6 → nt' r = nt r) (e4 : ∀ r, r < 6 → lf' r = lf r) : TR st dy ln n kd' dd' nt' lf' f' := by
  obtain ⟨h1, h2, h3, h4, h5, h6, h7⟩ := h
  refine ⟨h1, by rw [e 0 (by omega)]; exact h2, by rw [e 1 (by omega)]; exact h3, by rw [e 2 (by omega)]; exact h4, h5, h6.congr e, fun r hr => ?_⟩
  have hr6 : r < 6 := by have := h6.1; omega
  unfold RRd
  rw [e _ (by omega), e _ (by omega), e _ (by omega), e _ (by omega), e1 r hr6, e2 r hr6, e3 r hr6, e4 r hr6]
  exact h7 r hr
theorem TRl.congr {y : TS} {f g : Nat → Int32} (h : TRl y f) (e : ∀ i, i < 28 → g i = f i) : TRl y g := by
  obtain ⟨n, h1, h2⟩ := h
  exact ⟨n, h1, h2.congr e (fun _ _ => rfl) (fun _ _ => rfl) (fun _ _ => rfl) (fun _ _ => rfl)⟩
theorem TRl.kp {x y : TS} {f : Nat → Int32} (h : TRl x f) : TRl (kpT x y) f := by
  obtain ⟨n, h1, h2⟩ := h
  exact ⟨n, h1, h2.congr (fun _ _ => rfl) (fun r hr => by show cp6 _ _ 6 r = _; rw [cp6_at, if_pos hr]) (fun r hr => by show cp6 _ _ 6 r = _; rw [cp6_at, if_pos hr]) (fun r hr => by show cp6 _ _ 6 r = _; rw [cp6_at, if_pos hr]) (fun r hr => by show cp6 _ _ 6 r = _; rw [cp6_at, if_pos hr])⟩
theorem TRl.st {y : TS} {f : Nat → Int32} (h : TRl y f) : y.1 = 0 ∨ y.1 = 1 := by obtain ⟨n, -, h2⟩ := h; exact h2.1
def RAx (u w : Nat) (gs : Nat → TS) (pa : Nat → Int32) : Prop := u ≤ 24 ∧ w ≤ 23 ∧ (∀ j, j < u → TRl (gs ((w + 24 - u + j) % 24)) (fun i => pa (28 * j + i))) ∧ ∀ k, k ≤ 23 → (gs k).1 = 0 ∨ (gs k).1 = 1
def RAc (un na : Int32) (gs : Nat → TS) (ac : Int32) (pa : Nat → Int32) : Prop := ∃ u w : Nat, un = nI u ∧ na = nI w ∧ ac = nI u ∧ RAx u w gs pa
theorem shift_at {pa : Nat → Int32} : ∀ m j, (itr (fun k f => upd f k (f (k + 28))) m pa) j = if j < m then pa (j + 28) else pa j := by
  intro m
  induction m with
  | zero => intro j; rw [if_neg (by omega)]; rfl
  | succ m ih =>
    intro j
    show upd (itr (fun k f => upd f k (f (k + 28))) m pa) m ((itr (fun k f => upd f k (f (k + 28))) m pa) (m + 28)) j = _
    by_cases h : j = m
    · subst h; rw [pk_us, ih, if_neg (by omega), if_pos (by omega)]
    · rw [pk_un h, ih]
      by_cases h2 : j < m
      · rw [if_pos h2, if_pos (by omega)]
      · rw [if_neg h2, if_neg (by omega)]
theorem kpG_at {gs : Nat → TS} {w : Nat} {y : TS} (k : Nat) : kpG gs w y k = if k = w then kpT y (gs w) else gs k := rfl
theorem keep_ok {u w : Nat} {gs : Nat → TS} {pa f : Nat → Int32} {y : TS} (hA : RAx u w gs pa) (hy : TRl y f) : min 24 (u + 1) = (m_notes u f pa).1 ∧ RAx (min 24 (u + 1)) ((w + 1) % 24) (kpG gs w y) (m_notes u f pa).2 := by
  obtain ⟨hu, hw, hj, hs⟩ := hA
  have hst : ∀ k, k ≤ 23 → (kpG gs w y k).1 = 0 ∨ (kpG gs w y k).1 = 1 := by
    intro k hk
    rw [kpG_at]
    by_cases h : k = w
    · rw [if_pos h]; exact hy.kp.st
    · rw [if_neg h]; exact hs k hk
  unfold m_notes
  by_cases h24 : u = 24
  · subst h24
    rw [if_pos rfl]
    refine ⟨rfl, by decide, by omega, ?_, hst⟩
    intro j hj2
    have hj3 : j < 24 := hj2
    by_cases hj23 : j = 23
    · subst hj23
      have e1 : ((w + 1) % 24 + 24 - min 24 (24 + 1) + 23) % 24 = w := by omega
      rw [e1, kpG_at, if_pos rfl]
      refine hy.kp.congr (fun i hi => ?_)
      show cpy f 0 _ (28 * (24 - 1)) 28 (28 * 23 + i) = f i
      rw [cpy_at, if_pos (by omega), show 0 + (28 * 23 + i - 28 * (24 - 1)) = i by omega]
    · have e1 : ((w + 1) % 24 + 24 - min 24 (24 + 1) + j) % 24 = (w + 24 - 24 + (j + 1)) % 24 := by omega
      rw [e1, kpG_at, if_neg (by omega)]
      refine (hj (j + 1) (by omega)).congr (fun i hi => ?_)
      show cpy f 0 (itr (fun k f => upd f k (f (k + 28))) 644 pa) (28 * (24 - 1)) 28 (28 * j + i) = pa (28 * (j + 1) + i)
      rw [cpy_at, if_neg (by omega), shift_at, if_pos (by omega)]
      congr 1; omega
  · rw [if_neg h24]
    have hmin : min 24 (u + 1) = u + 1 := by omega
    rw [hmin]
    refine ⟨rfl, by omega, by omega, ?_, hst⟩
    intro j hj2
    by_cases hju : j = u
    · subst hju
      have e1 : ((w + 1) % 24 + 24 - (j + 1) + j) % 24 = w := by omega
      rw [e1, kpG_at, if_pos rfl]
      refine hy.kp.congr (fun i hi => ?_)
      show cpy f 0 pa (28 * j) 28 (28 * j + i) = f i
      rw [cpy_at, if_pos (by omega)]
      congr 1; omega
    · have e1 : ((w + 1) % 24 + 24 - (u + 1) + j) % 24 = (w + 24 - u + j) % 24 := by omega
      rw [e1, kpG_at, if_neg (by omega)]
      refine (hj j (by omega)).congr (fun i hi => ?_)
      show cpy f 0 pa (28 * u) 28 (28 * j + i) = pa (28 * j + i)
      rw [cpy_at, if_neg (by omega)]
section PACT
variable {st dy ln : Int32} {n : Nat} {kd dd nt lf f : Nat → Int32}
theorem TR.updt (h : TR st dy ln n kd dd nt lf f) {r : Nat} (hr : r < n) {d m l : Int32} {dd' nt' lf' f' : Nat → Int32} (hd : is63 d) (hm : is63 m) (hl : isL l) (h1 : ∀ j, dd' j = if j = r then d else dd j) (h2 : ∀ j, nt' j = if j = r then m else nt j) (h3 : ∀ j, lf' j = if j = r then l else lf j) (f1 : f' (4 + 4 * r + 1) = d) (f2 : f' (4 + 4 * r + 2) = m) (f3 : f' (4 + 4 * r + 3) = l) (fo : ∀ i, i ≠ 4 + 4 * r + 1 → i ≠ 4 + 4 * r + 2 → i ≠ 4 + 4 * r + 3 → f' i = f i) : TR st dy ln n kd dd' nt' lf' f' := by
  obtain ⟨a1, a2, a3, a4, a5, ⟨b1, b2, b3⟩, a7⟩ := h
  refine ⟨a1, by rw [fo 0 (by omega) (by omega) (by omega)]; exact a2, by rw [fo 1 (by omega) (by omega) (by omega)]; exact a3, by rw [fo 2 (by omega) (by omega) (by omega)]; exact a4, a5, ⟨b1, by rw [fo 3 (by omega) (by omega) (by omega)]; exact b2, fun q hq => ?_⟩, fun q hq => ?_⟩
  · by_cases hqr : q = r
    · subst hqr; rw [f3]; exact hl
    · rw [fo _ (by omega) (by omega) (by omega)]; exact b3 q hq
  · by_cases hqr : q = r
    · subst hqr
      obtain ⟨c1, c2, -⟩ := a7 q hq
      unfold RRd
      rw [h1, h2, h3, if_pos rfl, if_pos rfl, if_pos rfl, fo (4 + 4 * q) (by omega) (by omega) (by omega), f1, f2, f3]
      exact ⟨c1, c2, rfl, hd, rfl, hm, rfl, hl⟩
    · unfold RRd
      rw [h1, h2, h3, if_neg hqr, if_neg hqr, if_neg hqr, fo (4 + 4 * q) (by omega) (by omega) (by omega), fo (4 + 4 * q + 1) (by omega) (by omega) (by omega), fo (4 + 4 * q + 2) (by omega) (by omega) (by omega), fo (4 + 4 * q + 3) (by omega) (by omega) (by omega)]
      exact a7 q hq
theorem TR.tl (h : TR st dy ln n kd dd nt lf f) : TRl (st, dy, ln, nI n, kd, dd, nt, lf) f := ⟨n, rfl, h⟩
theorem upd_if {g : Nat → Int32} {r : Nat} {v : Int32} (j : Nat) : upd g r v j = if j = r then v else g j := rfl
theorem self_if {g : Nat → Int32} {r : Nat} (j : Nat) : g j = if j = r then g r else g j := by
  by_cases h : j = r
  · rw [if_pos h, h]
  · rw [if_neg h]
theorem e_write (h : TR st dy ln n kd dd nt lf f) {u w : Nat} {gs : Nat → TS} {pa : Nat → Int32} (hA : RAx u w gs pa) (reader notice : Int32) : (x_write st dy ln n kd dd nt lf u w gs reader notice).1 = (m_write f pa u reader notice).1 ∧ TR st dy ln n kd dd (x_write st dy ln n kd dd nt lf u w gs reader notice).2.2.2.2 lf (m_write f pa u reader notice).2.2.2 ∧ RAc (nI (x_write st dy ln n kd dd nt lf u w gs reader notice).2.1) (nI (x_write st dy ln n kd dd nt lf u w gs reader notice).2.2.1) (x_write st dy ln n kd dd nt lf u w gs reader notice).2.2.2.1 (nI (m_write f pa u reader notice).2.1) (m_write f pa u reader notice).2.2.1 := by
  have h0 : RAc (nI u) (nI w) gs (nI u) pa := ⟨u, w, rfl, rfl, rfl, hA⟩
  unfold x_write m_write
  by_cases h1 : hasN n reader
  · rw [if_neg (not_not_intro h1), if_neg (not_not_intro ((hasR h reader).mp h1))]
    by_cases h2 : ¬ notice < 0 ∧ ¬ 63 < notice
    · rw [if_neg (not_not_intro h2), if_neg (not_not_intro h2)]
      obtain ⟨r, hr, rfl, e⟩ := rdx h.n6 h1
      obtain ⟨g1, g2, g3, g4, g5, g6, g7, g8⟩ := h.rd hr
      rw [e]
      unfold lvs
      rw [← g7]
      by_cases h4 : ¬ lf r ≤ 0
      · rw [if_neg (not_not_intro h4), if_neg (not_not_intro h4)]
        obtain ⟨k1, k2⟩ := keep_ok hA h.tl
        refine ⟨g5, ?_, min 24 (u + 1), (w + 1) % 24, rfl, rfl, ?_, k2⟩
        · exact h.updt hr g4 (i_nat 63 h2.1 h2.2 rfl (by decide)) g8 self_if upd_if self_if (by show upd f _ _ _ = _; rw [pk_un (by omega)]; exact g3.symm) (by show upd f _ _ _ = _; exact pk_us) (by show upd f _ _ _ = _; rw [pk_un (by omega)]; exact g7.symm) (fun i hi1 hi2 hi3 => by show upd f _ _ _ = _; exact pk_un hi2)
        · show nI (m_notes u f pa).1 = _; rw [← k1]
      · rw [if_pos h4, if_pos h4]; exact ⟨rfl, h, h0⟩
    · rw [if_pos h2, if_pos h2]; exact ⟨rfl, h, h0⟩
  · rw [if_pos h1, if_pos (mt (hasR h reader).mpr h1)]; exact ⟨rfl, h, h0⟩
theorem bit_has : ∀ (a : Fin 64) (k : Fin 6), (nI a.val &&& ((1 : Int32) <<< (nI k.val &&& 31)) = 0) ↔ ¬ hasb (nI a.val) k.val := by decide +kernel
theorem six (x : Int32) : (¬ x < 0 ∧ ¬ 5 < x) ↔ (¬ x < 0 ∧ x < 6) := by
  refine and_congr_right (fun _ => ?_)
  rw [i_lt, i_lt]
  have h5 : (5 : Int32).toInt = 5 := rfl
  have h6 : (6 : Int32).toInt = 6 := rfl
  omega
theorem e_deny (h : TR st dy ln n kd dd nt lf f) {u w : Nat} {gs : Nat → TS} {pa : Nat → Int32} (hA : RAx u w gs pa) (reader deed : Int32) : (x_deny st dy ln n kd dd nt lf u w gs reader deed).1 = (m_deny f pa u reader deed).1 ∧ TR st dy ln n kd (x_deny st dy ln n kd dd nt lf u w gs reader deed).2.2.2.2 nt lf (m_deny f pa u reader deed).2.2.2 ∧ RAc (nI (x_deny st dy ln n kd dd nt lf u w gs reader deed).2.1) (nI (x_deny st dy ln n kd dd nt lf u w gs reader deed).2.2.1) (x_deny st dy ln n kd dd nt lf u w gs reader deed).2.2.2.1 (nI (m_deny f pa u reader deed).2.1) (m_deny f pa u reader deed).2.2.1 := by
  have h0 : RAc (nI u) (nI w) gs (nI u) pa := ⟨u, w, rfl, rfl, rfl, hA⟩
  unfold x_deny m_deny
  by_cases h1 : hasN n reader
  · rw [if_neg (not_not_intro h1), if_neg (not_not_intro ((hasR h reader).mp h1))]
    by_cases h2 : deed < 0
    · rw [if_pos h2, if_pos (show ¬ (¬ deed < 0 ∧ ¬ 5 < deed) from fun z => z.1 h2)]; exact ⟨rfl, h, h0⟩
    · rw [if_neg h2]
      by_cases h3 : deed < 6
      · have h35 := (six deed).mpr ⟨h2, h3⟩
        rw [if_neg (not_not_intro h3), if_neg (not_not_intro h35)]
        obtain ⟨r, hr, rfl, e⟩ := rdx h.n6 h1
        obtain ⟨g1, g2, g3, g4, g5, g6, g7, g8⟩ := h.rd hr
        obtain ⟨k, hk, rfl⟩ := i_nat 5 h35.1 h35.2 rfl (by decide)
        rw [e, tn_nI hk, ← g3]
        have hb : (dd r &&& (1 <<< (nI k &&& 31)) = 0) ↔ ¬ hasb (dd r) k := by
          obtain ⟨a, ha, ea⟩ := g4
          rw [ea]; exact bit_has ⟨a, by omega⟩ ⟨k, by omega⟩
        by_cases h4 : dd r &&& (1 <<< (nI k &&& 31)) = 0
        · rw [if_pos h4, if_pos (hb.mp h4)]; exact ⟨rfl, h, h0⟩
        · rw [if_neg h4, if_neg (mt hb.mpr h4)]
          obtain ⟨k1, k2⟩ := keep_ok hA h.tl
          refine ⟨rfl, ?_, min 24 (u + 1), (w + 1) % 24, rfl, rfl, ?_, k2⟩
          · exact h.updt hr (c_and g4) g6 g8 upd_if self_if self_if (by show upd f _ _ _ = _; exact pk_us) (by show upd f _ _ _ = _; rw [pk_un (by omega)]; exact g5.symm) (by show upd f _ _ _ = _; rw [pk_un (by omega)]; exact g7.symm) (fun i hi1 hi2 hi3 => by show upd f _ _ _ = _; exact pk_un hi1)
          · show nI (m_notes u f pa).1 = _; rw [← k1]
      · rw [if_pos h3, if_pos (mt (six deed).mp (fun z => h3 z.2))]; exact ⟨rfl, h, h0⟩
  · rw [if_pos h1, if_pos (mt (hasR h reader).mpr h1)]; exact ⟨rfl, h, h0⟩
theorem sp_eq {a x : Int32} : spX a x = spv a x := by
  unfold spX spv
  by_cases h : a + x < 60
  · rw [if_pos h, if_neg (by rw [i_lt] at h; rw [i_le]; omega)]
  · rw [if_neg h, if_pos (by rw [i_lt] at h; rw [i_le]; omega)]
theorem e_spare (h : TR st dy ln n kd dd nt lf f) {u w : Nat} {gs : Nat → TS} {pa : Nat → Int32} (hA : RAx u w gs pa) (reader x : Int32) : (x_spare st dy ln n kd dd nt lf u w gs reader x).1 = (m_spare f pa u reader x).1 ∧ TR st dy ln n kd dd nt (x_spare st dy ln n kd dd nt lf u w gs reader x).2.2.2.2 (m_spare f pa u reader x).2.2.2 ∧ RAc (nI (x_spare st dy ln n kd dd nt lf u w gs reader x).2.1) (nI (x_spare st dy ln n kd dd nt lf u w gs reader x).2.2.1) (x_spare st dy ln n kd dd nt lf u w gs reader x).2.2.2.1 (nI (m_spare f pa u reader x).2.1) (m_spare f pa u reader x).2.2.1 := by
  have h0 : RAc (nI u) (nI w) gs (nI u) pa := ⟨u, w, rfl, rfl, rfl, hA⟩
  unfold x_spare m_spare
  by_cases h1 : hasN n reader
  · rw [if_neg (not_not_intro h1), if_neg (not_not_intro ((hasR h reader).mp h1))]
    by_cases h2 : x < 1
    · rw [if_pos h2, if_pos (show ¬ (¬ x < 1 ∧ ¬ 60 < x) from fun z => z.1 h2)]; exact ⟨rfl, h, h0⟩
    · rw [if_neg h2]
      by_cases h3 : x ≤ 60
      · have h36 : ¬ 60 < x := by rw [i_le] at h3; rw [i_lt]; omega
        rw [if_neg (not_not_intro h3), if_neg (not_not_intro (And.intro h2 h36))]
        obtain ⟨r, hr, rfl, e⟩ := rdx h.n6 h1
        obtain ⟨g1, g2, g3, g4, g5, g6, g7, g8⟩ := h.rd hr
        rw [e]
        unfold lvs
        rw [← g7]
        by_cases h4 : ¬ lf r ≤ 0
        · rw [if_neg (not_not_intro h4), if_neg (not_not_intro h4), sp_eq]
          obtain ⟨k1, k2⟩ := keep_ok hA h.tl
          refine ⟨rfl, ?_, min 24 (u + 1), (w + 1) % 24, rfl, rfl, ?_, k2⟩
          · have hl : isL (spv (lf r) x) := by
              obtain ⟨l, hl60, el⟩ := g8
              obtain ⟨k, hk, rfl⟩ := nI_of2 (n := 60) rfl (i_ge1 h2) h3
              unfold spv
              rw [el, nI_add]
              by_cases hq : 60 ≤ nI (l + k)
              · rw [if_pos hq]; exact ⟨60, Nat.le_refl 60, rfl⟩
              · rw [if_neg hq]
                refine ⟨l + k, ?_, rfl⟩
                have hq2 : ¬ nI 60 ≤ nI (l + k) := hq
                rw [nI_leI (by omega) (by omega)] at hq2
                omega
            exact h.updt hr g4 g6 hl self_if self_if upd_if (by show upd f _ _ _ = _; rw [pk_un (by omega)]; exact g3.symm) (by show upd f _ _ _ = _; rw [pk_un (by omega)]; exact g5.symm) (by show upd f _ _ _ = _; exact pk_us) (fun i hi1 hi2 hi3 => by show upd f _ _ _ = _; exact pk_un hi3)
          · show nI (m_notes u f pa).1 = _; rw [← k1]
        · rw [if_pos h4, if_pos h4]; exact ⟨rfl, h, h0⟩
      · have h36 : 60 < x := by rw [i_le] at h3; rw [i_lt]; omega
        rw [if_pos h3, if_pos (show ¬ (¬ x < 1 ∧ ¬ 60 < x) from fun z => z.2 h36)]; exact ⟨rfl, h, h0⟩
  · rw [if_pos h1, if_pos (mt (hasR h reader).mpr h1)]; exact ⟨rfl, h, h0⟩
theorem e_undo {y : TS} (hy : TRl y f) {u w : Nat} {gs : Nat → TS} {pa : Nat → Int32} (hA : RAx u w gs pa) : (x_undo u w gs y).1 = (m_undo f pa u).1 ∧ TRl (x_undo u w gs y).2.2.2 (m_undo f pa u).2.2 ∧ RAc (nI (x_undo u w gs y).2.1) (nI (x_undo u w gs y).2.2.1) gs (nI (m_undo f pa u).2.1) pa := by
  obtain ⟨hu, hw, hj, hs⟩ := hA
  unfold x_undo m_undo
  by_cases h1 : nI u = 0
  · rw [if_pos h1, if_pos h1]; exact ⟨rfl, hy, u, w, rfl, rfl, rfl, hu, hw, hj, hs⟩
  · rw [if_neg h1, if_neg h1]
    have hu1 : 1 ≤ u := by rcases Nat.eq_zero_or_pos u with z | z; exact absurd (by rw [z]; rfl) h1; exact z
    refine ⟨rfl, ?_, u - 1, (w + 24 - 1) % 24, rfl, rfl, rfl, by omega, by omega, ?_, hs⟩
    · show TRl (kpT (gs ((w + 24 - 1) % 24)) y) (cpy pa (28 * (u - 1)) f 0 28)
      have := hj (u - 1) (by omega)
      rw [show (w + 24 - u + (u - 1)) % 24 = (w + 24 - 1) % 24 by omega] at this
      refine this.kp.congr (fun i hi => ?_)
      rw [cpy_at, if_pos (by omega)]; rfl
    · intro j hj2
      have := hj j (by omega)
      rw [show ((w + 24 - 1) % 24 + 24 - (u - 1) + j) % 24 = (w + 24 - u + j) % 24 by omega]
      exact this
theorem TR.day1 (h : TR st dy ln n kd dd nt lf f) {r : Nat} (hr : r < n) : TR st dy ln n kd (pdS dy kd nt r (dd, lf)).1 nt (pdS dy kd nt r (dd, lf)).2 (rdS f r) := by
  obtain ⟨g1, g2, g3, g4, g5, g6, g7, g8⟩ := h.rd hr
  have e3 : upd f (4 + 4 * r + 1) (ddI f r 1) (4 + 4 * r + 3) = lf r := by rw [pk_un (by omega)]; exact g7.symm
  have hl : lvs (upd f (4 + 4 * r + 1) (ddI f r 1)) r ↔ ¬ lf r ≤ 0 := by unfold lvs; rw [e3]
  have r1 : rdS f r (4 + 4 * r + 1) = ddI f r 1 := by unfold rdS; rw [pk_un (by omega), pk_us]
  have r2 : rdS f r (4 + 4 * r + 2) = nt r := by unfold rdS; rw [pk_un (by omega), pk_un (by omega)]; exact g5.symm
  have r3 : rdS f r (4 + 4 * r + 3) = lf r - (if ¬ lf r ≤ 0 then 1 else 0) := by
    unfold rdS
    rw [pk_us]
    by_cases hq : ¬ lf r ≤ 0
    · rw [if_pos (hl.mpr hq), if_pos hq, e3]
    · rw [if_neg (mt hl.mp hq), if_neg hq, e3]
  have ro : ∀ i, i ≠ 4 + 4 * r + 1 → i ≠ 4 + 4 * r + 2 → i ≠ 4 + 4 * r + 3 → rdS f r i = f i := fun i h1 h2 h3 => rdS_ne h1 h3
  rw [dd_eq h hr] at r1
  by_cases hq : lf r ≤ 0
  · have hp : pdS dy kd nt r (dd, lf) = (dd, lf) := by unfold pdS; rw [if_neg (not_not_intro hq)]
    rw [hp]
    rw [if_neg (not_not_intro hq)] at r3
    have h0 : min 12 (min 1 (tn (lf r))) = 0 := by have := (lf_0 g8).mp hq; omega
    rw [h0] at r1
    exact h.updt hr g4 g6 g8 self_if self_if self_if r1 r2 (by rw [r3]; exact Int32.sub_zero _) ro
  · have hp : pdS dy kd nt r (dd, lf) = (upd dd r (dd r ||| tDo (kd r) dy (dd r) (nt r)), upd lf r (lf r - 1)) := by unfold pdS; rw [if_pos hq]
    rw [hp]
    rw [if_pos hq] at r3
    have h1 : min 12 (min 1 (tn (lf r))) = 1 := by have := mt (lf_0 g8).mpr hq; omega
    rw [h1] at r1
    have r1' : rdS f r (4 + 4 * r + 1) = dd r ||| tDo (kd r) dy (dd r) (nt r) := by
      rw [r1]
      show dd r ||| tDo (kd r) (dy + nI 0) (dd r) (nt r) = _
      rw [dy0]
    have hl1 : isL (lf r - 1) := by
      obtain ⟨l, hl60, el⟩ := g8
      rw [el] at hq ⊢
      have hl0 : l ≠ 0 := fun z => hq (by rw [z]; decide)
      exact ⟨l - 1, by omega, pk_sub (a := l) (b := 1) (by omega)⟩
    exact h.updt hr (c_or g4 (c_tDo g6)) g6 hl1 upd_if self_if upd_if r1' r2 r3 ro
theorem TR.dayk (h : TR st dy ln n kd dd nt lf f) : ∀ k, k ≤ n → TR st dy ln n kd (pdF dy kd nt dd lf k).1 nt (pdF dy kd nt dd lf k).2 (rdF f k) := by
  intro k
  induction k with
  | zero => intro _; exact h
  | succ k ih =>
    intro hk
    have := (ih (by omega)).day1 (show k < n by omega)
    rw [pdF_s]
    exact this
theorem TR.day {d : Nat} (hd : d + 1 ≤ 999) (he : dy = nI d) (h : TR st dy ln n kd dd nt lf f) : TR st (dy + 1) ln n kd (pdF dy kd nt dd lf n).1 nt (pdF dy kd nt dd lf n).2 (dayF f n) := by
  obtain ⟨a1, a2, a3, a4, a5, ⟨b1, b2, b3⟩, a7⟩ := h.dayk n (Nat.le_refl n)
  have e2 : dayF f n 2 = rdF f n 2 + 1 := by unfold dayF; exact pk_us
  have eo : ∀ i, i ≠ 2 → dayF f n i = rdF f n i := fun i hi => by unfold dayF; exact pk_un hi
  refine ⟨a1, by rw [eo 0 (by omega)]; exact a2, by rw [eo 1 (by omega)]; exact a3, by rw [e2, ← a4], ⟨d + 1, hd, by rw [he, nI_1]⟩, ⟨b1, by rw [eo 3 (by omega)]; exact b2, fun r hr => by rw [eo _ (by omega)]; exact b3 r hr⟩, fun r hr => ?_⟩
  unfold RRd
  rw [eo _ (by omega), eo _ (by omega), eo _ (by omega), eo _ (by omega)]
  exact a7 r hr
theorem days_k {d : Nat} (he : dy = nI d) (h : TR st dy ln n kd dd nt lf f) {u w : Nat} {gs : Nat → TS} {pa : Nat → Int32} (hA : RAx u w gs pa) : ∀ k, d + k ≤ 999 → (dsL st ln n kd nt (u, w, gs, dy, dd, lf) k).1 = (dyL n (u, pa, f) k).1 ∧ RAx (dsL st ln n kd nt (u, w, gs, dy, dd, lf) k).1 (dsL st ln n kd nt (u, w, gs, dy, dd, lf) k).2.1 (dsL st ln n kd nt (u, w, gs, dy, dd, lf) k).2.2.1 (dyL n (u, pa, f) k).2.1 ∧ (dsL st ln n kd nt (u, w, gs, dy, dd, lf) k).2.2.2.1 = nI (d + k) ∧ TR st (dsL st ln n kd nt (u, w, gs, dy, dd, lf) k).2.2.2.1 ln n kd (dsL st ln n kd nt (u, w, gs, dy, dd, lf) k).2.2.2.2.1 nt (dsL st ln n kd nt (u, w, gs, dy, dd, lf) k).2.2.2.2.2 (dyL n (u, pa, f) k).2.2 := by
  intro k
  induction k with
  | zero => intro _; exact ⟨rfl, hA, he, h⟩
  | succ k ih =>
    intro hk
    obtain ⟨i1, i2, i3, i4⟩ := ih (by omega)
    have e2 : dyL n (u, pa, f) (k + 1) = dayM n (dyL n (u, pa, f) k) := rfl
    rw [dsL_s, e2]
    generalize dsL st ln n kd nt (u, w, gs, dy, dd, lf) k = S at i1 i2 i3 i4 ⊢
    generalize dyL n (u, pa, f) k = M at i1 i2 i4 ⊢
    obtain ⟨k1, k2⟩ := keep_ok i2 i4.tl
    unfold dayM dsS
    rw [← i1]
    refine ⟨k1, k2, ?_, ?_⟩
    · show S.2.2.2.1 + 1 = nI (d + (k + 1)); rw [i3, nI_1]; congr 1
    · exact i4.day (d := d + k) (by omega) i3
theorem e_days (h : TR st dy ln n kd dd nt lf f) {u w : Nat} {gs : Nat → TS} {pa : Nat → Int32} (hA : RAx u w gs pa) (x : Int32) : (x_days st dy ln n kd dd nt lf u w gs x).1 = (m_days f pa u n x).1 ∧ TR st (x_days st dy ln n kd dd nt lf u w gs x).2.2.2.2.1 ln n kd (x_days st dy ln n kd dd nt lf u w gs x).2.2.2.2.2.1 nt (x_days st dy ln n kd dd nt lf u w gs x).2.2.2.2.2.2 (m_days f pa u n x).2.2.2 ∧ RAc (nI (x_days st dy ln n kd dd nt lf u w gs x).2.1) (nI (x_days st dy ln n kd dd nt lf u w gs x).2.2.1) (x_days st dy ln n kd dd nt lf u w gs x).2.2.2.1 (nI (m_days f pa u n x).2.1) (m_days f pa u n x).2.2.1 := by
  have h0 : RAc (nI u) (nI w) gs (nI u) pa := ⟨u, w, rfl, rfl, rfl, hA⟩
  obtain ⟨d, hd9, hde⟩ := h.2.2.2.2.1
  unfold x_days m_days
  by_cases h1 : st = 0
  · rw [if_pos h1, if_pos (h.st0.mp h1)]; exact ⟨rfl, h, h0⟩
  · rw [if_neg h1, if_neg (mt h.st0.mpr h1)]
    by_cases h2 : x < 1
    · rw [if_pos h2, if_pos (show ¬ (¬ x < 1 ∧ ¬ 20 < x) from fun z => z.1 h2)]; exact ⟨rfl, h, h0⟩
    · rw [if_neg h2]
      by_cases h3 : x ≤ 20
      · have h36 : ¬ 20 < x := by rw [i_le] at h3; rw [i_lt]; omega
        rw [if_neg (not_not_intro h3), if_neg (not_not_intro (And.intro h2 h36)), ← h.2.2.2.1]
        obtain ⟨k, hk, rfl⟩ := nI_of2 (n := 20) rfl (i_ge1 h2) h3
        by_cases h4 : dy + nI k ≤ 999
        · rw [if_neg (not_not_intro h4), if_neg (not_not_intro h4), tn_nI hk]
          have hdk : d + k ≤ 999 := by
            rw [hde, nI_add] at h4
            have h5 : nI (d + k) ≤ nI 999 := h4
            rw [nI_leI (by omega) (by omega)] at h5
            exact h5
          obtain ⟨i1, i2, i3, i4⟩ := days_k hde h hA k hdk
          exact ⟨living_eq i4, i4, _, _, rfl, rfl, by rw [← i1], i2⟩
        · rw [if_pos h4, if_pos h4]; exact ⟨rfl, h, h0⟩
      · have h36 : 20 < x := by rw [i_le] at h3; rw [i_lt]; omega
        rw [if_pos h3, if_pos (show ¬ (¬ x < 1 ∧ ¬ 20 < x) from fun z => z.2 h36)]; exact ⟨rfl, h, h0⟩
def RIm (gi : Nat → TS) (im kp : Nat → Int32) : Prop := ∀ k, k ≤ 1 → ((gi k).1 = 0 ∨ (gi k).1 = 1) ∧ (kp k = 0 ↔ (gi k).1 = 0) ∧ (¬ kp k = 0 → TRl (gi k) (fun i => im (28 * k + i)))
theorem im2 (k : Int32) : (¬ k < 0 ∧ ¬ 2 ≤ k) ↔ cho k := by
  refine and_congr_right (fun _ => ?_)
  rw [i_le, i_lt]
  have h1 : (1 : Int32).toInt = 1 := rfl
  have h2 : (2 : Int32).toInt = 2 := rfl
  omega
theorem e_image {y : TS} (hy : TRl y f) {gi : Nat → TS} {im kp : Nat → Int32} (hI : RIm gi im kp) (k : Int32) : (x_image gi y k).1 = (m_image f im kp k).1 ∧ RIm (x_image gi y k).2 (m_image f im kp k).2.1 (m_image f im kp k).2.2 := by
  unfold x_image m_image
  by_cases h1 : cho k
  · rw [if_neg (not_not_intro ((im2 k).mpr h1)), if_neg (not_not_intro h1)]
    obtain ⟨n, hn, hT⟩ := id hy
    by_cases h2 : y.1 = 0
    · rw [if_pos h2, if_pos (hT.st0.mp h2)]; exact ⟨rfl, hI⟩
    · rw [if_neg h2, if_neg (mt hT.st0.mpr h2)]
      refine ⟨rfl, ?_⟩
      obtain ⟨v, hv, rfl⟩ := i_nat 1 h1.1 h1.2 rfl (by decide)
      show RIm (kpG gi (tn (nI v)) y) (cpy f 0 im (28 * tn (nI v)) 28) (upd kp (tn (nI v)) 1)
      rw [tn_nI hv]
      intro q hq
      rw [kpG_at]
      by_cases hqv : q = v
      · subst hqv
        rw [if_pos rfl, pk_us]
        refine ⟨hy.kp.st, ⟨fun z => absurd z (by decide), fun z => absurd z h2⟩, fun _ => ?_⟩
        refine hy.kp.congr (fun i hi => ?_)
        rw [cpy_at, if_pos (by omega)]
        congr 1; omega
      · rw [if_neg hqv, pk_un hqv]
        obtain ⟨a1, a2, a3⟩ := hI q hq
        refine ⟨a1, a2, fun z => (a3 z).congr (fun i hi => ?_)⟩
        rw [cpy_at, if_neg (by omega)]
  · rw [if_pos (mt (im2 k).mp h1), if_pos h1]; exact ⟨rfl, hI⟩
theorem e_restore {y : TS} (hy : TRl y f) {gi : Nat → TS} {im kp : Nat → Int32} (hI : RIm gi im kp) {u w : Nat} {gs : Nat → TS} {pa : Nat → Int32} (hA : RAx u w gs pa) (k : Int32) : (x_restore (nI u) gi y k).1 = (m_restore f im kp u k).1 ∧ TRl (x_restore (nI u) gi y k).2.2 (m_restore f im kp u k).2.1 ∧ RAc (x_restore (nI u) gi y k).2.1 (nI w) gs (nI (m_restore f im kp u k).2.2) pa := by
  have h0 : RAc (nI u) (nI w) gs (nI u) pa := ⟨u, w, rfl, rfl, rfl, hA⟩
  unfold x_restore m_restore
  by_cases h1 : cho k
  · rw [if_neg (not_not_intro ((im2 k).mpr h1)), if_neg (not_not_intro h1)]
    obtain ⟨v, hv, rfl⟩ := i_nat 1 h1.1 h1.2 rfl (by decide)
    rw [tn_nI hv]
    obtain ⟨a1, a2, a3⟩ := hI v hv
    by_cases h2 : (gi v).1 = 0
    · rw [if_pos h2, if_pos (a2.mpr h2)]; exact ⟨rfl, hy, h0⟩
    · rw [if_neg h2, if_neg (mt a2.mp h2)]
      refine ⟨rfl, ?_, 0, w, rfl, rfl, rfl, Nat.zero_le _, hA.2.1, fun j hj => absurd hj (Nat.not_lt_zero j), hA.2.2.2⟩
      refine (a3 (mt a2.mp h2)).kp.congr (fun i hi => ?_)
      show cpy im (28 * v) f 0 28 i = im (28 * v + i)
      rw [cpy_at, if_pos (by omega)]; rfl
  · rw [if_pos (mt (im2 k).mp h1), if_pos h1]; exact ⟨rfl, hy, h0⟩
end PACT
