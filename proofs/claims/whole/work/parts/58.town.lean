/-! PURE: a town is read -/
def DR (ln : Int32) (n : Nat) (kd dd nt lf dr : Nat → Int32) : Prop := dr 0 = 0 ∧ dr 1 = ln ∧ dr 2 = 0 ∧ dr 3 = nI n ∧ (∀ r, r < n → RRd kd dd nt lf dr r) ∧ ∀ r, n ≤ r → r ≤ 5 → dr (4 + 4 * r + 3) = 0
theorem DR.add {ln : Int32} {n : Nat} {kd dd nt lf dr : Nat → Int32} (h : DR ln n kd dd nt lf dr) (hn : n < 6) {a b x d : Int32} (ha : isK a) (hb : is63 b) (hx : is63 x) (hd : isL d) : DR ln (n + 1) (upd kd n a) (upd dd n b) (upd nt n x) (upd lf n d) (pDr dr n a b x d) := by
  obtain ⟨h0, h1, h2, h3, h4, h5⟩ := h
  have hp : plc n = 4 + 4 * n := by unfold plc; rw [if_pos hn]
  have e : ∀ i, pDr dr n a b x d i = if i = 3 then nI (n + 1) else if i = 4 + 4 * n + 3 then d else if i = 4 + 4 * n + 2 then x else if i = 4 + 4 * n + 1 then b else if i = 4 + 4 * n then a else dr i := by
    intro i
    unfold pDr
    rw [hp]; rfl
  refine ⟨?_, ?_, ?_, ?_, ?_, ?_⟩
  · rw [e, if_neg (by omega), if_neg (by omega), if_neg (by omega), if_neg (by omega), if_neg (by omega)]; exact h0
  · rw [e, if_neg (by omega), if_neg (by omega), if_neg (by omega), if_neg (by omega), if_neg (by omega)]; exact h1
  · rw [e, if_neg (by omega), if_neg (by omega), if_neg (by omega), if_neg (by omega), if_neg (by omega)]; exact h2
  · rw [e, if_pos rfl]
  · intro r hr
    by_cases hrn : r = n
    · subst hrn
      unfold RRd
      rw [pk_us, pk_us, pk_us, pk_us]
      refine ⟨?_, ha, ?_, hb, ?_, hx, ?_, hd⟩
      · rw [e, if_neg (by omega), if_neg (by omega), if_neg (by omega), if_neg (by omega), if_pos rfl]
      · rw [e, if_neg (by omega), if_neg (by omega), if_neg (by omega), if_pos rfl]
      · rw [e, if_neg (by omega), if_neg (by omega), if_pos rfl]
      · rw [e, if_neg (by omega), if_pos rfl]
    · have := h4 r (by omega)
      unfold RRd at this ⊢
      rw [pk_un hrn, pk_un hrn, pk_un hrn, pk_un hrn]
      have q0 : pDr dr n a b x d (4 + 4 * r) = dr (4 + 4 * r) := by rw [e, if_neg (by omega), if_neg (by omega), if_neg (by omega), if_neg (by omega), if_neg (by omega)]
      have q1 : pDr dr n a b x d (4 + 4 * r + 1) = dr (4 + 4 * r + 1) := by rw [e, if_neg (by omega), if_neg (by omega), if_neg (by omega), if_neg (by omega), if_neg (by omega)]
      have q2 : pDr dr n a b x d (4 + 4 * r + 2) = dr (4 + 4 * r + 2) := by rw [e, if_neg (by omega), if_neg (by omega), if_neg (by omega), if_neg (by omega), if_neg (by omega)]
      have q3 : pDr dr n a b x d (4 + 4 * r + 3) = dr (4 + 4 * r + 3) := by rw [e, if_neg (by omega), if_neg (by omega), if_neg (by omega), if_neg (by omega), if_neg (by omega)]
      rw [q0, q1, q2, q3]; exact this
  · intro r hr hr5
    rw [e, if_neg (by omega), if_neg (by omega), if_neg (by omega), if_neg (by omega), if_neg (by omega)]; exact h5 r (by omega) hr5
section PW
variable {t : Nat} {b1 b2 : Nat → Int32} {fk ln : Int32}
/-- how far the two readings are, behind k rounds -/
def LM (b1 b2 : Nat → Int32) (t : Nat) (fk ln : Int32) (k : Nat) (X : (Nat × Int32) × TwT) (S : PS × (Nat → Int32)) : Prop :=
  (k ≤ 6 ∧ X.1.2 = 0 ∧ X.1.1 ≤ t ∧ S.1 = sAt b2 t X.1.1 fk ∧ X.2.1 = k ∧ DR ln k X.2.2.1 X.2.2.2.1 X.2.2.2.2.1 X.2.2.2.2.2 S.2) ∨
  (X.1.2 = 0 ∧ X.1.1 = t ∧ S.1 = sAt b2 t t fk ∧ X.2.1 ≤ 6 ∧ DR ln X.2.1 X.2.2.1 X.2.2.2.1 X.2.2.2.2.1 X.2.2.2.2.2 S.2) ∨
  (¬ X.1.2 = 0 ∧ X.1.1 ≤ t ∧ S.1.2.2.2.2.1 = X.1.2 ∧ S.1.2.2.2.2.2 = nI X.1.1) ∨
  (X.1.2 = 1 ∧ X.1.1 < t ∧ kSF (b1 X.1.1) = 0 ∧ S.1 = sAt b2 t X.1.1 fk)
theorem well_s (s : Nat) : pWell (sAt b2 t s fk) := by show (-1 : Int32) < 0; decide
theorem go_end (s : Nat) (hs : ¬ s < t) : ¬ pGo (sAt b2 t s fk) := fun z => by
  have z1 : adT b2 t s = 1 := z.2.1
  rw [(ad_end hs).1] at z1
  exact absurd z1 (by decide)
theorem go_k (h : BB t b1 b2) {s : Nat} (hs : s < t) : pGo (sAt b2 t s fk) ↔ ¬ kSF (b1 s) = 0 :=
  ⟨fun z => (ad_k h hs).1.mp ⟨z.2.1, z.2.2⟩, fun z => ⟨well_s s, ((ad_k h hs).1.mpr z).1, ((ad_k h hs).1.mpr z).2⟩⟩
theorem read_A (h : BB t b1 b2) (ht : t ≤ 120) {k s : Nat} {kd dd nt lf dr : Nat → Int32} (hk6 : k ≤ 6) (hs : s < t) (hK : ¬ kSF (b1 s) = 0) (hD : DR ln k kd dd nt lf dr) : LM b1 b2 t fk ln (k + 1) (rRd b1 t (s, 0) k kd dd nt lf) (pRead b2 t k (sAt b2 t s fk) dr) := by
  have hrk : rRk b1 t s = kSF (b1 s) := by unfold rRk; rw [if_pos hs]
  obtain ⟨hnd, hkk⟩ := (ad_k h hs).2 hK
  have hA := adA_c h hs hnd
  have hw := well_s (b2 := b2) (t := t) (fk := fk) s
  unfold rRd
  rw [show rRk b1 t ((s, (0 : Int32)) : Nat × Int32).1 = kSF (b1 s) from hrk, if_neg hK]
  by_cases h6 : 6 ≤ k
  · rw [if_pos h6]
    have e1 : (pR1 b2 t k (sAt b2 t s fk)).2 = (s, adA b2 t s, adT b2 t s, adV b2 t s, 3, nI s) := by
      unfold pR1 pTake
      rw [if_neg (not_not_intro hw), if_pos (bI_0.mpr (by omega))]; rfl
    have hb : ¬ pWell (pR1 b2 t k (sAt b2 t s fk)).2 := by rw [e1]; exact nI_pos (by omega)
    have e2 : (pR2 b2 t k (sAt b2 t s fk)).2 = (pR1 b2 t k (sAt b2 t s fk)).2 := by unfold pR2; exact pFig_bad hb
    have e3 : (pR3 b2 t k (sAt b2 t s fk)).2 = (pR1 b2 t k (sAt b2 t s fk)).2 := by unfold pR3; rw [e2]; exact pNext_bad hb
    have e4 : (pR4 b2 t k (sAt b2 t s fk)).2 = (pR1 b2 t k (sAt b2 t s fk)).2 := by unfold pR4; rw [e3]; exact pNext_bad hb
    have e5 : (pR5 b2 t k (sAt b2 t s fk)).2 = (pR1 b2 t k (sAt b2 t s fk)).2 := by unfold pR5; rw [e4, pTake_bad hb]
    refine Or.inr (Or.inr (Or.inl ⟨show ¬ (3 : Int32) = 0 by decide, by show s ≤ t; omega, ?_, ?_⟩))
    · rw [pRead_1, e5, e1]
    · rw [pRead_1, e5, e1]
  · rw [if_neg h6]
    have e1 : (pR1 b2 t k (sAt b2 t s fk)).2 = sAt b2 t (s + 1) fk := by
      unfold pR1 pTake
      rw [if_neg (not_not_intro hw), if_neg (bI1 (show k < 6 by omega))]
      show ((sAt b2 t s fk).2.1, adA b2 t (sAt b2 t s fk).2.1, _) = _
      rw [show (sAt b2 t s fk).2.1 = s + 1 from hA]; rfl
    have hR : RPs b2 t fk (pR1 b2 t k (sAt b2 t s fk)).2 (s + 1, 0) := ⟨by show s + 1 ≤ t; omega, Or.inl ⟨rfl, e1⟩⟩
    obtain ⟨x2, y2⟩ : ∃ x, tNm b1 t 63 (s + 1, 0) = x := ⟨_, rfl⟩
    obtain ⟨x3, y3⟩ : ∃ x, tNm b1 t 63 (tSg b1 t 44 x2.2) = x := ⟨_, rfl⟩
    obtain ⟨x4, y4⟩ : ∃ x, tNm b1 t 60 (tSg b1 t 44 x3.2) = x := ⟨_, rfl⟩
    obtain ⟨q, y5⟩ : ∃ x, tSg b1 t 59 x4.2 = x := ⟨_, rfl⟩
    obtain ⟨v1, v2, v3, v4, v5⟩ := body_a (σ2 := pR2 b2 t k (sAt b2 t s fk)) (σ3 := pR3 b2 t k (sAt b2 t s fk)) (σ4 := pR4 b2 t k (sAt b2 t s fk)) (p5 := pR5 b2 t k (sAt b2 t s fk)) h ht hR rfl rfl rfl rfl y2 y3 y4 y5
    have eB : rB b1 t (s + 1, 0) = ((x2.1, x3.1, x4.1), q) := by rw [rB_e, y2, y3, y4, y5]
    rw [show (((s, (0 : Int32)) : Nat × Int32).1 + 1, ((s, (0 : Int32)) : Nat × Int32).2) = (s + 1, 0) from rfl, eB]
    show LM b1 b2 t fk ln (k + 1) (q, if q.2 = 0 then t_add k kd dd nt lf (kSF (b1 s)) x2.1 x3.1 x4.1 else (k, kd, dd, nt, lf)) (pRead b2 t k (sAt b2 t s fk) dr)
    obtain ⟨hq1, hq2⟩ := v4
    rcases hq2 with ⟨g1, g2⟩ | ⟨g1, g2, g3⟩
    · rw [if_pos g1]
      have hw5 : pWell (pR5 b2 t k (sAt b2 t s fk)).2 := by rw [g2]; exact well_s _
      obtain ⟨w1, w2, w3⟩ := v5 g1
      left
      refine ⟨by omega, g1, hq1, by rw [pRead_1]; exact g2, ?_, ?_⟩
      · show (t_add k kd dd nt lf (kSF (b1 s)) x2.1 x3.1 x4.1).1 = k + 1
        unfold t_add; rw [if_pos (by omega)]
      · rw [pRead_2 hw5, v1, v2, v3, show kindOf (sAt b2 t s fk).2.2.2.1 = kSF (b1 s) from hkk]
        have et : t_add k kd dd nt lf (kSF (b1 s)) x2.1 x3.1 x4.1 = (k + 1, upd kd k (kSF (b1 s)), upd dd k x2.1, upd nt k x3.1, upd lf k x4.1) := by unfold t_add; rw [if_pos (by omega)]
        show DR ln (k + 1) (t_add k kd dd nt lf (kSF (b1 s)) x2.1 x3.1 x4.1).2.1 (t_add k kd dd nt lf (kSF (b1 s)) x2.1 x3.1 x4.1).2.2.1 (t_add k kd dd nt lf (kSF (b1 s)) x2.1 x3.1 x4.1).2.2.2.1 (t_add k kd dd nt lf (kSF (b1 s)) x2.1 x3.1 x4.1).2.2.2.2 _
        rw [et]
        exact hD.add (by omega) (kSF_K hK) w1 w2 w3
    · rw [if_neg g1]
      refine Or.inr (Or.inr (Or.inl ⟨g1, hq1, ?_, ?_⟩))
      · rw [pRead_1]; exact g2
      · rw [pRead_1]; exact g3
theorem LM_s (h : BB t b1 b2) (ht : t ≤ 120) {k : Nat} {X : (Nat × Int32) × TwT} {S : PS × (Nat → Int32)} (hL : LM b1 b2 t fk ln k X S) : LM b1 b2 t fk ln (k + 1) (rSt b1 t X) (pStep b2 t k S) := by
  unfold rSt pStep
  rcases hL with ⟨a1, a2, a3, a4, a5, a6⟩ | ⟨a1, a2, a3, a4, a5⟩ | ⟨a1, a2, a3, a4⟩ | ⟨a1, a2, a3, a4⟩
  · by_cases hs : X.1.1 < t
    · rw [if_pos ⟨a2, hs⟩]
      by_cases hK : kSF (b1 X.1.1) = 0
      · rw [a4, if_neg (fun z => (go_k h hs).mp z hK)]
        have e : rRd b1 t X.1 X.2.1 X.2.2.1 X.2.2.2.1 X.2.2.2.2.1 X.2.2.2.2.2 = ((X.1.1, 1), (X.2.1, X.2.2.1, X.2.2.2.1, X.2.2.2.2.1, X.2.2.2.2.2)) := by
          unfold rRd
          rw [if_pos (by unfold rRk; rw [if_pos hs]; exact hK)]
        rw [e]
        exact Or.inr (Or.inr (Or.inr ⟨rfl, hs, hK, a4⟩))
      · rw [a4, if_pos ((go_k h hs).mpr hK), a5]
        have e : X.1 = (X.1.1, 0) := Prod.ext rfl a2
        rw [e]
        exact read_A h ht a1 hs hK a6
    · rw [if_neg (fun z => hs z.2), a4, if_neg (go_end _ hs)]
      have et : X.1.1 = t := by omega
      refine Or.inr (Or.inl ⟨a2, et, by rw [a4, et], by omega, ?_⟩)
      rw [a5]; exact a6
  · rw [if_neg (fun z => absurd z.2 (by omega)), a3, if_neg (go_end t (Nat.lt_irrefl t))]
    exact Or.inr (Or.inl ⟨a1, a2, a3, a4, a5⟩)
  · rw [if_neg (fun z => a1 z.1), if_neg (show ¬ pGo S.1 from fun z => absurd z.1 (by show ¬ S.1.2.2.2.2.2 < 0; rw [a4]; exact nI_pos (by omega)))]
    exact Or.inr (Or.inr (Or.inl ⟨a1, a2, a3, a4⟩))
  · rw [if_neg (fun z => absurd (a1.symm.trans z.1) (by decide)), a4, if_neg (fun z => (go_k h a2).mp z a3)]
    exact Or.inr (Or.inr (Or.inr ⟨a1, a2, a3, a4⟩))
theorem LM_k (h : BB t b1 b2) (ht : t ≤ 120) {z0 : Nat × Int32} {kd dd nt lf : Nat → Int32} {S0 : PS × (Nat → Int32)} (h0 : LM b1 b2 t fk ln 0 (z0, (0, kd, dd, nt, lf)) S0) : ∀ k, LM b1 b2 t fk ln k (rI b1 t z0 kd dd nt lf k) (pL b2 t S0 k) := by
  intro k
  induction k with
  | zero => exact h0
  | succ k ih =>
    rw [rI_s]
    exact LM_s h ht ih
theorem law_ok (h : BB t b1 b2) (ht : t ≤ 120) : (pT2 b2 t fk).1 = (rLaw b1 t (0, 0)).1 ∧ RPs b2 t fk (pT3 b2 t fk) (rLaw b1 t (0, 0)).2 := by
  have s0 : RPs b2 t fk (sAt b2 t 0 fk) (0, 0) := ⟨Nat.zero_le t, Or.inl ⟨rfl, rfl⟩⟩
  have s1 := (sg_ok h ht s0).2.2
  have s1 : RPs b2 t fk (pT1 b2 t fk) (tSg b1 t 119 (0, 0)) := s1
  have s2 := fig_ok (mo := 36) h ht s1
  have s2' : (pT2 b2 t fk).1 = (tNm b1 t 36 (tSg b1 t 119 (0, 0))).1 ∧ RPs b2 t fk (pT2 b2 t fk).2 (tNm b1 t 36 (tSg b1 t 119 (0, 0))).2 := s2
  have s3 := (sg_ok h ht s2'.2).2.1
  unfold rLaw
  exact ⟨s2'.1, s3⟩
theorem DR_0 {dr kd dd nt lf : Nat → Int32} : DR ln 0 kd dd nt lf (upd (zer dr 28) 1 ln) := by
  refine ⟨?_, pk_us, ?_, ?_, fun r hr => absurd hr (Nat.not_lt_zero r), fun r _ hr => ?_⟩
  · rw [pk_un (by omega)]; exact zer_at (by omega)
  · rw [pk_un (by omega)]; exact zer_at (by omega)
  · rw [pk_un (by omega)]; exact zer_at (by omega)
  · rw [pk_un (by omega)]; exact zer_at (by omega)
theorem nm1 {s : Nat} (h : s ≤ 120) : ¬ nI s = -1 := fun e => by
  have := nI_pos (n := s) (by omega)
  rw [e] at this
  exact this (by decide)
theorem LM_7 (h : BB t b1 b2) (ht : t ≤ 120) {z0 : Nat × Int32} {σ : PS} {v v' : Int32} {dr kd dd nt lf : Nat → Int32} (hv : v' = v) (q : RPs b2 t fk σ z0) : LM b1 b2 t fk v 7 (rI b1 t z0 kd dd nt lf 7) (pL b2 t (σ, upd (zer dr 28) 1 v') 7) := by
  subst hv
  refine LM_k h ht ?_ 7
  obtain ⟨q1, q2⟩ := q
  rcases q2 with ⟨q2, q3⟩ | ⟨q2, q3, q4⟩
  · exact Or.inl ⟨Nat.zero_le 6, q2, q1, q3, rfl, DR_0⟩
  · exact Or.inr (Or.inr (Or.inl ⟨q2, q1, q3, q4⟩))
theorem e_town (h : BB t b1 b2) (ht : t ≤ 120) {y : TS} {nw dr : Nat → Int32} (hy : TRl y nw) {u w : Nat} {gs : Nat → TS} {pa : Nat → Int32} (hA : RAx u w gs pa) {dkd ddd dnt dlf : Nat → Int32} : (x_town (nI u) t b1 fk y dkd ddd dnt dlf).1 = (m_town b2 t fk (nI u) dr nw).1 ∧ (x_town (nI u) t b1 fk y dkd ddd dnt dlf).2.2.2.2.1 = (m_town b2 t fk (nI u) dr nw).2.1.2.2.2.2.1 ∧ TRl (x_town (nI u) t b1 fk y dkd ddd dnt dlf).2.2.1 (m_town b2 t fk (nI u) dr nw).2.2.2.1 ∧ RAc (x_town (nI u) t b1 fk y dkd ddd dnt dlf).2.1 (nI w) gs (m_town b2 t fk (nI u) dr nw).2.2.2.2 pa := by

  have hc0 : RAc (nI u) (nI w) gs (nI u) pa := ⟨u, w, rfl, rfl, rfl, hA⟩
  obtain ⟨l1, l2⟩ := law_ok (fk := fk) h ht
  have hL : LM b1 b2 t fk (rLaw b1 t (0, 0)).1 7 (rI b1 t (rLaw b1 t (0, 0)).2 dkd ddd dnt dlf 7) (pT4 b2 t fk dr) := by
    unfold pT4
    exact LM_7 h ht l1 l2
  unfold x_town x_into m_town
  generalize rI b1 t (rLaw b1 t (0, 0)).2 dkd ddd dnt dlf 7 = X at hL ⊢
  generalize pT4 b2 t fk dr = S at hL ⊢
  generalize (rLaw b1 t (0, 0)).1 = ln at hL ⊢
  rcases hL with ⟨a1, -⟩ | ⟨a1, a2, a3, a4, a5⟩ | ⟨a1, a2, a3, a4⟩ | ⟨a1, a2, a3, a4⟩
  · exact absurd a1 (by omega)
  · have e5 : pT5 b2 t S.1 = S.1 := by
      unfold pT5
      rw [a3, if_pos (well_s t), if_pos (show (sAt b2 t t fk).2.2.1 = 0 from (ad_end (Nat.lt_irrefl t)).1)]
    rw [if_pos a1, e5, a3, if_pos (well_s t), if_pos rfl]
    obtain ⟨d0, d1, d2, d3, d4, d5⟩ := a5
    have c3 : ∀ i, i < 28 → cpy (upd S.2 0 1) 0 nw 0 28 i = upd S.2 0 1 i := fun i hi => by rw [cpy_at, if_pos (by omega)]; congr 1; omega
    refine ⟨?_, rfl, ?_, ?_⟩
    · show nI X.2.1 = cpy (upd S.2 0 1) 0 nw 0 28 3
      rw [c3 3 (by omega), pk_un (by omega)]; exact d3.symm
    · show TRl (1, 0, ln, nI X.2.1, cp6 X.2.2.1 y.2.2.2.2.1 6, cp6 X.2.2.2.1 y.2.2.2.2.2.1 6, cp6 X.2.2.2.2.1 y.2.2.2.2.2.2.1 6, cp6 X.2.2.2.2.2 y.2.2.2.2.2.2.2 6) (cpy (upd S.2 0 1) 0 nw 0 28)
      have hT : TRl (1, 0, ln, nI X.2.1, X.2.2.1, X.2.2.2.1, X.2.2.2.2.1, X.2.2.2.2.2) (upd S.2 0 1) := by
        refine ⟨X.2.1, rfl, Or.inr rfl, pk_us.symm, by rw [pk_un (by omega)]; exact d1.symm, by rw [pk_un (by omega)]; exact d2.symm, ⟨0, by omega, rfl⟩, ⟨a4, by rw [pk_un (by omega)]; exact d3, fun r hr => ?_⟩, fun r hr => ?_⟩
        · rw [pk_un (by omega)]
          by_cases hrn : r < X.2.1
          · obtain ⟨g1, g2, g3, g4, g5, g6, g7, g8⟩ := d4 r hrn
            rw [← g7]; exact g8
          · exact ⟨0, by omega, d5 r (by omega) hr⟩
        · have := d4 r hr
          unfold RRd at this ⊢
          rw [pk_un (by omega), pk_un (by omega), pk_un (by omega), pk_un (by omega)]
          exact this
      exact (hT.kp (y := y)).congr (fun i hi => c3 i hi)
    · exact ⟨0, w, rfl, rfl, rfl, Nat.zero_le _, hA.2.1, fun j hj => absurd hj (Nat.not_lt_zero j), hA.2.2.2⟩
  · have hnw : ¬ pWell S.1 := by show ¬ S.1.2.2.2.2.2 < 0; rw [a4]; exact nI_pos (by omega)
    have e5 : pT5 b2 t S.1 = S.1 := by unfold pT5; rw [if_neg hnw]
    rw [if_neg a1, e5, if_neg hnw, if_neg (show ¬ (nI X.1.1, X.1.2, (0 : Int32), ln, X).1 = -1 from nm1 (by omega))]
    refine ⟨?_, a3.symm, hy, hc0⟩
    show (-1000100) - nI X.1.1 = (-1000100) - S.1.2.2.2.2.2
    rw [a4]
  · have hne : ¬ X.1.2 = 0 := by rw [a1]; decide
    have hT0 : ¬ (sAt b2 t X.1.1 fk).2.2.1 = 0 := by
      show ¬ adT b2 t X.1.1 = 0
      rw [adT_e, B_in h a2]
      by_cases hd : digb (b1 X.1.1)
      · rw [if_pos hd]; split <;> decide
      · rw [if_neg hd]; exact (tok_c (h _ a2).2).2.2.2.1
    have e5 : pT5 b2 t S.1 = (X.1.1, adA b2 t X.1.1, adT b2 t X.1.1, adV b2 t X.1.1, 1, nI X.1.1) := by
      unfold pT5
      rw [a4, if_pos (well_s _), if_neg hT0]
      unfold pTake
      rw [if_neg (not_not_intro (show (sAt b2 t X.1.1 fk).2.2.2.2.2 < 0 from well_s _)), if_pos rfl]; rfl
    have hnw : ¬ pWell (X.1.1, adA b2 t X.1.1, adT b2 t X.1.1, adV b2 t X.1.1, (1 : Int32), nI X.1.1) := nI_pos (by omega)
    rw [if_neg hne, e5, if_neg hnw, if_neg (show ¬ (nI X.1.1, X.1.2, (0 : Int32), ln, X).1 = -1 from nm1 (by omega))]
    exact ⟨rfl, a1, hy, hc0⟩
end PW
