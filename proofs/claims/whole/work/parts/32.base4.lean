/-! BASE 4: arrays of towns -/
abbrev TS : Type := Int32 × Int32 × Int32 × Int32 × (Nat → Int32) × (Nat → Int32) × (Nat → Int32) × (Nat → Int32)
abbrev wTn (cI : ClassId) (a : Nat → Nat) (x : TS) : va_W := wTown cI a x.1 x.2.1 x.2.2.1 x.2.2.2.1 x.2.2.2.2.1 x.2.2.2.2.2.1 x.2.2.2.2.2.2.1 x.2.2.2.2.2.2.2
def wTs (cI : ClassId) (n : Nat) (ga : Nat → Nat → Nat) (gs : Nat → TS) : va_W := (List.range n).flatMap (fun k => wTn cI (ga k) (gs k))
abbrev wAr (cT : ClassId) (n a : Nat) (ga : Nat → Nat → Nat) : va_W := [(a, .inl (cT, n, .inr (.inr (.inr (.inr (fun k => some (ga k 0)))))))]
theorem wTs_mem {cI : ClassId} {n : Nat} {ga : Nat → Nat → Nat} {gs : Nat → TS} {q : Nat × va_E} : q ∈ wTs cI n ga gs ↔ ∃ k, k < n ∧ q ∈ wTn cI (ga k) (gs k) := by
  unfold wTs
  rw [List.mem_flatMap]
  constructor
  · rintro ⟨k, h1, h2⟩; exact ⟨k, List.mem_range.mp h1, h2⟩
  · rintro ⟨k, h1, h2⟩; exact ⟨k, List.mem_range.mpr h1, h2⟩
theorem wTs_fst {cI : ClassId} {n : Nat} {ga : Nat → Nat → Nat} {gs hs : Nat → TS} : (wTs cI n ga gs).map Prod.fst = (wTs cI n ga hs).map Prod.fst := by
  unfold wTs
  rw [List.map_flatMap, List.map_flatMap]
  rfl
theorem va_P.memb {D : va_G} {cl : List vw_C} {ws wc : va_W} {H : Heap} (h : va_P D cl ws H) (hs : ∀ q ∈ wc, q ∈ ws) : va_P D cl wc H := by
  intro k q hk
  obtain ⟨i, hi⟩ := List.getElem?_of_mem (hs q (List.mem_of_getElem? hk))
  exact h i q hi
theorem va_D.nd {A : Nat → Prop} {ws : va_W} (h : va_D A ws) : (ws.map Prod.fst).Nodup := by
  rw [List.Nodup, List.pairwise_map, List.pairwise_iff_getElem]
  intro i j hi hj hij e
  exact absurd (h.1 i j _ _ (List.getElem?_eq_getElem hi) (List.getElem?_eq_getElem hj) e) (by omega)
theorem va_D.of_nd {A : Nat → Prop} {ws : va_W} (h : (ws.map Prod.fst).Nodup) (hA : ∀ q ∈ ws, A q.1) : va_D A ws := by
  refine ⟨fun i j x y hi hj e => ?_, fun k q hk => hA q (List.mem_of_getElem? hk)⟩
  obtain ⟨hi1, hi2⟩ := List.getElem?_eq_some_iff.mp hi
  obtain ⟨hj1, hj2⟩ := List.getElem?_eq_some_iff.mp hj
  rw [List.Nodup, List.pairwise_map, List.pairwise_iff_getElem] at h
  rcases Nat.lt_trichotomy i j with g | g | g
  · exact absurd (by rw [hi2, hj2]; exact e) (h i j hi1 hj1 g)
  · exact g
  · exact absurd (by rw [hi2, hj2]; exact e.symm) (h j i hj1 hi1 g)
theorem wTn_sub {cI : ClassId} {n i : Nat} {ga : Nat → Nat → Nat} {gs : Nat → TS} (h : i < n) : (wTn cI (ga i) (gs i)).Sublist (wTs cI n ga gs) := by
  unfold wTs
  exact List.sublist_flatten_of_mem (List.mem_map.mpr ⟨i, List.mem_range.mpr h, rfl⟩)
/-- in one array of towns two towns are apart -/
theorem wTs_apart {A : Nat → Prop} {cI : ClassId} {n i k : Nat} {X : va_W} {ga : Nat → Nat → Nat} {gs : Nat → TS} (hD : va_D A (X ++ wTs cI n ga gs)) (hi : i < n) (hk : k < n) (hne : k ≠ i) {q q' : Nat × va_E} (hq : q ∈ wTn cI (ga k) (gs k)) (hq' : q' ∈ wTn cI (ga i) (gs i)) : q'.1 ≠ q.1 := by
  have h := hD.nd
  rw [List.map_append] at h
  have h2 := (List.nodup_append.mp h).2.1
  unfold wTs at h2
  rw [List.map_flatMap, List.Nodup, List.pairwise_flatMap] at h2
  have h3 := h2.2
  rw [List.pairwise_iff_getElem] at h3
  rcases Nat.lt_or_gt_of_ne hne with g | g
  · have := h3 k i (by simpa using hk) (by simpa using hi) g
    rw [List.getElem_range, List.getElem_range] at this
    exact (this q.1 (List.mem_map.mpr ⟨q, hq, rfl⟩) q'.1 (List.mem_map.mpr ⟨q', hq', rfl⟩)).symm
  · have := h3 i k (by simpa using hi) (by simpa using hk) g
    rw [List.getElem_range, List.getElem_range] at this
    exact this q'.1 (List.mem_map.mpr ⟨q', hq', rfl⟩) q.1 (List.mem_map.mpr ⟨q, hq, rfl⟩)
/-- what lies ahead of an array's towns is apart from them -/
theorem wX_apart {A : Nat → Prop} {X T : va_W} (hD : va_D A (X ++ T)) {q q' : Nat × va_E} (hq : q ∈ X) (hq' : q' ∈ T) : q'.1 ≠ q.1 := by
  have h := hD.nd
  rw [List.map_append] at h
  exact fun e => (List.nodup_append.mp h).2.2 q.1 (List.mem_map.mpr ⟨q, hq, rfl⟩) q'.1 (List.mem_map.mpr ⟨q', hq', rfl⟩) e.symm
section BASE4
variable {p : Program} {l : Launch} {e : Env} {R : Room} {s : State} {m : MethodId} {args : Array Value} {below : List Frame} {meth : Method} {c : Code} {H : Heap} {locs : List Loc} {cells slots : Nat} {Q : State → Prop}
variable {cc : ByteArray} {pc : Nat} {ls : Array Slot} {rest st0 : List Value} {D : va_G} {cI cZ cT : ClassId} {A : Nat → Prop} {a b : Nat} {ws wc : va_W} {H0 : Heap} {As : List Value}
/-- a call of one that writes, told by membership -/
theorem b_callX {v : Option Value} {wc' Wn : va_W} {aa : Array Value} (hr : CallRun p l e R s m args below meth c H locs cells slots 0 0 (F0 m pc ls st0) rest (qM D v wc' (adr wc) aa) (adr wc)) (hP : va_P D vwCl ws H) (hD : va_D A ws) (hS : va_S A H0 H locs) (hsub : ∀ q ∈ wc, q ∈ ws) (hnew : ∀ q ∈ Wn, q ∈ wc' ∨ (q ∈ ws ∧ ∀ q' ∈ wc, q'.1 ≠ q.1))
    (kk : ∀ (H1 : Heap) (locs1 : List Loc), va_P D vwCl Wn H1 → va_S A H0 H1 locs1 → W p l e R s m args below meth c H1 locs1 cells slots Q (F0 m (pc + 3) ls (v.toList ++ rest))) : W p l e R s m args below meth c H locs cells slots Q (F0 m pc ls st0) := by
  intro T hT X
  obtain ⟨v', st₀, t, T', L, h0, X', hL, e1, ⟨hv, hp, hz, hk⟩, st⟩ := hr T hT X
  cases hv
  rw [h0] at hz hk
  have hF : ∀ q, adr wc q → A q := by
    intro q ⟨k, e, h⟩
    obtain ⟨i, hi⟩ := List.getElem?_of_mem (hsub _ (List.mem_of_getElem? h))
    exact hD.2 i (q, e) hi
  have hPn : va_P D vwCl Wn t.heap := by
    intro k q hq
    rcases hnew q (List.mem_of_getElem? hq) with h | ⟨h1, h2⟩
    · obtain ⟨i, hi⟩ := List.getElem?_of_mem h
      exact hp i q hi
    · obtain ⟨i, hi⟩ := List.getElem?_of_mem h1
      refine (hP i q hi).kept (hk q.1 (hP i q hi).lt (fun h => ?_))
      obtain ⟨k2, e, h3⟩ := h
      exact h2 _ (List.mem_of_getElem? h3) rfl
  obtain ⟨t2, a1, b1⟩ := kk t.heap (locs ++ L) hPn ⟨Nat.le_trans hS.1 hz, fun q h1 h2 => by rw [hk q (Nat.lt_of_lt_of_le h1 hS.1) (fun z => h2 (hF q z))]; exact hS.2.1 q h1 h2, fun q hq => by
      rcases List.mem_append.mp hq with h | h
      · exact hS.2.2 q h
      · exact hF _ (hL q h)⟩ T' e1 X'
  exact ⟨t2, st t2 a1, b1⟩
/-- a call of one that writes and that has the whole tail -/
theorem b_callMt {v : Option Value} {X cx cx' T T' : va_W} {aa : Array Value} (is : List Nat) (hr : CallRun p l e R s m args below meth c H locs cells slots 0 0 (F0 m pc ls st0) rest (qM D v (cx' ++ T') (adr (cx ++ T)) aa) (adr (cx ++ T))) (hP : va_P D vwCl (X ++ T) H) (hD : va_D A (X ++ T)) (hS : va_S A H0 H locs) (hC : is.map (fun i => X[i]?) = cx.map some) (hl : is.length ≤ cx'.length) (hT : T'.map Prod.fst = T.map Prod.fst) (hX : (wset X is cx').map Prod.fst = X.map Prod.fst)
    (kk : ∀ (H1 : Heap) (locs1 : List Loc), va_P D vwCl (wset X is cx' ++ T') H1 → va_D A (wset X is cx' ++ T') → va_S A H0 H1 locs1 → W p l e R s m args below meth c H1 locs1 cells slots Q (F0 m (pc + 3) ls (v.toList ++ rest))) : W p l e R s m args below meth c H locs cells slots Q (F0 m pc ls st0) := by
  have hin : ∀ q ∈ cx, ∃ i ∈ is, X[i]? = some q := by
    intro q hq
    have h1 : some q ∈ is.map (fun i => X[i]?) := by rw [hC]; exact List.mem_map.mpr ⟨q, hq, rfl⟩
    obtain ⟨i, h2, h3⟩ := List.mem_map.mp h1
    exact ⟨i, h2, h3⟩
  refine b_callX hr hP hD hS ?_ ?_ (fun H1 l1 h1 h2 => kk H1 l1 h1 (hD.same (by rw [List.map_append, List.map_append, hT, hX])) h2)
  · intro q hq
    rcases List.mem_append.mp hq with h | h
    · obtain ⟨i, -, h3⟩ := hin q h
      exact List.mem_append_left _ (List.mem_of_getElem? h3)
    · exact List.mem_append_right _ h
  · intro q hq
    rcases List.mem_append.mp hq with h | h
    · obtain ⟨k, hk⟩ := List.getElem?_of_mem h
      rcases wset_at is X cx' hl k q hk with ⟨h1, h2⟩ | ⟨j, h2⟩
      · right
        refine ⟨List.mem_append_left _ (List.mem_of_getElem? h2), fun q' hq' => ?_⟩
        rcases List.mem_append.mp hq' with g | g
        · obtain ⟨i, hi, h3⟩ := hin q' g
          intro e
          have hlx : ∀ {j : Nat} {y : Nat × va_E}, X[j]? = some y → (X ++ T)[j]? = some y := fun {j y} hy => by rw [List.getElem?_append_left (List.getElem?_eq_some_iff.mp hy).1]; exact hy
          have h5 := hD.1 i k q' q (hlx h3) (hlx h2) e
          subst h5
          exact h1 hi
        · exact wX_apart hD (List.mem_of_getElem? h2) g
      · left; exact List.mem_append_left _ (List.mem_of_getElem? h2)
    · left; exact List.mem_append_right _ h
theorem b_pVMt {X cx T : va_W} (hK : KX D cI cZ cT s) (hP : va_P D vwCl (X ++ T) H) (hD : va_D A (X ++ T)) (is : List Nat) (hn : va_nd is = true) (hs : is.filterMap (fun i => X[i]?) = cx) (hC : is.map (fun i => X[i]?) = cx.map some) (q0 : Nat) {ci : Nat} {r : vw_C} {fs : List Value} (he : X[q0]? = some (b, .inr (ci, fs))) (hc : vwCl[ci]? = some r) : PreV s H r.1 b (pM D cI cZ cT (.ref b :: As) (cx ++ T)) As := by
  have hX : va_P D vwCl X H := hP.memb (fun q h => List.mem_append_left _ h)
  have hTP : va_P D vwCl T H := hP.memb (fun q h => List.mem_append_right _ h)
  have hDX : va_D A X := ⟨fun i j x y hi hj e => hD.1 i j x y (by rw [List.getElem?_append_left (List.getElem?_eq_some_iff.mp hi).1]; exact hi) (by rw [List.getElem?_append_left (List.getElem?_eq_some_iff.mp hj).1]; exact hj) e, fun k q hk => hD.2 k q (by rw [List.getElem?_append_left (List.getElem?_eq_some_iff.mp hk).1]; exact hk)⟩
  have hcx : va_D A cx := hDX.sub is hn hC
  have hmem : ∀ q ∈ cx, q ∈ X := by
    intro q hq
    rw [← hs] at hq
    obtain ⟨i, -, h3⟩ := List.mem_filterMap.mp hq
    exact List.mem_of_getElem? h3
  have hDn : va_D (fun _ => True) (cx ++ T) := by
    refine va_D.of_nd ?_ (fun _ _ => trivial)
    rw [List.map_append, List.nodup_append]
    refine ⟨hcx.nd, ?_, ?_⟩
    · have h := hD.nd; rw [List.map_append] at h; exact (List.nodup_append.mp h).2.1
    · intro x hx y hy
      obtain ⟨q, h1, rfl⟩ := List.mem_map.mp hx
      obtain ⟨q', h2, rfl⟩ := List.mem_map.mp hy
      exact (wX_apart hD (hmem q h1) h2).symm
  have hPn : va_P D vwCl (cx ++ T) H := hP.memb (fun q h => by
    rcases List.mem_append.mp h with g | g
    · exact List.mem_append_left _ (hmem q g)
    · exact List.mem_append_right _ g)
  exact ⟨fun _ _ _ _ q => ⟨q.1, q.2.1, q.2.2.1, q.2.2.2.blind⟩, va_recv hK.1 hX hc he, fun U hU hW => ⟨rfl, by rw [hU]; exact hPn, hDn, hK.warm hW⟩⟩
theorem b_aald (hexec : p.tables.exec = Jvm.exec) (hb : c.code = cc) (hK : KX D cI cZ cT s) (hP : va_P D vwCl ws H) (q0 : Nat) {n k : Nat} {ga : Nat → Nat → Nat} (ha : ws[q0]? = some (a, .inl (cT, n, .inr (.inr (.inr (.inr (fun k => some (ga k 0)))))))) (hk : k < n) (hn : n < 2147483648) (hdg : decode cc pc = .ok (.aaload, 1))
    (kk : W p l e R s m args below meth c H locs cells slots Q (F0 m (pc + 1) ls (.ref (ga k 0) :: rest))) : W p l e R s m args below meth c H locs cells slots Q (F0 m pc ls (.int (nI k) :: .ref a :: rest)) :=
  va_aldq hexec hb hK.1 hP q0 2 ha rfl (vp_in_nI hk hn) hdg (by rw [nI_clamp (Nat.lt_trans hk hn)]; exact kk)
/-- two towns, one of an array's and one ahead of it, for a call -/
theorem r_two {X : va_W} {n i : Nat} {ga : Nat → Nat → Nat} {gs : Nat → TS} {ta : Nat → Nat} {y : TS} (hP : va_P D vwCl (X ++ wTs cI n ga gs) H) (hD : va_D A (X ++ wTs cI n ga gs)) (hi : i < n) (hX : (wTn cI ta y).Sublist X) : va_P D vwCl (wTn cI (ga i) (gs i) ++ wTn cI ta y) H ∧ va_P D vwCl (wTn cI ta y ++ wTn cI (ga i) (gs i)) H ∧ va_D (fun _ => True) (wTn cI (ga i) (gs i) ++ wTn cI ta y) ∧ va_D (fun _ => True) (wTn cI ta y ++ wTn cI (ga i) (gs i)) := by
  have h1 : ∀ q ∈ wTn cI (ga i) (gs i), q ∈ X ++ wTs cI n ga gs := fun q h => List.mem_append_right _ ((wTn_sub hi).subset h)
  have h2 : ∀ q ∈ wTn cI ta y, q ∈ X ++ wTs cI n ga gs := fun q h => List.mem_append_left _ (hX.subset h)
  have hs : (wTn cI ta y ++ wTn cI (ga i) (gs i)).Sublist (X ++ wTs cI n ga gs) := List.Sublist.append hX (wTn_sub hi)
  have hnd : ((wTn cI ta y ++ wTn cI (ga i) (gs i)).map Prod.fst).Nodup := List.Nodup.sublist (hs.map Prod.fst) hD.nd
  refine ⟨hP.memb (fun q h => ?_), hP.memb (fun q h => ?_), va_D.of_nd ?_ (fun _ _ => trivial), va_D.of_nd hnd (fun _ _ => trivial)⟩
  · rcases List.mem_append.mp h with g | g
    · exact h1 q g
    · exact h2 q g
  · rcases List.mem_append.mp h with g | g
    · exact h2 q g
    · exact h1 q g
  · rw [List.map_append] at hnd ⊢
    exact (List.perm_append_comm.nodup_iff).mp hnd
theorem r_pre {n i : Nat} {ga : Nat → Nat → Nat} {x y : TS} {a1 a2 : Nat → Nat} (hK : KX D cI cZ cT s) (h : va_P D vwCl (wTn cI a1 x ++ wTn cI a2 y) H) (h2 : va_D (fun _ => True) (wTn cI a1 x ++ wTn cI a2 y)) : PreV s H RX8 (a1 0) (pM D cI cZ cT [.ref (a1 0), .ref (a2 0)] (wTn cI a1 x ++ wTn cI a2 y)) [.ref (a2 0)] :=
  ⟨fun _ _ _ _ q => ⟨q.1, q.2.1, q.2.2.1, q.2.2.2.blind⟩, va_recv (ci := 7) (q0 := 0) hK.1 h rfl rfl, fun U hU hW => ⟨rfl, by rw [hU]; exact h, h2, hK.warm hW⟩⟩
/-- the array's town i becomes x' -/
theorem b_ring1 {X : va_W} {n i : Nat} {ga : Nat → Nat → Nat} {gs : Nat → TS} {ta : Nat → Nat} {x' y : TS} {aa : Array Value} (hr : CallRun p l e R s m args below meth c H locs cells slots 0 0 (F0 m pc ls st0) rest (qM D none (wTn cI (ga i) x' ++ wTn cI ta y) (adr (wTn cI (ga i) (gs i) ++ wTn cI ta y)) aa) (adr (wTn cI (ga i) (gs i) ++ wTn cI ta y))) (hP : va_P D vwCl (X ++ wTs cI n ga gs) H) (hD : va_D A (X ++ wTs cI n ga gs)) (hS : va_S A H0 H locs) (hi : i < n) (hX : (wTn cI ta y).Sublist X)
    (kk : ∀ (H1 : Heap) (locs1 : List Loc), va_P D vwCl (X ++ wTs cI n ga (va_up gs i x')) H1 → va_D A (X ++ wTs cI n ga (va_up gs i x')) → va_S A H0 H1 locs1 → W p l e R s m args below meth c H1 locs1 cells slots Q (F0 m (pc + 3) ls rest)) : W p l e R s m args below meth c H locs cells slots Q (F0 m pc ls st0) := by
  refine b_callX (Wn := X ++ wTs cI n ga (va_up gs i x')) hr hP hD hS ?_ ?_ (fun H1 l1 h1 h2 => kk H1 l1 h1 (hD.same (by rw [List.map_append, List.map_append, wTs_fst])) h2)
  · intro q h
    rcases List.mem_append.mp h with g | g
    · exact List.mem_append_right _ ((wTn_sub hi).subset g)
    · exact List.mem_append_left _ (hX.subset g)
  · intro q h
    rcases List.mem_append.mp h with g | g
    · by_cases hq : q ∈ wTn cI ta y
      · left; exact List.mem_append_right _ hq
      · right
        refine ⟨List.mem_append_left _ g, fun q' hq' => ?_⟩
        rcases List.mem_append.mp hq' with z | z
        · exact wX_apart hD g ((wTn_sub hi).subset z)
        · intro e
          have hz := hX.subset z
          obtain ⟨k1, e1⟩ := List.getElem?_of_mem hz
          obtain ⟨k2, e2⟩ := List.getElem?_of_mem g
          have hlx : ∀ {j : Nat} {y : Nat × va_E}, X[j]? = some y → (X ++ wTs cI n ga gs)[j]? = some y := fun {j y} hy => by rw [List.getElem?_append_left (List.getElem?_eq_some_iff.mp hy).1]; exact hy
          have := hD.1 k1 k2 q' q (hlx e1) (hlx e2) e
          subst this
          rw [e1] at e2
          rw [Option.some.inj e2] at z
          exact hq z
    · obtain ⟨k, hk, hq⟩ := wTs_mem.mp g
      by_cases hki : k = i
      · subst hki
        left
        refine List.mem_append_left _ ?_
        have : va_up gs k x' k = x' := by unfold va_up; rw [if_pos rfl]
        rw [this] at hq; exact hq
      · right
        have : va_up gs i x' k = gs k := by unfold va_up; rw [if_neg hki]
        rw [this] at hq
        refine ⟨List.mem_append_right _ (wTs_mem.mpr ⟨k, hk, hq⟩), fun q' hq' => ?_⟩
        rcases List.mem_append.mp hq' with z | z
        · exact wTs_apart hD hi hk hki hq z
        · exact (wX_apart hD (hX.subset z) (wTs_mem.mpr ⟨k, hk, hq⟩)).symm
/-- the town ahead of the array becomes y', by the array's town i -/
theorem b_ring2 {X1 X2 : va_W} {n i : Nat} {ga : Nat → Nat → Nat} {gs : Nat → TS} {ta : Nat → Nat} {y y' : TS} {aa : Array Value} (hr : CallRun p l e R s m args below meth c H locs cells slots 0 0 (F0 m pc ls st0) rest (qM D none (wTn cI ta y' ++ wTn cI (ga i) (gs i)) (adr (wTn cI ta y ++ wTn cI (ga i) (gs i))) aa) (adr (wTn cI ta y ++ wTn cI (ga i) (gs i)))) (hP : va_P D vwCl (X1 ++ wTn cI ta y ++ X2 ++ wTs cI n ga gs) H) (hD : va_D A (X1 ++ wTn cI ta y ++ X2 ++ wTs cI n ga gs)) (hS : va_S A H0 H locs) (hi : i < n)
    (kk : ∀ (H1 : Heap) (locs1 : List Loc), va_P D vwCl (X1 ++ wTn cI ta y' ++ X2 ++ wTs cI n ga gs) H1 → va_D A (X1 ++ wTn cI ta y' ++ X2 ++ wTs cI n ga gs) → va_S A H0 H1 locs1 → W p l e R s m args below meth c H1 locs1 cells slots Q (F0 m (pc + 3) ls rest)) : W p l e R s m args below meth c H locs cells slots Q (F0 m pc ls st0) := by
  have hsX : (wTn cI ta y).Sublist (X1 ++ wTn cI ta y ++ X2) := (List.sublist_append_right _ _).trans (List.sublist_append_left _ _)
  have hnd := hD.nd
  rw [List.map_append, List.map_append, List.map_append] at hnd
  have n1 := List.nodup_append.mp hnd
  have n2 := List.nodup_append.mp n1.1
  have n3 := List.nodup_append.mp n2.1
  refine b_callX (Wn := X1 ++ wTn cI ta y' ++ X2 ++ wTs cI n ga gs) hr hP hD hS ?_ ?_ (fun H1 l1 h1 h2 => kk H1 l1 h1 (hD.same (by rw [List.map_append, List.map_append, List.map_append, List.map_append, List.map_append, List.map_append]; rfl)) h2)
  · intro q h
    rcases List.mem_append.mp h with g | g
    · exact List.mem_append_left _ (hsX.subset g)
    · exact List.mem_append_right _ ((wTn_sub hi).subset g)
  · intro q h
    have mT : ∀ {q : Nat × va_E}, q ∈ wTn cI ta y → q.1 ∈ (wTn cI ta y).map Prod.fst := fun h => List.mem_map.mpr ⟨_, h, rfl⟩
    rcases List.mem_append.mp h with g | g
    · rcases List.mem_append.mp g with g1 | g1
      · rcases List.mem_append.mp g1 with g2 | g2
        · right
          have hqX : q ∈ X1 ++ wTn cI ta y ++ X2 := List.mem_append_left _ (List.mem_append_left _ g2)
          refine ⟨List.mem_append_left _ hqX, fun q' hq' => ?_⟩
          rcases List.mem_append.mp hq' with z | z
          · exact fun e => n3.2.2 q.1 (List.mem_map.mpr ⟨q, g2, rfl⟩) q'.1 (mT z) e.symm
          · exact wX_apart hD hqX ((wTn_sub hi).subset z)
        · left; exact List.mem_append_left _ g2
      · right
        have hqX : q ∈ X1 ++ wTn cI ta y ++ X2 := List.mem_append_right _ g1
        refine ⟨List.mem_append_left _ hqX, fun q' hq' => ?_⟩
        rcases List.mem_append.mp hq' with z | z
        · exact n2.2.2 q'.1 (List.mem_append_right _ (mT z)) q.1 (List.mem_map.mpr ⟨q, g1, rfl⟩)
        · exact wX_apart hD hqX ((wTn_sub hi).subset z)
    · obtain ⟨k, hk, hq⟩ := wTs_mem.mp g
      by_cases hki : k = i
      · subst hki; left; exact List.mem_append_right _ hq
      · right
        refine ⟨List.mem_append_right _ g, fun q' hq' => ?_⟩
        rcases List.mem_append.mp hq' with z | z
        · exact (wX_apart hD (hsX.subset z) g).symm
        · exact wTs_apart hD hi hk hki hq z
end BASE4
