/-! BASE 5: contracts over the whole world -/
theorem adr_mem {ws : va_W} {q : Nat} : adr ws q ↔ ∃ x ∈ ws, x.1 = q := by
  constructor
  · rintro ⟨k, e, h⟩; exact ⟨_, List.mem_of_getElem? h, rfl⟩
  · rintro ⟨x, h, rfl⟩
    obtain ⟨k, hk⟩ := List.getElem?_of_mem h
    exact ⟨k, x.2, hk⟩
section BASE5
variable {l : Launch} {y : MethodName} {Ts : List Cond} {rm : Room} {D : va_G} {cI cZ cT : ClassId} {av : List Value} {v : Option Value} {wc wc' W W' : va_W}
theorem fr_M (h : Met l y Ts rm (pM D cI cZ cT av wc) (qM D v wc' (adr wc)) 0 0 (adr wc)) (hsub : ∀ q ∈ wc, q ∈ W) (hnd : va_D (fun _ => True) W → va_D (fun _ => True) wc) (hnew : va_D (fun _ => True) W → ∀ q ∈ W', q ∈ wc' ∨ (q ∈ W ∧ ∀ q' ∈ wc, q'.1 ≠ q.1)) : Met l y Ts rm (pM D cI cZ cT av W) (qM D v W' (adr W)) 0 0 (adr W) := by
  have hA : ∀ q, adr wc q → adr W q := fun q h => by
    obtain ⟨x, h1, h2⟩ := adr_mem.mp h
    exact adr_mem.mpr ⟨x, hsub x h1, h2⟩
  refine Jvm.Free.MetFree.mono h ?_ (fun _ _ _ _ _ h => h) ?_
  · rintro a s ⟨h1, h2, h3, h4⟩
    exact ⟨h1, h2.memb hsub, hnd h3, h4⟩
  · rintro a s o t ⟨-, p2, p3, p4⟩ ⟨⟨q1, q2, q3, q4⟩, L, hL, hf⟩
    refine ⟨⟨q1, ?_, q3, fun q g1 g2 => q4 q g1 (fun z => g2 (hA q z))⟩, L, hL, fun q hq => hA _ (hf q hq)⟩
    intro k q hq
    rcases hnew p3 q (List.mem_of_getElem? hq) with h | ⟨h1, h2⟩
    · obtain ⟨i, hi⟩ := List.getElem?_of_mem h
      exact q2 i q hi
    · obtain ⟨i, hi⟩ := List.getElem?_of_mem h1
      refine (p2 i q hi).kept (q4 q.1 (p2 i q hi).lt (fun z => ?_))
      obtain ⟨x, h3, h4⟩ := adr_mem.mp z
      exact h2 x h3 h4
theorem fr_R {r : Int32} (h : Met l y Ts rm (pR D cI cZ cT av wc) (QcRead r) 0 0 (fun _ => False)) (hsub : ∀ q ∈ wc, q ∈ W) : Met l y Ts rm (pM D cI cZ cT av W) (qM D (some (.int r)) W (adr W)) 0 0 (adr W) := by
  refine Jvm.Free.MetFree.mono h ?_ (fun _ _ _ _ _ h => h) ?_
  · rintro a s ⟨h1, h2, h3, h4⟩
    exact ⟨h1, h2.memb hsub, h4⟩
  · rintro a s o t ⟨-, p2, p3, p4⟩ ⟨⟨q1, q2⟩, L, hL, hf⟩
    refine ⟨⟨q1, by rw [q2]; exact p2, ?_⟩, L, hL, fun q hq => (hf q hq).elim⟩
    exact ⟨by rw [q2]; exact Nat.le_refl _, fun q _ _ => by rw [q2]⟩
theorem sub_is {X T : va_W} (is : List Nat) (hC : is.map (fun i => X[i]?) = wc.map some) : ∀ q ∈ wc, ∃ i ∈ is, X[i]? = some q := by
  intro q hq
  have h1 : some q ∈ is.map (fun i => X[i]?) := by rw [hC]; exact List.mem_map.mpr ⟨q, hq, rfl⟩
  obtain ⟨i, h2, h3⟩ := List.mem_map.mp h1
  exact ⟨i, h2, h3⟩
theorem va_D.left {A : Nat → Prop} {X T : va_W} (h : va_D A (X ++ T)) : va_D A X :=
  ⟨fun i j x y hi hj e => h.1 i j x y (by rw [List.getElem?_append_left (List.getElem?_eq_some_iff.mp hi).1]; exact hi) (by rw [List.getElem?_append_left (List.getElem?_eq_some_iff.mp hj).1]; exact hj) e, fun k q hk => h.2 k q (by rw [List.getElem?_append_left (List.getElem?_eq_some_iff.mp hk).1]; exact hk)⟩
/-- at the places is: the callee's cells; then a tail T that it has too, then a tail U that it has not -/
theorem fr_G {X X' cx cx' T T' U : va_W} (is : List Nat) (h : Met l y Ts rm (pM D cI cZ cT av (cx ++ T)) (qM D v (cx' ++ T') (adr (cx ++ T))) 0 0 (adr (cx ++ T))) (hn : va_nd is = true) (hC : is.map (fun i => X[i]?) = cx.map some) (hl : is.length ≤ cx'.length) (hX : wset X is cx' = X') : Met l y Ts rm (pM D cI cZ cT av (X ++ T ++ U)) (qM D v (X' ++ T' ++ U) (adr (X ++ T ++ U))) 0 0 (adr (X ++ T ++ U)) := by
  subst hX
  have hin := sub_is (wc := cx) (X := X) (T := T) is hC
  have hmem : ∀ q ∈ cx, q ∈ X := fun q h => by obtain ⟨i, -, h3⟩ := hin q h; exact List.mem_of_getElem? h3
  refine fr_M h ?_ ?_ ?_
  · intro q hq
    rcases List.mem_append.mp hq with g | g
    · exact List.mem_append_left _ (List.mem_append_left _ (hmem q g))
    · exact List.mem_append_left _ (List.mem_append_right _ g)
  · intro hD
    refine va_D.of_nd ?_ (fun _ _ => trivial)
    have hDX := hD.left.left
    have hcx := hDX.sub is hn hC
    rw [List.map_append, List.nodup_append]
    refine ⟨hcx.nd, ?_, ?_⟩
    · have g := hD.left.nd; rw [List.map_append] at g; exact (List.nodup_append.mp g).2.1
    · intro a ha b hb
      obtain ⟨q, h1, rfl⟩ := List.mem_map.mp ha
      obtain ⟨q', h2, rfl⟩ := List.mem_map.mp hb
      exact (wX_apart hD.left (hmem q h1) h2).symm
  · intro hD q hq
    rcases List.mem_append.mp hq with g | g
    · rcases List.mem_append.mp g with g | g
      · obtain ⟨k, hk⟩ := List.getElem?_of_mem g
        rcases wset_at is X cx' hl k q hk with ⟨h1, h2⟩ | ⟨j, h2⟩
        · right
          refine ⟨List.mem_append_left _ (List.mem_append_left _ (List.mem_of_getElem? h2)), fun q' hq' => ?_⟩
          rcases List.mem_append.mp hq' with z | z
          · obtain ⟨i, hi, h3⟩ := hin q' z
            intro e
            have h5 := hD.left.left.1 i k q' q h3 h2 e
            subst h5
            exact h1 hi
          · exact wX_apart hD.left (List.mem_of_getElem? h2) z
        · left; exact List.mem_append_left _ (List.mem_of_getElem? h2)
      · left; exact List.mem_append_right _ g
    · right
      refine ⟨List.mem_append_right _ g, fun q' hq' => ?_⟩
      rcases List.mem_append.mp hq' with z | z
      · exact (wX_apart hD (List.mem_append_left _ (hmem q' z)) g).symm
      · exact (wX_apart hD (List.mem_append_right _ z) g).symm
theorem fr_0 {X X' U : va_W} (is : List Nat) (h : Met l y Ts rm (pM D cI cZ cT av wc) (qM D v wc' (adr wc)) 0 0 (adr wc)) (hn : va_nd is = true) (hC : is.map (fun i => X[i]?) = wc.map some) (hl : is.length ≤ wc'.length) (hX : wset X is wc' = X') : Met l y Ts rm (pM D cI cZ cT av (X ++ U)) (qM D v (X' ++ U) (adr (X ++ U))) 0 0 (adr (X ++ U)) := by
  have h2 : Met l y Ts rm (pM D cI cZ cT av (wc ++ [])) (qM D v (wc' ++ []) (adr (wc ++ []))) 0 0 (adr (wc ++ [])) := by rw [List.append_nil, List.append_nil]; exact h
  have h3 := fr_G (T := []) (T' := []) (U := U) is h2 hn hC hl hX
  rw [List.append_nil, List.append_nil] at h3
  exact h3
theorem fr_T {X X' cx cx' T T' : va_W} (is : List Nat) (h : Met l y Ts rm (pM D cI cZ cT av (cx ++ T)) (qM D v (cx' ++ T') (adr (cx ++ T))) 0 0 (adr (cx ++ T))) (hn : va_nd is = true) (hC : is.map (fun i => X[i]?) = cx.map some) (hl : is.length ≤ cx'.length) (hX : wset X is cx' = X') : Met l y Ts rm (pM D cI cZ cT av (X ++ T)) (qM D v (X' ++ T') (adr (X ++ T))) 0 0 (adr (X ++ T)) := by
  have h3 := fr_G (U := []) is h hn hC hl hX
  rw [List.append_nil, List.append_nil] at h3
  exact h3
theorem fr_r {X T : va_W} {r : Int32} (is : List Nat) (h : Met l y Ts rm (pR D cI cZ cT av wc) (QcRead r) 0 0 (fun _ => False)) (hC : is.map (fun i => X[i]?) = wc.map some) : Met l y Ts rm (pM D cI cZ cT av (X ++ T)) (qM D (some (.int r)) (X ++ T) (adr (X ++ T))) 0 0 (adr (X ++ T)) :=
  fr_R h (fun q hq => by obtain ⟨i, -, h3⟩ := sub_is (X := X) (T := T) is hC q hq; exact List.mem_append_left _ (List.mem_of_getElem? h3))
end BASE5
/-- the blocks at the places js become cs -/
def bset : List va_W → List Nat → List va_W → List va_W
  | B, j :: js, x :: cs => bset (B.set j x) js cs
  | B, _, _ => B
theorem bset_at : ∀ (js : List Nat) (B cs : List va_W), js.length ≤ cs.length → ∀ (k : Nat) (q : va_W), (bset B js cs)[k]? = some q → (k ∉ js ∧ B[k]? = some q) ∨ q ∈ cs
  | [], B, cs, _, k, q, h => Or.inl ⟨by simp, by cases cs <;> simpa [bset] using h⟩
  | j :: js, B, [], hl, k, q, h => by simp at hl
  | j :: js, B, x :: cs, hl, k, q, h => by
    have hl' : js.length ≤ cs.length := by simpa using hl
    rcases bset_at js (B.set j x) cs hl' k q (by simpa [bset] using h) with ⟨h1, h2⟩ | h2
    · by_cases hk : k = j
      · subst hk
        have hlt : k < (B.set k x).length := (List.getElem?_eq_some_iff.mp h2).1
        rw [List.getElem?_set_self (by simpa using hlt)] at h2
        exact Or.inr (by rw [Option.some.inj h2]; exact List.mem_cons_self)
      · rw [List.getElem?_set_ne (Ne.symm hk)] at h2
        exact Or.inl ⟨by simp [hk, h1], h2⟩
    · exact Or.inr (List.mem_cons_of_mem _ h2)
theorem bl_nd {B : List va_W} (h : (B.flatten.map Prod.fst).Nodup) : (∀ b ∈ B, (b.map Prod.fst).Nodup) ∧ ∀ (i j : Nat) (x y : va_W), i ≠ j → B[i]? = some x → B[j]? = some y → ∀ q ∈ x, ∀ q' ∈ y, q.1 ≠ q'.1 := by
  rw [List.Nodup, List.pairwise_map, List.pairwise_flatten] at h
  refine ⟨fun b hb => by rw [List.Nodup, List.pairwise_map]; exact h.1 b hb, ?_⟩
  intro i j x y hij hi hj q hq q' hq'
  obtain ⟨hi1, hi2⟩ := List.getElem?_eq_some_iff.mp hi
  obtain ⟨hj1, hj2⟩ := List.getElem?_eq_some_iff.mp hj
  have h2 := List.pairwise_iff_getElem.mp h.2
  rcases Nat.lt_or_gt_of_ne hij with g | g
  · have := h2 i j hi1 hj1 g
    rw [hi2, hj2] at this
    exact this q hq q' hq'
  · have := h2 j i hj1 hi1 g
    rw [hi2, hj2] at this
    exact (this q' hq' q hq).symm
theorem nd_js : ∀ (js : List Nat), va_nd js = true → ∀ (a b : Nat) (x : Nat), js[a]? = some x → js[b]? = some x → a = b := by
  intro js h a b x ha hb
  have h1 : va_D (fun _ => True) (js.map fun a => (a, (.inr (0, []) : va_E))) := by
    have hz : va_D (fun _ => True) ((List.range (js.foldr max 0 + 1)).map fun a => (a, (.inr (0, []) : va_E))) := by
      refine va_D.of_nd ?_ (fun _ _ => trivial)
      rw [List.map_map]
      have e : (Prod.fst ∘ fun a : Nat => (a, (.inr (0, []) : va_E))) = id := rfl
      rw [e, List.map_id]; exact List.nodup_range
    have hm : ∀ (l : List Nat) (x : Nat), x ∈ l → x ≤ l.foldr max 0 := by
      intro l
      induction l with
      | nil => intro x hx; simp at hx
      | cons y l ih =>
        intro x hx
        show x ≤ max y (l.foldr max 0)
        rcases List.mem_cons.mp hx with rfl | g
        · exact Nat.le_max_left _ _
        · exact Nat.le_trans (ih x g) (Nat.le_max_right _ _)
    refine hz.sub js h ?_
    rw [List.map_map]
    refine List.map_congr_left (fun i hi => ?_)
    have := hm js i hi
    rw [List.getElem?_map, List.getElem?_range (by omega)]
    rfl
  exact h1.1 a b (x, .inr (0, [])) (x, .inr (0, [])) (by rw [List.getElem?_map, ha]; rfl) (by rw [List.getElem?_map, hb]; rfl) rfl
section BASE5B
variable {l : Launch} {y : MethodName} {Ts : List Cond} {rm : Room} {D : va_G} {cI cZ cT : ClassId} {av : List Value} {v : Option Value}
theorem bl_at {B cs : List va_W} (js : List Nat) (hC : js.map (fun j => B[j]?) = cs.map some) {a : Nat} {x : va_W} (h : cs[a]? = some x) : ∃ j, js[a]? = some j ∧ B[j]? = some x := by
  have h1 : (js.map (fun j => B[j]?))[a]? = some (some x) := by rw [hC, List.getElem?_map, h]; rfl
  rw [List.getElem?_map] at h1
  cases hj : js[a]? with
  | none => rw [hj] at h1; cases h1
  | some j => rw [hj] at h1; exact ⟨j, rfl, Option.some.inj h1⟩
theorem fr_B {B B' cs cs' : List va_W} {T T' U : va_W} (js : List Nat) (h : Met l y Ts rm (pM D cI cZ cT av (cs.flatten ++ T)) (qM D v (cs'.flatten ++ T') (adr (cs.flatten ++ T))) 0 0 (adr (cs.flatten ++ T))) (hn : va_nd js = true) (hC : js.map (fun j => B[j]?) = cs.map some) (hl : js.length ≤ cs'.length) (hB : bset B js cs' = B') : Met l y Ts rm (pM D cI cZ cT av (B.flatten ++ T ++ U)) (qM D v (B'.flatten ++ T' ++ U) (adr (B.flatten ++ T ++ U))) 0 0 (adr (B.flatten ++ T ++ U)) := by
  subst hB
  have hin : ∀ q ∈ cs.flatten, ∃ (a j : Nat) (x : va_W), js[a]? = some j ∧ cs[a]? = some x ∧ B[j]? = some x ∧ q ∈ x := by
    intro q hq
    obtain ⟨x, h1, h2⟩ := List.mem_flatten.mp hq
    obtain ⟨a, ha⟩ := List.getElem?_of_mem h1
    obtain ⟨j, h3, h4⟩ := bl_at js hC ha
    exact ⟨a, j, x, h3, ha, h4, h2⟩
  have hmem : ∀ q ∈ cs.flatten, q ∈ B.flatten := fun q h => by obtain ⟨a, j, x, -, -, h4, h5⟩ := hin q h; exact List.mem_flatten.mpr ⟨x, List.mem_of_getElem? h4, h5⟩
  refine fr_M h ?_ ?_ ?_
  · intro q hq
    rcases List.mem_append.mp hq with g | g
    · exact List.mem_append_left _ (List.mem_append_left _ (hmem q g))
    · exact List.mem_append_left _ (List.mem_append_right _ g)
  · intro hD
    have hb := bl_nd hD.left.left.nd
    refine va_D.of_nd ?_ (fun _ _ => trivial)
    rw [List.map_append, List.nodup_append]
    refine ⟨?_, ?_, ?_⟩
    · rw [List.Nodup, List.pairwise_map, List.pairwise_flatten]
      refine ⟨fun x hx => ?_, ?_⟩
      · obtain ⟨a, ha⟩ := List.getElem?_of_mem hx
        obtain ⟨j, -, h4⟩ := bl_at js hC ha
        have := hb.1 x (List.mem_of_getElem? h4)
        rw [List.Nodup, List.pairwise_map] at this
        exact this
      · rw [List.pairwise_iff_getElem]
        intro a b ha hb2 hab q hq q' hq'
        obtain ⟨j1, g1, g2⟩ := bl_at js hC (List.getElem?_eq_getElem ha)
        obtain ⟨j2, g3, g4⟩ := bl_at js hC (List.getElem?_eq_getElem hb2)
        refine hb.2 j1 j2 _ _ (fun e => ?_) g2 g4 q hq q' hq'
        subst e
        have := nd_js js hn a b j1 g1 g3
        omega
    · have g := hD.left.nd; rw [List.map_append] at g; exact (List.nodup_append.mp g).2.1
    · intro a ha b hb
      obtain ⟨q, h1, rfl⟩ := List.mem_map.mp ha
      obtain ⟨q', h2, rfl⟩ := List.mem_map.mp hb
      exact (wX_apart hD.left (hmem q h1) h2).symm
  · intro hD q hq
    have hb := bl_nd hD.left.left.nd
    rcases List.mem_append.mp hq with g | g
    · rcases List.mem_append.mp g with g | g
      · obtain ⟨x, h1, h2⟩ := List.mem_flatten.mp g
        obtain ⟨k, hk⟩ := List.getElem?_of_mem h1
        rcases bset_at js B cs' hl k x hk with ⟨h3, h4⟩ | h3
        · right
          have hqB : q ∈ B.flatten := List.mem_flatten.mpr ⟨x, List.mem_of_getElem? h4, h2⟩
          refine ⟨List.mem_append_left _ (List.mem_append_left _ hqB), fun q' hq' => ?_⟩
          rcases List.mem_append.mp hq' with z | z
          · obtain ⟨a, j, x', g1, -, g3, g4⟩ := hin q' z
            exact hb.2 j k x' x (fun e => h3 (by rw [← e]; exact List.mem_of_getElem? g1)) g3 h4 q' g4 q h2
          · exact wX_apart hD.left hqB z
        · left; exact List.mem_append_left _ (List.mem_flatten.mpr ⟨x, h3, h2⟩)
      · left; exact List.mem_append_right _ g
    · right
      refine ⟨List.mem_append_right _ g, fun q' hq' => ?_⟩
      rcases List.mem_append.mp hq' with z | z
      · exact (wX_apart hD (List.mem_append_left _ (hmem q' z)) g).symm
      · exact (wX_apart hD (List.mem_append_right _ z) g).symm
/-- no tail -/
theorem fr_B0 {B B' cs cs' : List va_W} {U V : va_W} (js : List Nat) (h : Met l y Ts rm (pM D cI cZ cT av cs.flatten) (qM D v cs'.flatten (adr cs.flatten)) 0 0 (adr cs.flatten)) (hn : va_nd js = true) (hC : js.map (fun j => B[j]?) = cs.map some) (hl : js.length ≤ cs'.length) (hB : bset B js cs' = B') : Met l y Ts rm (pM D cI cZ cT av (B.flatten ++ U ++ V)) (qM D v (B'.flatten ++ U ++ V) (adr (B.flatten ++ U ++ V))) 0 0 (adr (B.flatten ++ U ++ V)) := by
  have h2 : Met l y Ts rm (pM D cI cZ cT av (cs.flatten ++ [])) (qM D v (cs'.flatten ++ []) (adr (cs.flatten ++ []))) 0 0 (adr (cs.flatten ++ [])) := by rw [List.append_nil, List.append_nil]; exact h
  have h3 := fr_B (T := []) (T' := []) (U := U ++ V) js h2 hn hC hl hB
  rw [List.append_nil, List.append_nil, ← List.append_assoc, ← List.append_assoc] at h3
  exact h3
/-- the last tail -/
theorem fr_B2 {B B' cs cs' : List va_W} {U T T' : va_W} (js : List Nat) (h : Met l y Ts rm (pM D cI cZ cT av (cs.flatten ++ T)) (qM D v (cs'.flatten ++ T') (adr (cs.flatten ++ T))) 0 0 (adr (cs.flatten ++ T))) (hn : va_nd js = true) (hC : js.map (fun j => B[j]?) = cs.map some) (hl : js.length ≤ cs'.length) (hB : bset B js cs' = B') : Met l y Ts rm (pM D cI cZ cT av (B.flatten ++ U ++ T)) (qM D v (B'.flatten ++ U ++ T') (adr (B.flatten ++ U ++ T))) 0 0 (adr (B.flatten ++ U ++ T)) := by
  have h3 := fr_B (U := U) js h hn hC hl hB
  have m1 : ∀ (X Y Z : va_W) (q : Nat × va_E), q ∈ X ++ Y ++ Z → q ∈ X ++ Z ++ Y := fun X Y Z q h => by
    rcases List.mem_append.mp h with g | g
    · rcases List.mem_append.mp g with g | g
      · exact List.mem_append_left _ (List.mem_append_left _ g)
      · exact List.mem_append_right _ g
    · exact List.mem_append_left _ (List.mem_append_right _ g)
  have hp : ∀ (X Y Z : va_W), va_D (fun _ => True) (X ++ Y ++ Z) → va_D (fun _ => True) (X ++ Z ++ Y) := fun X Y Z h => by
    refine va_D.of_nd ?_ (fun _ _ => trivial)
    have g := h.nd
    refine (List.Perm.nodup_iff (List.Perm.map Prod.fst ?_)).mp g
    rw [List.append_assoc, List.append_assoc]
    exact List.Perm.append_left X List.perm_append_comm
  refine Jvm.Free.MetFree.mono h3 ?_ (fun _ _ _ _ _ h => h) ?_
  · rintro a s ⟨h1, h2, h3, h4⟩
    exact ⟨h1, h2.memb (m1 _ _ _), hp _ _ _ h3, h4⟩
  · rintro a s o t - ⟨⟨q1, q2, q3, q4⟩, L, hL, hf⟩
    have hA : ∀ q, adr (B.flatten ++ T ++ U) q → adr (B.flatten ++ U ++ T) q := fun q h => by
      obtain ⟨x, g1, g2⟩ := adr_mem.mp h
      exact adr_mem.mpr ⟨x, m1 _ _ _ x g1, g2⟩
    exact ⟨⟨q1, q2.memb (m1 _ _ _), q3, fun q g1 g2 => q4 q g1 (fun z => g2 (hA q z))⟩, L, hL, fun q hq => hA _ (hf q hq)⟩
theorem fr_Br {B cs : List va_W} {U V : va_W} {r : Int32} (js : List Nat) (h : Met l y Ts rm (pR D cI cZ cT av cs.flatten) (QcRead r) 0 0 (fun _ => False)) (hC : js.map (fun j => B[j]?) = cs.map some) : Met l y Ts rm (pM D cI cZ cT av (B.flatten ++ U ++ V)) (qM D (some (.int r)) (B.flatten ++ U ++ V) (adr (B.flatten ++ U ++ V))) 0 0 (adr (B.flatten ++ U ++ V)) :=
  fr_R h (fun q hq => by
    obtain ⟨x, h1, h2⟩ := List.mem_flatten.mp hq
    obtain ⟨a, ha⟩ := List.getElem?_of_mem h1
    obtain ⟨j, -, h4⟩ := bl_at js hC ha
    exact List.mem_append_left _ (List.mem_append_left _ (List.mem_flatten.mpr ⟨x, List.mem_of_getElem? h4, h2⟩)))
end BASE5B
theorem ap1 (a : va_W) : a = [a].flatten := by simp
theorem ap2 (a b : va_W) : a ++ b = [a, b].flatten := by simp
theorem ap3 (a b c : va_W) : a ++ b ++ c = [a, b, c].flatten := by simp
theorem ap4 (a b c d : va_W) : a ++ b ++ c ++ d = [a, b, c, d].flatten := by simp
section CV
variable {l : Launch} {y : MethodName} {Ts : List Cond} {rm : Room} {D : va_G} {cI cZ cT : ClassId} {av : List Value} {v : Option Value}
theorem cvM1 {a a' : va_W} (h : Met l y Ts rm (pM D cI cZ cT av (a)) (qM D v (a') (adr (a))) 0 0 (adr (a))) : Met l y Ts rm (pM D cI cZ cT av ([a].flatten)) (qM D v ([a'].flatten) (adr ([a].flatten))) 0 0 (adr ([a].flatten)) := by rw [← ap1 a, ← ap1 a']; exact h
theorem cvT1 {a a' T T' : va_W} (h : Met l y Ts rm (pM D cI cZ cT av (a ++ T)) (qM D v (a' ++ T') (adr (a ++ T))) 0 0 (adr (a ++ T))) : Met l y Ts rm (pM D cI cZ cT av ([a].flatten ++ T)) (qM D v ([a'].flatten ++ T') (adr ([a].flatten ++ T))) 0 0 (adr ([a].flatten ++ T)) := by rw [← ap1 a, ← ap1 a']; exact h
theorem cvR1 {a : va_W} {r : Int32} (h : Met l y Ts rm (pR D cI cZ cT av (a)) (QcRead r) 0 0 (fun _ => False)) : Met l y Ts rm (pR D cI cZ cT av ([a].flatten)) (QcRead r) 0 0 (fun _ => False) := by rw [← ap1 a]; exact h
theorem cvM2 {a b a' b' : va_W} (h : Met l y Ts rm (pM D cI cZ cT av (a ++ b)) (qM D v (a' ++ b') (adr (a ++ b))) 0 0 (adr (a ++ b))) : Met l y Ts rm (pM D cI cZ cT av ([a, b].flatten)) (qM D v ([a', b'].flatten) (adr ([a, b].flatten))) 0 0 (adr ([a, b].flatten)) := by rw [← ap2 a b, ← ap2 a' b']; exact h
theorem cvT2 {a b a' b' T T' : va_W} (h : Met l y Ts rm (pM D cI cZ cT av (a ++ b ++ T)) (qM D v (a' ++ b' ++ T') (adr (a ++ b ++ T))) 0 0 (adr (a ++ b ++ T))) : Met l y Ts rm (pM D cI cZ cT av ([a, b].flatten ++ T)) (qM D v ([a', b'].flatten ++ T') (adr ([a, b].flatten ++ T))) 0 0 (adr ([a, b].flatten ++ T)) := by rw [← ap2 a b, ← ap2 a' b']; exact h
theorem cvR2 {a b : va_W} {r : Int32} (h : Met l y Ts rm (pR D cI cZ cT av (a ++ b)) (QcRead r) 0 0 (fun _ => False)) : Met l y Ts rm (pR D cI cZ cT av ([a, b].flatten)) (QcRead r) 0 0 (fun _ => False) := by rw [← ap2 a b]; exact h
theorem cvM3 {a b c a' b' c' : va_W} (h : Met l y Ts rm (pM D cI cZ cT av (a ++ b ++ c)) (qM D v (a' ++ b' ++ c') (adr (a ++ b ++ c))) 0 0 (adr (a ++ b ++ c))) : Met l y Ts rm (pM D cI cZ cT av ([a, b, c].flatten)) (qM D v ([a', b', c'].flatten) (adr ([a, b, c].flatten))) 0 0 (adr ([a, b, c].flatten)) := by rw [← ap3 a b c, ← ap3 a' b' c']; exact h
theorem cvT3 {a b c a' b' c' T T' : va_W} (h : Met l y Ts rm (pM D cI cZ cT av (a ++ b ++ c ++ T)) (qM D v (a' ++ b' ++ c' ++ T') (adr (a ++ b ++ c ++ T))) 0 0 (adr (a ++ b ++ c ++ T))) : Met l y Ts rm (pM D cI cZ cT av ([a, b, c].flatten ++ T)) (qM D v ([a', b', c'].flatten ++ T') (adr ([a, b, c].flatten ++ T))) 0 0 (adr ([a, b, c].flatten ++ T)) := by rw [← ap3 a b c, ← ap3 a' b' c']; exact h
theorem cvR3 {a b c : va_W} {r : Int32} (h : Met l y Ts rm (pR D cI cZ cT av (a ++ b ++ c)) (QcRead r) 0 0 (fun _ => False)) : Met l y Ts rm (pR D cI cZ cT av ([a, b, c].flatten)) (QcRead r) 0 0 (fun _ => False) := by rw [← ap3 a b c]; exact h
theorem cvM4 {a b c d a' b' c' d' : va_W} (h : Met l y Ts rm (pM D cI cZ cT av (a ++ b ++ c ++ d)) (qM D v (a' ++ b' ++ c' ++ d') (adr (a ++ b ++ c ++ d))) 0 0 (adr (a ++ b ++ c ++ d))) : Met l y Ts rm (pM D cI cZ cT av ([a, b, c, d].flatten)) (qM D v ([a', b', c', d'].flatten) (adr ([a, b, c, d].flatten))) 0 0 (adr ([a, b, c, d].flatten)) := by rw [← ap4 a b c d, ← ap4 a' b' c' d']; exact h
theorem cvT4 {a b c d a' b' c' d' T T' : va_W} (h : Met l y Ts rm (pM D cI cZ cT av (a ++ b ++ c ++ d ++ T)) (qM D v (a' ++ b' ++ c' ++ d' ++ T') (adr (a ++ b ++ c ++ d ++ T))) 0 0 (adr (a ++ b ++ c ++ d ++ T))) : Met l y Ts rm (pM D cI cZ cT av ([a, b, c, d].flatten ++ T)) (qM D v ([a', b', c', d'].flatten ++ T') (adr ([a, b, c, d].flatten ++ T))) 0 0 (adr ([a, b, c, d].flatten ++ T)) := by rw [← ap4 a b c d, ← ap4 a' b' c' d']; exact h
theorem cvR4 {a b c d : va_W} {r : Int32} (h : Met l y Ts rm (pR D cI cZ cT av (a ++ b ++ c ++ d)) (QcRead r) 0 0 (fun _ => False)) : Met l y Ts rm (pR D cI cZ cT av ([a, b, c, d].flatten)) (QcRead r) 0 0 (fun _ => False) := by rw [← ap4 a b c d]; exact h
end CV
def wX (cI cT : ClassId) (nx : Nat) (ra pa ta da : Nat → Nat) (ia xa : Nat) (fa za : Nat → Nat) (gb ga : Nat → Nat → Nat) (un na fi : Int32) (it la sz : Nat → Int32) (tl tf tat tw : Int32) (bt : Nat → Int32) (st dy ln rd : Int32) (kd dd nt lf : Nat → Int32) (yd : TS) (co wy : Nat → Int32) (zl : Int32) (zn : Nat → Int32) (gi gs : Nat → TS) : va_W :=
  List.flatten [wNW nx ra pa ta da ia xa fa za un na fi, wRows cI ra it la sz, wTape cI pa tl tf tat tw bt, wTown cI ta st dy ln rd kd dd nt lf, wTn cI da yd, wAr cT 2 ia gb, wAr cT 24 xa ga, wFore cI fa co wy, wTrace cI za zl zn] ++ wTs cI 2 gb gi ++ wTs cI 24 ga gs
