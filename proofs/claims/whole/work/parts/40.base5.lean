/-! BASE 5: contracts over the whole world -/
theorem adr_mem {ws : va_W} {q : Nat} : adr ws q ↔ ∃ x ∈ ws, x.1 = q := by
  constructor
  · rintro ⟨k, e, h⟩; exact ⟨_, List.mem_of_getElem? h, rfl⟩
  · rintro ⟨x, h, rfl⟩
    obtain ⟨k, hk⟩ := List.getElem?_of_mem h
    exact ⟨k, x.2, hk⟩
section BASE5
variable {l : Launch} {y : MethodName} {Ts : List Cond} {rm : Room} {D : va_G} {cI cZ cT : ClassId} {av : List Value} {v : Option Value} {wc wc' W W' : va_W}
theorem fr_M (h : Met l y Ts rm (pM D cI cZ cT av wc) (qM D v wc' (adr wc)) 0 0 (adr wc)) (hsub : ∀ q ∈ wc, q ∈ W) (hnd : va_D (fun _ => True) W → va_D (fun _ => True) wc) (hnew : va_D (fun _ => True) W → ∀ q ∈ W', q ∈ wc' ∨ (q ∈ W ∧ ∀ q' ∈ wc, q'.1 ≠ q.1)) : Met l y Ts rm (pM D cI cZ cT av W) (qM D v W' (adr W)) 0 0 (adr W) := by
  have hA : ∀ q, adr wc q → adr W q := fun q h => by
    obtain ⟨x, h1, h2⟩ := adr_mem.mp h
    exact adr_mem.mpr ⟨x, hsub x h1, h2⟩
  refine Jvm.Free.MetFree.mono h ?_ (fun _ _ _ _ _ h => h) ?_
  · rintro a s ⟨h1, h2, h3, h4⟩
    exact ⟨h1, h2.memb hsub, hnd h3, h4⟩
  · rintro a s o t ⟨-, p2, p3, p4⟩ ⟨⟨q1, q2, q3, q4⟩, L, hL, hf⟩
    refine ⟨⟨q1, ?_, q3, fun q g1 g2 => q4 q g1 (fun z => g2 (hA q z))⟩, L, hL, fun q hq => hA _ (hf q hq)⟩
    intro k q hq
    rcases hnew p3 q (List.mem_of_getElem? hq) with h | ⟨h1, h2⟩
    · obtain ⟨i, hi⟩ := List.getElem?_of_mem h
      exact q2 i q hi
    · obtain ⟨i, hi⟩ := List.getElem?_of_mem h1
      refine (p2 i q hi).kept (q4 q.1 (p2 i q hi).lt (fun z => ?_))
      obtain ⟨x, h3, h4⟩ := adr_mem.mp z
      exact h2 x h3 h4
theorem fr_R {r : Int32} (h : Met l y Ts rm (pR D cI cZ cT av wc) (QcRead r) 0 0 (fun _ => False)) (hsub : ∀ q ∈ wc, q ∈ W) : Met l y Ts rm (pM D cI cZ cT av W) (qM D (some (.int r)) W (adr W)) 0 0 (adr W) := by
  refine Jvm.Free.MetFree.mono h ?_ (fun _ _ _ _ _ h => h) ?_
  · rintro a s ⟨h1, h2, h3, h4⟩
    exact ⟨h1, h2.memb hsub, h4⟩
  · rintro a s o t ⟨-, p2, p3, p4⟩ ⟨⟨q1, q2⟩, L, hL, hf⟩
    refine ⟨⟨q1, by rw [q2]; exact p2, ?_⟩, L, hL, fun q hq => (hf q hq).elim⟩
    exact ⟨by rw [q2]; exact Nat.le_refl _, fun q _ _ => by rw [q2]⟩
theorem sub_is {X T : va_W} (is : List Nat) (hC : is.map (fun i => X[i]?) = wc.map some) : ∀ q ∈ wc, ∃ i ∈ is, X[i]? = some q := by
  intro q hq
  have h1 : some q ∈ is.map (fun i => X[i]?) := by rw [hC]; exact List.mem_map.mpr ⟨q, hq, rfl⟩
  obtain ⟨i, h2, h3⟩ := List.mem_map.mp h1
  exact ⟨i, h2, h3⟩
theorem va_D.left {A : Nat → Prop} {X T : va_W} (h : va_D A (X ++ T)) : va_D A X :=
  ⟨fun i j x y hi hj e => h.1 i j x y (by rw [List.getElem?_append_left (List.getElem?_eq_some_iff.mp hi).1]; exact hi) (by rw [List.getElem?_append_left (List.getElem?_eq_some_iff.mp hj).1]; exact hj) e, fun k q hk => h.2 k q (by rw [List.getElem?_append_left (List.getElem?_eq_some_iff.mp hk).1]; exact hk)⟩
/-- at the places is: the callee's cells; then a tail T that it has too, then a tail U that it has not -/
theorem fr_G {X X' cx cx' T T' U : va_W} (is : List Nat) (h : Met l y Ts rm (pM D cI cZ cT av (cx ++ T)) (qM D v (cx' ++ T') (adr (cx ++ T))) 0 0 (adr (cx ++ T))) (hn : va_nd is = true) (hC : is.map (fun i => X[i]?) = cx.map some) (hl : is.length ≤ cx'.length) (hX : wset X is cx' = X') : Met l y Ts rm (pM D cI cZ cT av (X ++ T ++ U)) (qM D v (X' ++ T' ++ U) (adr (X ++ T ++ U))) 0 0 (adr (X ++ T ++ U)) := by
  subst hX
  have hin := sub_is (wc := cx) (X := X) (T := T) is hC
  have hmem : ∀ q ∈ cx, q ∈ X := fun q h => by obtain ⟨i, -, h3⟩ := hin q h; exact List.mem_of_getElem? h3
  refine fr_M h ?_ ?_ ?_
  · intro q hq
    rcases List.mem_append.mp hq with g | g
    · exact List.mem_append_left _ (List.mem_append_left _ (hmem q g))
    · exact List.mem_append_left _ (List.mem_append_right _ g)
  · intro hD
    refine va_D.of_nd ?_ (fun _ _ => trivial)
    have hDX := hD.left.left
    have hcx := hDX.sub is hn hC
    rw [List.map_append, List.nodup_append]
    refine ⟨hcx.nd, ?_, ?_⟩
    · have g := hD.left.nd; rw [List.map_append] at g; exact (List.nodup_append.mp g).2.1
    · intro a ha b hb
      obtain ⟨q, h1, rfl⟩ := List.mem_map.mp ha
      obtain ⟨q', h2, rfl⟩ := List.mem_map.mp hb
      exact (wX_apart hD.left (hmem q h1) h2).symm
  · intro hD q hq
    rcases List.mem_append.mp hq with g | g
    · rcases List.mem_append.mp g with g | g
      · obtain ⟨k, hk⟩ := List.getElem?_of_mem g
        rcases wset_at is X cx' hl k q hk with ⟨h1, h2⟩ | ⟨j, h2⟩
        · right
          refine ⟨List.mem_append_left _ (List.mem_append_left _ (List.mem_of_getElem? h2)), fun q' hq' => ?_⟩
          rcases List.mem_append.mp hq' with z | z
          · obtain ⟨i, hi, h3⟩ := hin q' z
            intro e
            have h5 := hD.left.left.1 i k q' q h3 h2 e
            subst h5
            exact h1 hi
          · exact wX_apart hD.left (List.mem_of_getElem? h2) z
        · left; exact List.mem_append_left _ (List.mem_of_getElem? h2)
      · left; exact List.mem_append_right _ g
    · right
      refine ⟨List.mem_append_right _ g, fun q' hq' => ?_⟩
      rcases List.mem_append.mp hq' with z | z
      · exact (wX_apart hD (List.mem_append_left _ (hmem q' z)) g).symm
      · exact (wX_apart hD (List.mem_append_right _ z) g).symm
theorem fr_0 {X X' U : va_W} (is : List Nat) (h : Met l y Ts rm (pM D cI cZ cT av wc) (qM D v wc' (adr wc)) 0 0 (adr wc)) (hn : va_nd is = true) (hC : is.map (fun i => X[i]?) = wc.map some) (hl : is.length ≤ wc'.length) (hX : wset X is wc' = X') : Met l y Ts rm (pM D cI cZ cT av (X ++ U)) (qM D v (X' ++ U) (adr (X ++ U))) 0 0 (adr (X ++ U)) := by
  have h2 : Met l y Ts rm (pM D cI cZ cT av (wc ++ [])) (qM D v (wc' ++ []) (adr (wc ++ []))) 0 0 (adr (wc ++ [])) := by rw [List.append_nil, List.append_nil]; exact h
  have h3 := fr_G (T := []) (T' := []) (U := U) is h2 hn hC hl hX
  rw [List.append_nil, List.append_nil] at h3
  exact h3
theorem fr_T {X X' cx cx' T T' : va_W} (is : List Nat) (h : Met l y Ts rm (pM D cI cZ cT av (cx ++ T)) (qM D v (cx' ++ T') (adr (cx ++ T))) 0 0 (adr (cx ++ T))) (hn : va_nd is = true) (hC : is.map (fun i => X[i]?) = cx.map some) (hl : is.length ≤ cx'.length) (hX : wset X is cx' = X') : Met l y Ts rm (pM D cI cZ cT av (X ++ T)) (qM D v (X' ++ T') (adr (X ++ T))) 0 0 (adr (X ++ T)) := by
  have h3 := fr_G (U := []) is h hn hC hl hX
  rw [List.append_nil, List.append_nil] at h3
  exact h3
theorem fr_r {X T : va_W} {r : Int32} (is : List Nat) (h : Met l y Ts rm (pR D cI cZ cT av wc) (QcRead r) 0 0 (fun _ => False)) (hC : is.map (fun i => X[i]?) = wc.map some) : Met l y Ts rm (pM D cI cZ cT av (X ++ T)) (qM D (some (.int r)) (X ++ T) (adr (X ++ T))) 0 0 (adr (X ++ T)) :=
  fr_R h (fun q hq => by obtain ⟨i, -, h3⟩ := sub_is (X := X) (T := T) is hC q hq; exact List.mem_append_left _ (List.mem_of_getElem? h3))
end BASE5
def wX (cI cT : ClassId) (nx : Nat) (ra pa ta da : Nat → Nat) (ia xa : Nat) (fa za : Nat → Nat) (gb ga : Nat → Nat → Nat) (un na fi : Int32) (it la sz : Nat → Int32) (tl tf tat tw : Int32) (bt : Nat → Int32) (st dy ln rd : Int32) (kd dd nt lf : Nat → Int32) (yd : TS) (co wy : Nat → Int32) (zl : Int32) (zn : Nat → Int32) (gi gs : Nat → TS) : va_W :=
  wNW nx ra pa ta da ia xa fa za un na fi ++ wRows cI ra it la sz ++ wTape cI pa tl tf tat tw bt ++ wTown cI ta st dy ln rd kd dd nt lf ++ wTn cI da yd ++ wAr cT 2 ia gb ++ wAr cT 24 xa ga ++ wFore cI fa co wy ++ wTrace cI za zl zn ++ wTs cI 2 gb gi ++ wTs cI 24 ga gs
