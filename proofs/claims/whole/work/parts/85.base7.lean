/-! BASE 7: arrays of towns are made -/
abbrev T0 : TS := (0, 0, 0, 0, zf, zf, zf, zf)
def rfN (k : Nat) (ga : Nat → Nat → Nat) : Nat → Option Nat := fun j => if j < k then some (ga j 0) else none
theorem rf0 {ga : Nat → Nat → Nat} : (fun _ => none) = rfN 0 ga := by
  funext j; unfold rfN; rw [if_neg (by omega)]
theorem ref_push {k : Nat} {ga : Nat → Nat → Nat} {a : Nat → Nat} : rfN (k + 1) (va_up ga k a) = va_up (rfN k ga) k (some (a 0)) := by
  funext j
  unfold rfN va_up
  by_cases h : j = k
  · subst h; rw [if_pos (by omega), if_pos rfl, if_pos rfl]
  · by_cases h2 : j < k
    · rw [if_pos (by omega), if_neg h, if_neg h]; exact (if_pos h2).symm
    · rw [if_neg (by omega), if_neg h]; exact (if_neg h2).symm
theorem wTs_push {cI : ClassId} {k : Nat} {ga : Nat → Nat → Nat} {a : Nat → Nat} {T : TS} : wTs cI (k + 1) (va_up ga k a) (fun _ => T) = wTs cI k ga (fun _ => T) ++ wTn cI a T := by
  unfold wTs
  rw [List.range_succ, List.flatMap_append]
  congr 1
  · show ((List.range k).map _).flatten = ((List.range k).map _).flatten
    refine congrArg List.flatten (List.map_congr_left (fun j hj => ?_))
    have := List.mem_range.mp hj
    have e : va_up ga k a j = ga j := by unfold va_up; rw [if_neg (by omega)]
    rw [e]
  · have e : va_up ga k a k = a := by unfold va_up; rw [if_pos rfl]
    simp only [List.flatMap_cons, List.flatMap_nil, List.append_nil, e]
theorem va_P.put9 {D : va_G} {cl : List vw_C} {ws : va_W} {H : Heap} (h : va_P D cl ws H) (i : Nat) {x : Nat × va_E} (hx : va_at D cl x H) : va_P D cl (ws.set i x) H := by
  intro k q hq
  by_cases hk : k = i
  · subst hk
    have hlt : k < (ws.set k x).length := (List.getElem?_eq_some_iff.mp hq).1
    rw [List.getElem?_set_self (by simpa using hlt)] at hq
    rw [← Option.some.inj hq]; exact hx
  · rw [List.getElem?_set_ne (Ne.symm hk)] at hq
    exact h k q hq
theorem rf_cell {D : va_G} {cl : List vw_C} {a n : Nat} {cT : ClassId} {ga : Nat → Nat → Nat} {H : Heap} (h : va_at D cl (a, .inl (cT, n, .inr (.inr (.inr (.inr (rfN n ga)))))) H) : va_at D cl (a, .inl (cT, n, .inr (.inr (.inr (.inr (fun k => some (ga k 0))))))) H := by
  have e : vp_cell cT (n, .inr (.inr (.inr (.inr (rfN n ga))))) = vp_cell cT (n, .inr (.inr (.inr (.inr (fun k => some (ga k 0)))))) := by
    rw [vp_cell_q, vp_cell_q]
    unfold arrV
    congr 2
    funext j
    show va_rf (rfN n ga j.val) = _
    unfold rfN
    rw [if_pos j.isLt]
  have h1 : H[a]? = some (vp_cell cT (n, .inr (.inr (.inr (.inr (rfN n ga)))))) := h
  rw [e] at h1
  exact h1
