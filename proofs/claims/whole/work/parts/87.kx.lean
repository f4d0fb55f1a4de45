/-! What the tables say of the classes -/
set_option maxRecDepth 20000 in
theorem kx_N : ∀ q ∈ kxN, Cond.methodLinkNest q.1 q.2.1 q.2.2.1 q.2.2.2 ∈ lw_tbl := (List.forall_mem_cons.mpr ⟨(List.mem_of_getElem? (i := 84) (by decide +kernel)), (List.forall_mem_cons.mpr ⟨(List.mem_of_getElem? (i := 108) (by decide +kernel)), (List.forall_mem_cons.mpr ⟨(List.mem_of_getElem? (i := 159) (by decide +kernel)), (List.forall_mem_cons.mpr ⟨(List.mem_of_getElem? (i := 165) (by decide +kernel)), (List.forall_mem_cons.mpr ⟨(List.mem_of_getElem? (i := 168) (by decide +kernel)), (List.forall_mem_cons.mpr ⟨(List.mem_of_getElem? (i := 175) (by decide +kernel)), (List.forall_mem_cons.mpr ⟨(List.mem_of_getElem? (i := 178) (by decide +kernel)), (List.forall_mem_cons.mpr ⟨(List.mem_of_getElem? (i := 182) (by decide +kernel)), (List.forall_mem_cons.mpr ⟨(List.mem_of_getElem? (i := 185) (by decide +kernel)), (List.forall_mem_cons.mpr ⟨(List.mem_of_getElem? (i := 189) (by decide +kernel)), (List.forall_mem_cons.mpr ⟨(List.mem_of_getElem? (i := 192) (by decide +kernel)), (List.forall_mem_cons.mpr ⟨(List.mem_of_getElem? (i := 196) (by decide +kernel)), (List.forall_mem_cons.mpr ⟨(List.mem_of_getElem? (i := 199) (by decide +kernel)), (List.forall_mem_cons.mpr ⟨(List.mem_of_getElem? (i := 226) (by decide +kernel)), (List.forall_mem_cons.mpr ⟨(List.mem_of_getElem? (i := 444) (by decide +kernel)), (List.forall_mem_cons.mpr ⟨(List.mem_of_getElem? (i := 451) (by decide +kernel)), (List.forall_mem_cons.mpr ⟨(List.mem_of_getElem? (i := 466) (by decide +kernel)), (List.forall_mem_cons.mpr ⟨(List.mem_of_getElem? (i := 506) (by decide +kernel)), (List.forall_mem_cons.mpr ⟨(List.mem_of_getElem? (i := 531) (by decide +kernel)), (fun _ h => absurd h List.not_mem_nil)⟩)⟩)⟩)⟩)⟩)⟩)⟩)⟩)⟩)⟩)⟩)⟩)⟩)⟩)⟩)⟩)⟩)⟩)⟩)
set_option maxRecDepth 20000 in
theorem kx_C : ∀ q ∈ kxC, Cond.castable q.1 q.2 ∈ lw_tbl := (List.forall_mem_cons.mpr ⟨(List.mem_of_getElem? (i := 1102) (by decide +kernel)), (List.forall_mem_cons.mpr ⟨(List.mem_of_getElem? (i := 1103) (by decide +kernel)), (List.forall_mem_cons.mpr ⟨(List.mem_of_getElem? (i := 1104) (by decide +kernel)), (fun _ h => absurd h List.not_mem_nil)⟩)⟩)⟩)
set_option maxRecDepth 20000 in
theorem kx_O : ∀ q ∈ kxO, Cond.not (.castable q.1 q.2) ∈ flatC (Jvm.Cond.and given_1 narrow_1) := by decide +kernel
set_option maxRecDepth 20000 in
theorem kx_X0 : Cond.instantiable RX0 0 ∈ lw_tbl := (List.mem_of_getElem? (i := 195) (by decide +kernel))
set_option maxRecDepth 20000 in
theorem kx_X1 : Cond.instantiable RX1 0 ∈ lw_tbl := (List.mem_of_getElem? (i := 188) (by decide +kernel))
set_option maxRecDepth 20000 in
theorem kx_X2 : Cond.instantiable RX2 7 ∈ lw_tbl := (List.mem_of_getElem? (i := 158) (by decide +kernel))
set_option maxRecDepth 20000 in
theorem kx_X3 : Cond.instantiable RX3 0 ∈ lw_tbl := (List.mem_of_getElem? (i := 164) (by decide +kernel))
set_option maxRecDepth 20000 in
theorem kx_X4 : Cond.instantiable RX4 3 ∈ lw_tbl := (List.mem_of_getElem? (i := 66) (by decide +kernel))
set_option maxRecDepth 20000 in
theorem kx_X5 : Cond.instantiable RX5 0 ∈ lw_tbl := (List.mem_of_getElem? (i := 181) (by decide +kernel))
set_option maxRecDepth 20000 in
theorem kx_X6 : Cond.instantiable RX6 5 ∈ lw_tbl := (List.mem_of_getElem? (i := 83) (by decide +kernel))
set_option maxRecDepth 20000 in
theorem kx_X8 : Cond.instantiable RX8 8 ∈ lw_tbl := (List.mem_of_getElem? (i := 107) (by decide +kernel))
set_option maxRecDepth 20000 in
theorem kx_X9 : Cond.instantiable RX9 2 ∈ lw_tbl := (List.mem_of_getElem? (i := 225) (by decide +kernel))
set_option maxRecDepth 20000 in
theorem kx_X10 : Cond.instantiable RX10 0 ∈ lw_tbl := (List.mem_of_getElem? (i := 174) (by decide +kernel))
set_option maxRecDepth 20000 in
theorem kx_X11 : Cond.instantiable RX11 11 ∈ lw_tbl := (List.mem_of_getElem? (i := 58) (by decide +kernel))
set_option maxRecDepth 20000 in
theorem kx_X12 : Cond.instantiable RX12 21 ∈ lw_tbl := (List.mem_of_getElem? (i := 752) (by decide +kernel))
set_option maxRecDepth 20000 in
theorem kx_wI : Cond.arrayClass .int ∈ lw_tbl := (List.mem_of_getElem? (i := 81) (by decide +kernel))
set_option maxRecDepth 20000 in
theorem kx_wZ : Cond.arrayClass .boolean ∈ lw_tbl := (List.mem_of_getElem? (i := 822) (by decide +kernel))
set_option maxRecDepth 20000 in
theorem kx_wT : Cond.arrayOver (.object RX8) ∈ lw_tbl := (List.mem_of_getElem? (i := 156) (by decide +kernel))
set_option maxRecDepth 20000 in
theorem kx_wD : Cond.declares ⟨RX7, "deedsOn", "(III)I"⟩ ∈ lw_tbl := (List.mem_of_getElem? (i := 436) (by decide +kernel))
set_option maxHeartbeats 2000000 in
theorem kx_start {s : State} {args : Array Value} (hts : ∀ w ∈ lw_tbl, w.before args s = true) (hgv : (Jvm.Cond.and given_1 narrow_1).before args s = true) : ∃ (D : va_G) (cI cZ cT : ClassId), KX D cI cZ cT s := by
  obtain ⟨c0, i0, k0⟩ := u_known (C := RX0) (T := TX0) (N := 0) (n := 0) hts inX0 (hts _ kx_X0)
  obtain ⟨c1, i1, k1⟩ := u_known (C := RX1) (T := TX1) (N := 0) (n := 0) hts inX1 (hts _ kx_X1)
  obtain ⟨c2, i2, k2⟩ := u_known (C := RX2) (T := TX2) (N := 7) (n := 7) hts inX2 (hts _ kx_X2)
  obtain ⟨c3, i3, k3⟩ := u_known (C := RX3) (T := TX3) (N := 0) (n := 0) hts inX3 (hts _ kx_X3)
  obtain ⟨c4, i4, k4⟩ := u_known (C := RX4) (T := TX4) (N := 3) (n := 3) hts inX4 (hts _ kx_X4)
  obtain ⟨c5, i5, k5⟩ := u_known (C := RX5) (T := TX5) (N := 0) (n := 0) hts inX5 (hts _ kx_X5)
  obtain ⟨c6, i6, k6⟩ := u_known (C := RX6) (T := TX6) (N := 5) (n := 5) hts inX6 (hts _ kx_X6)
  obtain ⟨c7, i7, k7⟩ := u_known (C := RX8) (T := TX8) (N := 8) (n := 8) hts inX8 (hts _ kx_X8)
  obtain ⟨c8, i8, k8⟩ := u_known (C := RX9) (T := TX9) (N := 2) (n := 2) hts inX9 (hts _ kx_X9)
  obtain ⟨c9, i9, k9⟩ := u_known (C := RX10) (T := TX10) (N := 0) (n := 0) hts inX10 (hts _ kx_X10)
  obtain ⟨c10, i10, k10⟩ := u_known (C := RX11) (T := TX11) (N := 11) (n := 11) hts inX11 (hts _ kx_X11)
  obtain ⟨c11, i11, k11⟩ := u_known (C := RX12) (T := TX12) (N := 21) (n := 21) hts inX12 (hts _ kx_X12)
  obtain ⟨cI, kI, pI, f1, f2, f3⟩ := Cond.arrayClass_spec (hts _ kx_wI)
  obtain ⟨cZ, kZ, pZ, z1, z2, z3⟩ := Cond.arrayClass_spec (hts _ kx_wZ)
  obtain ⟨pT, cT, kT, g1, g2, g3, g4, g5⟩ := Cond.arrayOver_spec (hts _ kx_wT)
  refine ⟨(fun k => [c0, c1, c2, c3, c4, c5, c6, c7, c8, c9, c10, c11].getD k c0, fun k => [i0, i1, i2, i3, i4, i5, i6, i7, i8, i9, i10, i11].getD k i0), cI, cZ, cT, ⟨?_, ?_⟩, fun q hq => va_Nw.of rfl (hts _ (kx_N q hq)), va_Nw.of rfl (hts _ kx_wD), fun q hq => va_Nw.of rfl (hts _ (kx_C q hq)), fun q hq => va_Nc.of (flat_of_before _ hgv _ (kx_O q hq)), va_AO.of (hts _ kx_wT)⟩
  · intro k q hq
    match k, hq with
    | 0, hq => cases hq; exact k0
    | 1, hq => cases hq; exact k1
    | 2, hq => cases hq; exact k2
    | 3, hq => cases hq; exact k3
    | 4, hq => cases hq; exact k4
    | 5, hq => cases hq; exact k5
    | 6, hq => cases hq; exact k6
    | 7, hq => cases hq; exact k7
    | 8, hq => cases hq; exact k8
    | 9, hq => cases hq; exact k9
    | 10, hq => cases hq; exact k10
    | 11, hq => cases hq; exact k11
    | k + 12, hq => simp [vwCl] at hq
  · intro k q hq
    match k, hq with
    | 0, hq => cases hq; exact ⟨fun n z => ⟨fun k h => (by cases h), kI, f2, pI, f3⟩, f1⟩
    | 1, hq => cases hq; exact ⟨fun n z => ⟨fun k h => (by cases h), kZ, z2, pZ, z3⟩, z1⟩
    | 2, hq => cases hq; exact ⟨fun n z => ⟨fun k h => (by cases h), kT, g3, pT, g4⟩, kT, pT, g3, g4, g1, g5⟩
    | k + 3, hq => simp at hq
