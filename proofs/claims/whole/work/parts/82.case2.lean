/-! The law's cases -/
set_option maxHeartbeats 600000 in
set_option maxRecDepth 100000 in
theorem lc_write {p : Program} {l : Launch} {e : Env} {R : Room} {s : State} {m : MethodId} {args : Array Value} {below : List Frame} {meth : Method} {c : Code} {H : Heap} {locs : List Loc} {cells slots : Nat} {Q : State → Prop} {ls : Array Slot} {D : va_G} {cI cZ cT : ClassId} {A : Nat → Prop} {nx : Nat} {ra : Nat → Nat} {pa : Nat → Nat} {ta : Nat → Nat} {da : Nat → Nat} {ia : Nat} {xa : Nat} {fa : Nat → Nat} {za : Nat → Nat} {gb : Nat → Nat → Nat} {ga : Nat → Nat → Nat} {A0 : Nat → Nat} {b L i : Nat} {xs : Nat → Int32} (hx : p.tables.exec = Jvm.exec) (hb : c.code = cL_law) (hml : c.maxLocals = 4) (hown : s.vm.findClass RL = some m.cls) (hts : ∀ w ∈ wsL_law, w.before args s = true) (hX : va_X b L xs s s.heap) (hbl : b < s.heap.size) (hbA : ¬ A b) (hK : KX D cI cZ cT s) (hL : L ≤ 3072) (hi : i + 5 < L) (hRm : R = room_1) (hC : cells + 0 ≤ R.cells) (hSl : slots + 0 ≤ R.slots) (hl : lv_has ls 4 [(0, .ref b), (1, .ref nx), (2, .ref (A0 0)), (3, .int (nI i))]) (hI : LInv D cI cZ cT A s nx ra pa ta da ia xa fa za gb ga A0 H locs) (K : ∀ (ls : Array Slot) (H : Heap) (locs : List Loc), LInv D cI cZ cT A s nx ra pa ta da ia xa fa za gb ga A0 H locs → lv_has ls 4 [(0, .ref b), (1, .ref nx), (2, .ref (A0 0)), (3, .int (nI i))] → W p l e R s m args below meth c H locs cells slots Q (F0 m 1152 ls [])) : W p l e R s m args below meth c H locs cells slots Q (F0 m 420 ls []) := by
  subst hRm
  obtain ⟨un, na, fi, it, la, sz, tl, tf, tat, tw, bt, st, dy, ln, rd, kd, dd, nt, lf, yd, co, wy, zl, zn, gi, gs, mss, mtp, mfk, mfp, map, msp, mtk, mvl, mac, mtr, mla, mma, mit, msr, mbt, mnw, mdr, mpa, mim, mkp, mtc, ⟨hRw, hTp, hTl, hAc, hIm, hTr, hfi, htf⟩, hP, hD, hS⟩ := hI
  subst hfi
  subst htf
  obtain ⟨n, hrd, hTR⟩ := id hTl
  obtain ⟨u, w, hun, hna, hac, hAx⟩ := id hAc
  obtain ⟨t, ht, htl, htp, hBB⟩ := id hTp
  obtain ⟨z, hz, hzl, htr, hzz⟩ := id hTr
  have hrd : rd = nI n := hrd
  subst hrd
  subst hun
  subst hna
  subst hac
  subst htl
  subst htp
  subst hzl
  subst htr
  refine lv_aload_n hx hb dL_law_420 rfl (lv_at hl 1 rfl) ?_
  refine lv_aload_n hx hb dL_law_421 rfl (lv_at hl 0 rfl) ?_
  refine lv_iload_n hx hb dL_law_422 rfl (lv_at hl 3 rfl) ?_
  refine lv_iconst (v := nI 1) hx hb dL_law_423 (by decide) ?_
  refine b_add hx hb dL_law_424 ?_
  refine b_sld hx hb hX hbl hbA hS (show i + 1 < L by omega) hL dL_law_425 ?_
  refine lv_aload_n hx hb dL_law_426 rfl (lv_at hl 0 rfl) ?_
  refine lv_iload_n hx hb dL_law_427 rfl (lv_at hl 3 rfl) ?_
  refine lv_iconst (v := nI 2) hx hb dL_law_428 (by decide) ?_
  refine b_add hx hb dL_law_429 ?_
  refine b_sld hx hb hX hbl hbA hS (show i + 2 < L by omega) hL dL_law_430 ?_
  have he := e_write hTR hAx (xs (i + 1)) (xs (i + 2))
  have hkX := (k_write l D cI cZ cT nx ra pa ta da ia xa fa za gb ga (nI u) (nI w) fi it la sz (nI t) tf tat tw bt st dy ln (nI n) kd dd nt lf yd co wy (nI z) zn gi gs (xs (i + 1)) (xs (i + 2)) u w n rfl rfl rfl hTR.n6 hAx.1 hAx.2.1 hTR.1)
  generalize eZ9 : x_write st dy ln n kd dd nt lf u w gs (xs (i + 1)) (xs (i + 2)) = Z9 at hkX he
  refine b_callL (va_runV (As := [.int (xs (i + 1)), .int (xs (i + 2))]) (rest := []) ⟨hx, hb, hml, hown, hts⟩ hkX (cwV 2 hts gL_law_X11_write rfl rfl rfl (by decide +kernel) ⟨(Nat.le_of_ble_eq_true rfl), (Nat.le_of_ble_eq_true rfl)⟩) (b_pL hK hP hD (ci := 10) rfl rfl) rfl rfl hl.1 rfl (lv_room (Nat.le_of_ble_eq_true rfl)) dL_law_431 ⟨hC, hSl⟩).run hP hD hS wX_fst (fun H locs hP hD hS => ?_)
  refine lv_aload_n hx hb dL_law_434 rfl (lv_at hl 2 rfl) ?_
  refine lv_aload_n hx hb dL_law_435 rfl (lv_at hl 0 rfl) ?_
  refine lv_iload_n hx hb dL_law_436 rfl (lv_at hl 3 rfl) ?_
  refine lv_iconst (v := nI 1) hx hb dL_law_437 (by decide) ?_
  refine b_add hx hb dL_law_438 ?_
  refine b_sld hx hb hX hbl hbA hS (show i + 1 < L by omega) hL dL_law_439 ?_
  refine lv_aload_n hx hb dL_law_440 rfl (lv_at hl 0 rfl) ?_
  refine lv_iload_n hx hb dL_law_441 rfl (lv_at hl 3 rfl) ?_
  refine lv_iconst (v := nI 2) hx hb dL_law_442 (by decide) ?_
  refine b_add hx hb dL_law_443 ?_
  refine b_sld hx hb hX hbl hbA hS (show i + 2 < L by omega) hL dL_law_444 ?_
  have hjM := (j_write l D cI cZ cT A0 fi (nI t) tf mfp map msp mtk mvl (nI u) (nI z) mla mma mit msr mbt mnw mdr mpa mim mkp mtc (xs (i + 1)) (xs (i + 2)) u n rfl hTR.2.2.2.2.2.1 hAx.1)
  generalize eM9 : m_write mnw mpa u (xs (i + 1)) (xs (i + 2)) = M9 at hjM he
  refine b_callRt (va_runV (As := [.int (xs (i + 1)), .int (xs (i + 2))]) (rest := [.int (Z9.1)]) ⟨hx, hb, hml, hown, hts⟩ hjM (cwV 2 hts gL_law_X12_write rfl rfl rfl (by decide +kernel) ⟨(Nat.le_of_ble_eq_true rfl), (Nat.le_of_ble_eq_true rfl)⟩) (b_pRt hK hP hD (ci := 11) rfl rfl) rfl rfl hl.1 rfl (lv_room (Nat.le_of_ble_eq_true rfl)) dL_law_445 ⟨hC, hSl⟩).run hP hD hS rfl (fun H locs hP hD hS => ?_)
  refine lv_icmp_eq (tgt := 1152) hx hb dL_law_448 (by decide) (fun c9 => ?_) (fun c9 => absurd (show (Z9.1) = (M9.1) from he.1) c9)
  exact K ls H locs ⟨(nI Z9.2.1), (nI Z9.2.2.1), fi, it, la, sz, (nI t), tf, tat, tw, bt, st, dy, ln, (nI n), kd, dd, (Z9.2.2.2.2), lf, yd, co, wy, (nI z), zn, gi, (Z9.2.2.2.1), fi, (nI t), tf, mfp, map, msp, mtk, mvl, (nI M9.2.1), (nI z), mla, mma, mit, msr, mbt, (M9.2.2.2), mdr, (M9.2.2.1), mim, mkp, mtc, ⟨hRw, hTp, ⟨n, rfl, he.2.1⟩, he.2.2, hIm, hTr, rfl, rfl⟩, hP, hD, hS⟩ hl
set_option maxHeartbeats 600000 in
set_option maxRecDepth 100000 in
theorem lc_deny {p : Program} {l : Launch} {e : Env} {R : Room} {s : State} {m : MethodId} {args : Array Value} {below : List Frame} {meth : Method} {c : Code} {H : Heap} {locs : List Loc} {cells slots : Nat} {Q : State → Prop} {ls : Array Slot} {D : va_G} {cI cZ cT : ClassId} {A : Nat → Prop} {nx : Nat} {ra : Nat → Nat} {pa : Nat → Nat} {ta : Nat → Nat} {da : Nat → Nat} {ia : Nat} {xa : Nat} {fa : Nat → Nat} {za : Nat → Nat} {gb : Nat → Nat → Nat} {ga : Nat → Nat → Nat} {A0 : Nat → Nat} {b L i : Nat} {xs : Nat → Int32} (hx : p.tables.exec = Jvm.exec) (hb : c.code = cL_law) (hml : c.maxLocals = 4) (hown : s.vm.findClass RL = some m.cls) (hts : ∀ w ∈ wsL_law, w.before args s = true) (hX : va_X b L xs s s.heap) (hbl : b < s.heap.size) (hbA : ¬ A b) (hK : KX D cI cZ cT s) (hL : L ≤ 3072) (hi : i + 5 < L) (hRm : R = room_1) (hC : cells + 0 ≤ R.cells) (hSl : slots + 0 ≤ R.slots) (hl : lv_has ls 4 [(0, .ref b), (1, .ref nx), (2, .ref (A0 0)), (3, .int (nI i))]) (hI : LInv D cI cZ cT A s nx ra pa ta da ia xa fa za gb ga A0 H locs) (K : ∀ (ls : Array Slot) (H : Heap) (locs : List Loc), LInv D cI cZ cT A s nx ra pa ta da ia xa fa za gb ga A0 H locs → lv_has ls 4 [(0, .ref b), (1, .ref nx), (2, .ref (A0 0)), (3, .int (nI i))] → W p l e R s m args below meth c H locs cells slots Q (F0 m 1152 ls [])) : W p l e R s m args below meth c H locs cells slots Q (F0 m 453 ls []) := by
  subst hRm
  obtain ⟨un, na, fi, it, la, sz, tl, tf, tat, tw, bt, st, dy, ln, rd, kd, dd, nt, lf, yd, co, wy, zl, zn, gi, gs, mss, mtp, mfk, mfp, map, msp, mtk, mvl, mac, mtr, mla, mma, mit, msr, mbt, mnw, mdr, mpa, mim, mkp, mtc, ⟨hRw, hTp, hTl, hAc, hIm, hTr, hfi, htf⟩, hP, hD, hS⟩ := hI
  subst hfi
  subst htf
  obtain ⟨n, hrd, hTR⟩ := id hTl
  obtain ⟨u, w, hun, hna, hac, hAx⟩ := id hAc
  obtain ⟨t, ht, htl, htp, hBB⟩ := id hTp
  obtain ⟨z, hz, hzl, htr, hzz⟩ := id hTr
  have hrd : rd = nI n := hrd
  subst hrd
  subst hun
  subst hna
  subst hac
  subst htl
  subst htp
  subst hzl
  subst htr
  refine lv_aload_n hx hb dL_law_453 rfl (lv_at hl 1 rfl) ?_
  refine lv_aload_n hx hb dL_law_454 rfl (lv_at hl 0 rfl) ?_
  refine lv_iload_n hx hb dL_law_455 rfl (lv_at hl 3 rfl) ?_
  refine lv_iconst (v := nI 1) hx hb dL_law_456 (by decide) ?_
  refine b_add hx hb dL_law_457 ?_
  refine b_sld hx hb hX hbl hbA hS (show i + 1 < L by omega) hL dL_law_458 ?_
  refine lv_aload_n hx hb dL_law_459 rfl (lv_at hl 0 rfl) ?_
  refine lv_iload_n hx hb dL_law_460 rfl (lv_at hl 3 rfl) ?_
  refine lv_iconst (v := nI 2) hx hb dL_law_461 (by decide) ?_
  refine b_add hx hb dL_law_462 ?_
  refine b_sld hx hb hX hbl hbA hS (show i + 2 < L by omega) hL dL_law_463 ?_
  have he := e_deny hTR hAx (xs (i + 1)) (xs (i + 2))
  have hkX := (k_deny l D cI cZ cT nx ra pa ta da ia xa fa za gb ga (nI u) (nI w) fi it la sz (nI t) tf tat tw bt st dy ln (nI n) kd dd nt lf yd co wy (nI z) zn gi gs (xs (i + 1)) (xs (i + 2)) u w n rfl rfl rfl hTR.n6 hAx.1 hAx.2.1 hTR.1)
  generalize eZ9 : x_deny st dy ln n kd dd nt lf u w gs (xs (i + 1)) (xs (i + 2)) = Z9 at hkX he
  refine b_callL (va_runV (As := [.int (xs (i + 1)), .int (xs (i + 2))]) (rest := []) ⟨hx, hb, hml, hown, hts⟩ hkX (cwV 2 hts gL_law_X11_deny rfl rfl rfl (by decide +kernel) ⟨(Nat.le_of_ble_eq_true rfl), (Nat.le_of_ble_eq_true rfl)⟩) (b_pL hK hP hD (ci := 10) rfl rfl) rfl rfl hl.1 rfl (lv_room (Nat.le_of_ble_eq_true rfl)) dL_law_464 ⟨hC, hSl⟩).run hP hD hS wX_fst (fun H locs hP hD hS => ?_)
  refine lv_aload_n hx hb dL_law_467 rfl (lv_at hl 2 rfl) ?_
  refine lv_aload_n hx hb dL_law_468 rfl (lv_at hl 0 rfl) ?_
  refine lv_iload_n hx hb dL_law_469 rfl (lv_at hl 3 rfl) ?_
  refine lv_iconst (v := nI 1) hx hb dL_law_470 (by decide) ?_
  refine b_add hx hb dL_law_471 ?_
  refine b_sld hx hb hX hbl hbA hS (show i + 1 < L by omega) hL dL_law_472 ?_
  refine lv_aload_n hx hb dL_law_473 rfl (lv_at hl 0 rfl) ?_
  refine lv_iload_n hx hb dL_law_474 rfl (lv_at hl 3 rfl) ?_
  refine lv_iconst (v := nI 2) hx hb dL_law_475 (by decide) ?_
  refine b_add hx hb dL_law_476 ?_
  refine b_sld hx hb hX hbl hbA hS (show i + 2 < L by omega) hL dL_law_477 ?_
  have hjM := (j_deny l D cI cZ cT A0 fi (nI t) tf mfp map msp mtk mvl (nI u) (nI z) mla mma mit msr mbt mnw mdr mpa mim mkp mtc (xs (i + 1)) (xs (i + 2)) u n rfl hTR.2.2.2.2.2.1 hAx.1)
  generalize eM9 : m_deny mnw mpa u (xs (i + 1)) (xs (i + 2)) = M9 at hjM he
  refine b_callRt (va_runV (As := [.int (xs (i + 1)), .int (xs (i + 2))]) (rest := [.int (Z9.1)]) ⟨hx, hb, hml, hown, hts⟩ hjM (cwV 2 hts gL_law_X12_deny rfl rfl rfl (by decide +kernel) ⟨(Nat.le_of_ble_eq_true rfl), (Nat.le_of_ble_eq_true rfl)⟩) (b_pRt hK hP hD (ci := 11) rfl rfl) rfl rfl hl.1 rfl (lv_room (Nat.le_of_ble_eq_true rfl)) dL_law_478 ⟨hC, hSl⟩).run hP hD hS rfl (fun H locs hP hD hS => ?_)
  refine lv_icmp_eq (tgt := 1152) hx hb dL_law_481 (by decide) (fun c9 => ?_) (fun c9 => absurd (show (Z9.1) = (M9.1) from he.1) c9)
  exact K ls H locs ⟨(nI Z9.2.1), (nI Z9.2.2.1), fi, it, la, sz, (nI t), tf, tat, tw, bt, st, dy, ln, (nI n), kd, (Z9.2.2.2.2), nt, lf, yd, co, wy, (nI z), zn, gi, (Z9.2.2.2.1), fi, (nI t), tf, mfp, map, msp, mtk, mvl, (nI M9.2.1), (nI z), mla, mma, mit, msr, mbt, (M9.2.2.2), mdr, (M9.2.2.1), mim, mkp, mtc, ⟨hRw, hTp, ⟨n, rfl, he.2.1⟩, he.2.2, hIm, hTr, rfl, rfl⟩, hP, hD, hS⟩ hl
set_option maxHeartbeats 600000 in
set_option maxRecDepth 100000 in
theorem lc_spare {p : Program} {l : Launch} {e : Env} {R : Room} {s : State} {m : MethodId} {args : Array Value} {below : List Frame} {meth : Method} {c : Code} {H : Heap} {locs : List Loc} {cells slots : Nat} {Q : State → Prop} {ls : Array Slot} {D : va_G} {cI cZ cT : ClassId} {A : Nat → Prop} {nx : Nat} {ra : Nat → Nat} {pa : Nat → Nat} {ta : Nat → Nat} {da : Nat → Nat} {ia : Nat} {xa : Nat} {fa : Nat → Nat} {za : Nat → Nat} {gb : Nat → Nat → Nat} {ga : Nat → Nat → Nat} {A0 : Nat → Nat} {b L i : Nat} {xs : Nat → Int32} (hx : p.tables.exec = Jvm.exec) (hb : c.code = cL_law) (hml : c.maxLocals = 4) (hown : s.vm.findClass RL = some m.cls) (hts : ∀ w ∈ wsL_law, w.before args s = true) (hX : va_X b L xs s s.heap) (hbl : b < s.heap.size) (hbA : ¬ A b) (hK : KX D cI cZ cT s) (hL : L ≤ 3072) (hi : i + 5 < L) (hRm : R = room_1) (hC : cells + 0 ≤ R.cells) (hSl : slots + 0 ≤ R.slots) (hl : lv_has ls 4 [(0, .ref b), (1, .ref nx), (2, .ref (A0 0)), (3, .int (nI i))]) (hI : LInv D cI cZ cT A s nx ra pa ta da ia xa fa za gb ga A0 H locs) (K : ∀ (ls : Array Slot) (H : Heap) (locs : List Loc), LInv D cI cZ cT A s nx ra pa ta da ia xa fa za gb ga A0 H locs → lv_has ls 4 [(0, .ref b), (1, .ref nx), (2, .ref (A0 0)), (3, .int (nI i))] → W p l e R s m args below meth c H locs cells slots Q (F0 m 1152 ls [])) : W p l e R s m args below meth c H locs cells slots Q (F0 m 486 ls []) := by
  subst hRm
  obtain ⟨un, na, fi, it, la, sz, tl, tf, tat, tw, bt, st, dy, ln, rd, kd, dd, nt, lf, yd, co, wy, zl, zn, gi, gs, mss, mtp, mfk, mfp, map, msp, mtk, mvl, mac, mtr, mla, mma, mit, msr, mbt, mnw, mdr, mpa, mim, mkp, mtc, ⟨hRw, hTp, hTl, hAc, hIm, hTr, hfi, htf⟩, hP, hD, hS⟩ := hI
  subst hfi
  subst htf
  obtain ⟨n, hrd, hTR⟩ := id hTl
  obtain ⟨u, w, hun, hna, hac, hAx⟩ := id hAc
  obtain ⟨t, ht, htl, htp, hBB⟩ := id hTp
  obtain ⟨z, hz, hzl, htr, hzz⟩ := id hTr
  have hrd : rd = nI n := hrd
  subst hrd
  subst hun
  subst hna
  subst hac
  subst htl
  subst htp
  subst hzl
  subst htr
  refine lv_aload_n hx hb dL_law_486 rfl (lv_at hl 1 rfl) ?_
  refine lv_aload_n hx hb dL_law_487 rfl (lv_at hl 0 rfl) ?_
  refine lv_iload_n hx hb dL_law_488 rfl (lv_at hl 3 rfl) ?_
  refine lv_iconst (v := nI 1) hx hb dL_law_489 (by decide) ?_
  refine b_add hx hb dL_law_490 ?_
  refine b_sld hx hb hX hbl hbA hS (show i + 1 < L by omega) hL dL_law_491 ?_
  refine lv_aload_n hx hb dL_law_492 rfl (lv_at hl 0 rfl) ?_
  refine lv_iload_n hx hb dL_law_493 rfl (lv_at hl 3 rfl) ?_
  refine lv_iconst (v := nI 2) hx hb dL_law_494 (by decide) ?_
  refine b_add hx hb dL_law_495 ?_
  refine b_sld hx hb hX hbl hbA hS (show i + 2 < L by omega) hL dL_law_496 ?_
  have he := e_spare hTR hAx (xs (i + 1)) (xs (i + 2))
  have hkX := (k_spare l D cI cZ cT nx ra pa ta da ia xa fa za gb ga (nI u) (nI w) fi it la sz (nI t) tf tat tw bt st dy ln (nI n) kd dd nt lf yd co wy (nI z) zn gi gs (xs (i + 1)) (xs (i + 2)) u w n rfl rfl rfl hTR.n6 hAx.1 hAx.2.1 hTR.1)
  generalize eZ9 : x_spare st dy ln n kd dd nt lf u w gs (xs (i + 1)) (xs (i + 2)) = Z9 at hkX he
  refine b_callL (va_runV (As := [.int (xs (i + 1)), .int (xs (i + 2))]) (rest := []) ⟨hx, hb, hml, hown, hts⟩ hkX (cwV 2 hts gL_law_X11_spare rfl rfl rfl (by decide +kernel) ⟨(Nat.le_of_ble_eq_true rfl), (Nat.le_of_ble_eq_true rfl)⟩) (b_pL hK hP hD (ci := 10) rfl rfl) rfl rfl hl.1 rfl (lv_room (Nat.le_of_ble_eq_true rfl)) dL_law_497 ⟨hC, hSl⟩).run hP hD hS wX_fst (fun H locs hP hD hS => ?_)
  refine lv_aload_n hx hb dL_law_500 rfl (lv_at hl 2 rfl) ?_
  refine lv_aload_n hx hb dL_law_501 rfl (lv_at hl 0 rfl) ?_
  refine lv_iload_n hx hb dL_law_502 rfl (lv_at hl 3 rfl) ?_
  refine lv_iconst (v := nI 1) hx hb dL_law_503 (by decide) ?_
  refine b_add hx hb dL_law_504 ?_
  refine b_sld hx hb hX hbl hbA hS (show i + 1 < L by omega) hL dL_law_505 ?_
  refine lv_aload_n hx hb dL_law_506 rfl (lv_at hl 0 rfl) ?_
  refine lv_iload_n hx hb dL_law_507 rfl (lv_at hl 3 rfl) ?_
  refine lv_iconst (v := nI 2) hx hb dL_law_508 (by decide) ?_
  refine b_add hx hb dL_law_509 ?_
  refine b_sld hx hb hX hbl hbA hS (show i + 2 < L by omega) hL dL_law_510 ?_
  have hjM := (j_spare l D cI cZ cT A0 fi (nI t) tf mfp map msp mtk mvl (nI u) (nI z) mla mma mit msr mbt mnw mdr mpa mim mkp mtc (xs (i + 1)) (xs (i + 2)) u n rfl hTR.2.2.2.2.2.1 hAx.1)
  generalize eM9 : m_spare mnw mpa u (xs (i + 1)) (xs (i + 2)) = M9 at hjM he
  refine b_callRt (va_runV (As := [.int (xs (i + 1)), .int (xs (i + 2))]) (rest := [.int (Z9.1)]) ⟨hx, hb, hml, hown, hts⟩ hjM (cwV 2 hts gL_law_X12_spare rfl rfl rfl (by decide +kernel) ⟨(Nat.le_of_ble_eq_true rfl), (Nat.le_of_ble_eq_true rfl)⟩) (b_pRt hK hP hD (ci := 11) rfl rfl) rfl rfl hl.1 rfl (lv_room (Nat.le_of_ble_eq_true rfl)) dL_law_511 ⟨hC, hSl⟩).run hP hD hS rfl (fun H locs hP hD hS => ?_)
  refine lv_icmp_eq (tgt := 1152) hx hb dL_law_514 (by decide) (fun c9 => ?_) (fun c9 => absurd (show (Z9.1) = (M9.1) from he.1) c9)
  exact K ls H locs ⟨(nI Z9.2.1), (nI Z9.2.2.1), fi, it, la, sz, (nI t), tf, tat, tw, bt, st, dy, ln, (nI n), kd, dd, nt, (Z9.2.2.2.2), yd, co, wy, (nI z), zn, gi, (Z9.2.2.2.1), fi, (nI t), tf, mfp, map, msp, mtk, mvl, (nI M9.2.1), (nI z), mla, mma, mit, msr, mbt, (M9.2.2.2), mdr, (M9.2.2.1), mim, mkp, mtc, ⟨hRw, hTp, ⟨n, rfl, he.2.1⟩, he.2.2, hIm, hTr, rfl, rfl⟩, hP, hD, hS⟩ hl
set_option maxHeartbeats 600000 in
set_option maxRecDepth 100000 in
theorem lc_undo {p : Program} {l : Launch} {e : Env} {R : Room} {s : State} {m : MethodId} {args : Array Value} {below : List Frame} {meth : Method} {c : Code} {H : Heap} {locs : List Loc} {cells slots : Nat} {Q : State → Prop} {ls : Array Slot} {D : va_G} {cI cZ cT : ClassId} {A : Nat → Prop} {nx : Nat} {ra : Nat → Nat} {pa : Nat → Nat} {ta : Nat → Nat} {da : Nat → Nat} {ia : Nat} {xa : Nat} {fa : Nat → Nat} {za : Nat → Nat} {gb : Nat → Nat → Nat} {ga : Nat → Nat → Nat} {A0 : Nat → Nat} {b L i : Nat} {xs : Nat → Int32} (hx : p.tables.exec = Jvm.exec) (hb : c.code = cL_law) (hml : c.maxLocals = 4) (hown : s.vm.findClass RL = some m.cls) (hts : ∀ w ∈ wsL_law, w.before args s = true) (hX : va_X b L xs s s.heap) (hbl : b < s.heap.size) (hbA : ¬ A b) (hK : KX D cI cZ cT s) (hL : L ≤ 3072) (hi : i + 5 < L) (hRm : R = room_1) (hC : cells + 0 ≤ R.cells) (hSl : slots + 0 ≤ R.slots) (hl : lv_has ls 4 [(0, .ref b), (1, .ref nx), (2, .ref (A0 0)), (3, .int (nI i))]) (hI : LInv D cI cZ cT A s nx ra pa ta da ia xa fa za gb ga A0 H locs) (K : ∀ (ls : Array Slot) (H : Heap) (locs : List Loc), LInv D cI cZ cT A s nx ra pa ta da ia xa fa za gb ga A0 H locs → lv_has ls 4 [(0, .ref b), (1, .ref nx), (2, .ref (A0 0)), (3, .int (nI i))] → W p l e R s m args below meth c H locs cells slots Q (F0 m 1152 ls [])) : W p l e R s m args below meth c H locs cells slots Q (F0 m 519 ls []) := by
  subst hRm
  obtain ⟨un, na, fi, it, la, sz, tl, tf, tat, tw, bt, st, dy, ln, rd, kd, dd, nt, lf, yd, co, wy, zl, zn, gi, gs, mss, mtp, mfk, mfp, map, msp, mtk, mvl, mac, mtr, mla, mma, mit, msr, mbt, mnw, mdr, mpa, mim, mkp, mtc, ⟨hRw, hTp, hTl, hAc, hIm, hTr, hfi, htf⟩, hP, hD, hS⟩ := hI
  subst hfi
  subst htf
  obtain ⟨n, hrd, hTR⟩ := id hTl
  obtain ⟨u, w, hun, hna, hac, hAx⟩ := id hAc
  obtain ⟨t, ht, htl, htp, hBB⟩ := id hTp
  obtain ⟨z, hz, hzl, htr, hzz⟩ := id hTr
  have hrd : rd = nI n := hrd
  subst hrd
  subst hun
  subst hna
  subst hac
  subst htl
  subst htp
  subst hzl
  subst htr
  refine lv_aload_n hx hb dL_law_519 rfl (lv_at hl 1 rfl) ?_
  have he := e_undo hTl hAx
  have hkX := (k_undo l D cI cZ cT nx ra pa ta da ia xa fa za gb ga (nI u) (nI w) fi it la sz (nI t) tf tat tw bt st dy ln (nI n) kd dd nt lf yd co wy (nI z) zn gi gs  u w rfl rfl hAx.1 hAx.2.1 hAx.2.2.2)
  generalize eZ9 : x_undo u w gs (st, dy, ln, (nI n), kd, dd, nt, lf) = Z9 at hkX he
  refine b_callL (va_runV (As := []) (rest := []) ⟨hx, hb, hml, hown, hts⟩ hkX (cwV 0 hts gL_law_X11_undo rfl rfl rfl (by decide +kernel) ⟨(Nat.le_of_ble_eq_true rfl), (Nat.le_of_ble_eq_true rfl)⟩) (b_pL hK hP hD (ci := 10) rfl rfl) rfl rfl hl.1 rfl (lv_room (Nat.le_of_ble_eq_true rfl)) dL_law_520 ⟨hC, hSl⟩).run hP hD hS wX_fst (fun H locs hP hD hS => ?_)
  refine lv_aload_n hx hb dL_law_523 rfl (lv_at hl 2 rfl) ?_
  have hjM := (j_undo l D cI cZ cT A0 fi (nI t) tf mfp map msp mtk mvl (nI u) (nI z) mla mma mit msr mbt mnw mdr mpa mim mkp mtc  u rfl hAx.1)
  generalize eM9 : m_undo mnw mpa u = M9 at hjM he
  refine b_callRt (va_runV (As := []) (rest := [.int (Z9.1)]) ⟨hx, hb, hml, hown, hts⟩ hjM (cwV 0 hts gL_law_X12_undo rfl rfl rfl (by decide +kernel) ⟨(Nat.le_of_ble_eq_true rfl), (Nat.le_of_ble_eq_true rfl)⟩) (b_pRt hK hP hD (ci := 11) rfl rfl) rfl rfl hl.1 rfl (lv_room (Nat.le_of_ble_eq_true rfl)) dL_law_524 ⟨hC, hSl⟩).run hP hD hS rfl (fun H locs hP hD hS => ?_)
  refine lv_icmp_eq (tgt := 1152) hx hb dL_law_527 (by decide) (fun c9 => ?_) (fun c9 => absurd (show (Z9.1) = (M9.1) from he.1) c9)
  exact K ls H locs ⟨(nI Z9.2.1), (nI Z9.2.2.1), fi, it, la, sz, (nI t), tf, tat, tw, bt, (Z9.2.2.2.1), (Z9.2.2.2.2.1), (Z9.2.2.2.2.2.1), (Z9.2.2.2.2.2.2.1), (Z9.2.2.2.2.2.2.2.1), (Z9.2.2.2.2.2.2.2.2.1), (Z9.2.2.2.2.2.2.2.2.2.1), (Z9.2.2.2.2.2.2.2.2.2.2), yd, co, wy, (nI z), zn, gi, gs, fi, (nI t), tf, mfp, map, msp, mtk, mvl, (nI M9.2.1), (nI z), mla, mma, mit, msr, mbt, (M9.2.2), mdr, mpa, mim, mkp, mtc, ⟨hRw, hTp, he.2.1, he.2.2, hIm, hTr, rfl, rfl⟩, hP, hD, hS⟩ hl
set_option maxHeartbeats 600000 in
set_option maxRecDepth 100000 in
theorem lc_reader {p : Program} {l : Launch} {e : Env} {R : Room} {s : State} {m : MethodId} {args : Array Value} {below : List Frame} {meth : Method} {c : Code} {H : Heap} {locs : List Loc} {cells slots : Nat} {Q : State → Prop} {ls : Array Slot} {D : va_G} {cI cZ cT : ClassId} {A : Nat → Prop} {nx : Nat} {ra : Nat → Nat} {pa : Nat → Nat} {ta : Nat → Nat} {da : Nat → Nat} {ia : Nat} {xa : Nat} {fa : Nat → Nat} {za : Nat → Nat} {gb : Nat → Nat → Nat} {ga : Nat → Nat → Nat} {A0 : Nat → Nat} {b L i : Nat} {xs : Nat → Int32} (hx : p.tables.exec = Jvm.exec) (hb : c.code = cL_law) (hml : c.maxLocals = 4) (hown : s.vm.findClass RL = some m.cls) (hts : ∀ w ∈ wsL_law, w.before args s = true) (hX : va_X b L xs s s.heap) (hbl : b < s.heap.size) (hbA : ¬ A b) (hK : KX D cI cZ cT s) (hL : L ≤ 3072) (hi : i + 5 < L) (hRm : R = room_1) (hC : cells + 0 ≤ R.cells) (hSl : slots + 0 ≤ R.slots) (hl : lv_has ls 4 [(0, .ref b), (1, .ref nx), (2, .ref (A0 0)), (3, .int (nI i))]) (hI : LInv D cI cZ cT A s nx ra pa ta da ia xa fa za gb ga A0 H locs) (K : ∀ (ls : Array Slot) (H : Heap) (locs : List Loc), LInv D cI cZ cT A s nx ra pa ta da ia xa fa za gb ga A0 H locs → lv_has ls 4 [(0, .ref b), (1, .ref nx), (2, .ref (A0 0)), (3, .int (nI i))] → W p l e R s m args below meth c H locs cells slots Q (F0 m 1152 ls [])) : W p l e R s m args below meth c H locs cells slots Q (F0 m 532 ls []) := by
  subst hRm
  obtain ⟨un, na, fi, it, la, sz, tl, tf, tat, tw, bt, st, dy, ln, rd, kd, dd, nt, lf, yd, co, wy, zl, zn, gi, gs, mss, mtp, mfk, mfp, map, msp, mtk, mvl, mac, mtr, mla, mma, mit, msr, mbt, mnw, mdr, mpa, mim, mkp, mtc, ⟨hRw, hTp, hTl, hAc, hIm, hTr, hfi, htf⟩, hP, hD, hS⟩ := hI
  subst hfi
  subst htf
  obtain ⟨n, hrd, hTR⟩ := id hTl
  obtain ⟨u, w, hun, hna, hac, hAx⟩ := id hAc
  obtain ⟨t, ht, htl, htp, hBB⟩ := id hTp
  obtain ⟨z, hz, hzl, htr, hzz⟩ := id hTr
  have hrd : rd = nI n := hrd
  subst hrd
  subst hun
  subst hna
  subst hac
  subst htl
  subst htp
  subst hzl
  subst htr
  refine lv_aload_n hx hb dL_law_532 rfl (lv_at hl 1 rfl) ?_
  refine lv_aload_n hx hb dL_law_533 rfl (lv_at hl 0 rfl) ?_
  refine lv_iload_n hx hb dL_law_534 rfl (lv_at hl 3 rfl) ?_
  refine lv_iconst (v := nI 1) hx hb dL_law_535 (by decide) ?_
  refine b_add hx hb dL_law_536 ?_
  refine b_sld hx hb hX hbl hbA hS (show i + 1 < L by omega) hL dL_law_537 ?_
  refine lv_aload_n hx hb dL_law_538 rfl (lv_at hl 0 rfl) ?_
  refine lv_iload_n hx hb dL_law_539 rfl (lv_at hl 3 rfl) ?_
  refine lv_iconst (v := nI 2) hx hb dL_law_540 (by decide) ?_
  refine b_add hx hb dL_law_541 ?_
  refine b_sld hx hb hX hbl hbA hS (show i + 2 < L by omega) hL dL_law_542 ?_
  have he := e_reader hTR (xs (i + 1)) (xs (i + 2))
  refine b_callL (va_runV (As := [.int (xs (i + 1)), .int (xs (i + 2))]) (rest := []) ⟨hx, hb, hml, hown, hts⟩ (k_reader l D cI cZ cT nx ra pa ta da ia xa fa za gb ga (nI u) (nI w) fi it la sz (nI t) tf tat tw bt st dy ln (nI n) kd dd nt lf yd co wy (nI z) zn gi gs (xs (i + 1)) (xs (i + 2)) n rfl hTR.n6 hTR.ar) (cwV 2 hts gL_law_X11_reader rfl rfl rfl (by decide +kernel) ⟨(Nat.le_of_ble_eq_true rfl), (Nat.le_of_ble_eq_true rfl)⟩) (b_pL hK hP hD (ci := 10) rfl rfl) rfl rfl hl.1 rfl (lv_room (Nat.le_of_ble_eq_true rfl)) dL_law_543 ⟨hC, hSl⟩).run hP hD hS wX_fst (fun H locs hP hD hS => ?_)
  refine lv_aload_n hx hb dL_law_546 rfl (lv_at hl 2 rfl) ?_
  refine lv_aload_n hx hb dL_law_547 rfl (lv_at hl 0 rfl) ?_
  refine lv_iload_n hx hb dL_law_548 rfl (lv_at hl 3 rfl) ?_
  refine lv_iconst (v := nI 1) hx hb dL_law_549 (by decide) ?_
  refine b_add hx hb dL_law_550 ?_
  refine b_sld hx hb hX hbl hbA hS (show i + 1 < L by omega) hL dL_law_551 ?_
  refine lv_aload_n hx hb dL_law_552 rfl (lv_at hl 0 rfl) ?_
  refine lv_iload_n hx hb dL_law_553 rfl (lv_at hl 3 rfl) ?_
  refine lv_iconst (v := nI 2) hx hb dL_law_554 (by decide) ?_
  refine b_add hx hb dL_law_555 ?_
  refine b_sld hx hb hX hbl hbA hS (show i + 2 < L by omega) hL dL_law_556 ?_
  refine b_callRt (va_runV (As := [.int (xs (i + 1)), .int (xs (i + 2))]) (rest := [.int (x_reader dy n kd dd nt lf (xs (i + 1)) (xs (i + 2)))]) ⟨hx, hb, hml, hown, hts⟩ (j_reader l D cI cZ cT A0 fi (nI t) tf mfp map msp mtk mvl (nI u) (nI z) mla mma mit msr mbt mnw mdr mpa mim mkp mtc (xs (i + 1)) (xs (i + 2)) n  hTR.2.2.2.2.2.1) (cwV 2 hts gL_law_X12_reader rfl rfl rfl (by decide +kernel) ⟨(Nat.le_of_ble_eq_true rfl), (Nat.le_of_ble_eq_true rfl)⟩) (b_pRt hK hP hD (ci := 11) rfl rfl) rfl rfl hl.1 rfl (lv_room (Nat.le_of_ble_eq_true rfl)) dL_law_557 ⟨hC, hSl⟩).run hP hD hS rfl (fun H locs hP hD hS => ?_)
  refine lv_icmp_eq (tgt := 1152) hx hb dL_law_560 (by decide) (fun c9 => ?_) (fun c9 => absurd (show (x_reader dy n kd dd nt lf (xs (i + 1)) (xs (i + 2))) = (m_reader mnw (xs (i + 1)) (xs (i + 2))) from he) c9)
  exact K ls H locs ⟨(nI u), (nI w), fi, it, la, sz, (nI t), tf, tat, tw, bt, st, dy, ln, (nI n), kd, dd, nt, lf, yd, co, wy, (nI z), zn, gi, gs, fi, (nI t), tf, mfp, map, msp, mtk, mvl, (nI u), (nI z), mla, mma, mit, msr, mbt, mnw, mdr, mpa, mim, mkp, mtc, ⟨hRw, hTp, hTl, hAc, hIm, hTr, rfl, rfl⟩, hP, hD, hS⟩ hl
set_option maxHeartbeats 600000 in
set_option maxRecDepth 100000 in
theorem lc_deeds {p : Program} {l : Launch} {e : Env} {R : Room} {s : State} {m : MethodId} {args : Array Value} {below : List Frame} {meth : Method} {c : Code} {H : Heap} {locs : List Loc} {cells slots : Nat} {Q : State → Prop} {ls : Array Slot} {D : va_G} {cI cZ cT : ClassId} {A : Nat → Prop} {nx : Nat} {ra : Nat → Nat} {pa : Nat → Nat} {ta : Nat → Nat} {da : Nat → Nat} {ia : Nat} {xa : Nat} {fa : Nat → Nat} {za : Nat → Nat} {gb : Nat → Nat → Nat} {ga : Nat → Nat → Nat} {A0 : Nat → Nat} {b L i : Nat} {xs : Nat → Int32} (hx : p.tables.exec = Jvm.exec) (hb : c.code = cL_law) (hml : c.maxLocals = 4) (hown : s.vm.findClass RL = some m.cls) (hts : ∀ w ∈ wsL_law, w.before args s = true) (hX : va_X b L xs s s.heap) (hbl : b < s.heap.size) (hbA : ¬ A b) (hK : KX D cI cZ cT s) (hL : L ≤ 3072) (hi : i + 5 < L) (hRm : R = room_1) (hC : cells + 0 ≤ R.cells) (hSl : slots + 0 ≤ R.slots) (hl : lv_has ls 4 [(0, .ref b), (1, .ref nx), (2, .ref (A0 0)), (3, .int (nI i))]) (hI : LInv D cI cZ cT A s nx ra pa ta da ia xa fa za gb ga A0 H locs) (K : ∀ (ls : Array Slot) (H : Heap) (locs : List Loc), LInv D cI cZ cT A s nx ra pa ta da ia xa fa za gb ga A0 H locs → lv_has ls 4 [(0, .ref b), (1, .ref nx), (2, .ref (A0 0)), (3, .int (nI i))] → W p l e R s m args below meth c H locs cells slots Q (F0 m 1152 ls [])) : W p l e R s m args below meth c H locs cells slots Q (F0 m 565 ls []) := by
  subst hRm
  obtain ⟨un, na, fi, it, la, sz, tl, tf, tat, tw, bt, st, dy, ln, rd, kd, dd, nt, lf, yd, co, wy, zl, zn, gi, gs, mss, mtp, mfk, mfp, map, msp, mtk, mvl, mac, mtr, mla, mma, mit, msr, mbt, mnw, mdr, mpa, mim, mkp, mtc, ⟨hRw, hTp, hTl, hAc, hIm, hTr, hfi, htf⟩, hP, hD, hS⟩ := hI
  subst hfi
  subst htf
  obtain ⟨n, hrd, hTR⟩ := id hTl
  obtain ⟨u, w, hun, hna, hac, hAx⟩ := id hAc
  obtain ⟨t, ht, htl, htp, hBB⟩ := id hTp
  obtain ⟨z, hz, hzl, htr, hzz⟩ := id hTr
  have hrd : rd = nI n := hrd
  subst hrd
  subst hun
  subst hna
  subst hac
  subst htl
  subst htp
  subst hzl
  subst htr
  refine lv_aload_n hx hb dL_law_565 rfl (lv_at hl 1 rfl) ?_
  refine lv_aload_n hx hb dL_law_566 rfl (lv_at hl 0 rfl) ?_
  refine lv_iload_n hx hb dL_law_567 rfl (lv_at hl 3 rfl) ?_
  refine lv_iconst (v := nI 1) hx hb dL_law_568 (by decide) ?_
  refine b_add hx hb dL_law_569 ?_
  refine b_sld hx hb hX hbl hbA hS (show i + 1 < L by omega) hL dL_law_570 ?_
  refine lv_aload_n hx hb dL_law_571 rfl (lv_at hl 0 rfl) ?_
  refine lv_iload_n hx hb dL_law_572 rfl (lv_at hl 3 rfl) ?_
  refine lv_iconst (v := nI 2) hx hb dL_law_573 (by decide) ?_
  refine b_add hx hb dL_law_574 ?_
  refine b_sld hx hb hX hbl hbA hS (show i + 2 < L by omega) hL dL_law_575 ?_
  have he := e_deeds hTR (xs (i + 1)) (xs (i + 2))
  refine b_callL (va_runV (As := [.int (xs (i + 1)), .int (xs (i + 2))]) (rest := []) ⟨hx, hb, hml, hown, hts⟩ (k_deeds l D cI cZ cT nx ra pa ta da ia xa fa za gb ga (nI u) (nI w) fi it la sz (nI t) tf tat tw bt st dy ln (nI n) kd dd nt lf yd co wy (nI z) zn gi gs (xs (i + 1)) (xs (i + 2)) n rfl hTR.n6 hTR.ar) (cwV 2 hts gL_law_X11_deeds rfl rfl rfl (by decide +kernel) ⟨(Nat.le_of_ble_eq_true rfl), (Nat.le_of_ble_eq_true rfl)⟩) (b_pL hK hP hD (ci := 10) rfl rfl) rfl rfl hl.1 rfl (lv_room (Nat.le_of_ble_eq_true rfl)) dL_law_576 ⟨hC, hSl⟩).run hP hD hS wX_fst (fun H locs hP hD hS => ?_)
  refine lv_aload_n hx hb dL_law_579 rfl (lv_at hl 2 rfl) ?_
  refine lv_aload_n hx hb dL_law_580 rfl (lv_at hl 0 rfl) ?_
  refine lv_iload_n hx hb dL_law_581 rfl (lv_at hl 3 rfl) ?_
  refine lv_iconst (v := nI 1) hx hb dL_law_582 (by decide) ?_
  refine b_add hx hb dL_law_583 ?_
  refine b_sld hx hb hX hbl hbA hS (show i + 1 < L by omega) hL dL_law_584 ?_
  refine lv_aload_n hx hb dL_law_585 rfl (lv_at hl 0 rfl) ?_
  refine lv_iload_n hx hb dL_law_586 rfl (lv_at hl 3 rfl) ?_
  refine lv_iconst (v := nI 2) hx hb dL_law_587 (by decide) ?_
  refine b_add hx hb dL_law_588 ?_
  refine b_sld hx hb hX hbl hbA hS (show i + 2 < L by omega) hL dL_law_589 ?_
  refine b_callRt (va_runV (As := [.int (xs (i + 1)), .int (xs (i + 2))]) (rest := [.int (x_deeds dy n kd dd nt lf (xs (i + 1)) (xs (i + 2)))]) ⟨hx, hb, hml, hown, hts⟩ (j_deeds l D cI cZ cT A0 fi (nI t) tf mfp map msp mtk mvl (nI u) (nI z) mla mma mit msr mbt mnw mdr mpa mim mkp mtc (xs (i + 1)) (xs (i + 2)) n  hTR.2.2.2.2.2.1) (cwV 2 hts gL_law_X12_deeds rfl rfl rfl (by decide +kernel) ⟨(Nat.le_of_ble_eq_true rfl), (Nat.le_of_ble_eq_true rfl)⟩) (b_pRt hK hP hD (ci := 11) rfl rfl) rfl rfl hl.1 rfl (lv_room (Nat.le_of_ble_eq_true rfl)) dL_law_590 ⟨hC, hSl⟩).run hP hD hS rfl (fun H locs hP hD hS => ?_)
  refine lv_icmp_eq (tgt := 1152) hx hb dL_law_593 (by decide) (fun c9 => ?_) (fun c9 => absurd (show (x_deeds dy n kd dd nt lf (xs (i + 1)) (xs (i + 2))) = (m_deeds mnw (xs (i + 1)) (xs (i + 2))) from he) c9)
  exact K ls H locs ⟨(nI u), (nI w), fi, it, la, sz, (nI t), tf, tat, tw, bt, st, dy, ln, (nI n), kd, dd, nt, lf, yd, co, wy, (nI z), zn, gi, gs, fi, (nI t), tf, mfp, map, msp, mtk, mvl, (nI u), (nI z), mla, mma, mit, msr, mbt, mnw, mdr, mpa, mim, mkp, mtc, ⟨hRw, hTp, hTl, hAc, hIm, hTr, rfl, rfl⟩, hP, hD, hS⟩ hl
set_option maxHeartbeats 600000 in
set_option maxRecDepth 100000 in
theorem lc_lines {p : Program} {l : Launch} {e : Env} {R : Room} {s : State} {m : MethodId} {args : Array Value} {below : List Frame} {meth : Method} {c : Code} {H : Heap} {locs : List Loc} {cells slots : Nat} {Q : State → Prop} {ls : Array Slot} {D : va_G} {cI cZ cT : ClassId} {A : Nat → Prop} {nx : Nat} {ra : Nat → Nat} {pa : Nat → Nat} {ta : Nat → Nat} {da : Nat → Nat} {ia : Nat} {xa : Nat} {fa : Nat → Nat} {za : Nat → Nat} {gb : Nat → Nat → Nat} {ga : Nat → Nat → Nat} {A0 : Nat → Nat} {b L i : Nat} {xs : Nat → Int32} (hx : p.tables.exec = Jvm.exec) (hb : c.code = cL_law) (hml : c.maxLocals = 4) (hown : s.vm.findClass RL = some m.cls) (hts : ∀ w ∈ wsL_law, w.before args s = true) (hX : va_X b L xs s s.heap) (hbl : b < s.heap.size) (hbA : ¬ A b) (hK : KX D cI cZ cT s) (hL : L ≤ 3072) (hi : i + 5 < L) (hRm : R = room_1) (hC : cells + 0 ≤ R.cells) (hSl : slots + 0 ≤ R.slots) (hl : lv_has ls 4 [(0, .ref b), (1, .ref nx), (2, .ref (A0 0)), (3, .int (nI i))]) (hI : LInv D cI cZ cT A s nx ra pa ta da ia xa fa za gb ga A0 H locs) (K : ∀ (ls : Array Slot) (H : Heap) (locs : List Loc), LInv D cI cZ cT A s nx ra pa ta da ia xa fa za gb ga A0 H locs → lv_has ls 4 [(0, .ref b), (1, .ref nx), (2, .ref (A0 0)), (3, .int (nI i))] → W p l e R s m args below meth c H locs cells slots Q (F0 m 1152 ls [])) : W p l e R s m args below meth c H locs cells slots Q (F0 m 598 ls []) := by
  subst hRm
  obtain ⟨un, na, fi, it, la, sz, tl, tf, tat, tw, bt, st, dy, ln, rd, kd, dd, nt, lf, yd, co, wy, zl, zn, gi, gs, mss, mtp, mfk, mfp, map, msp, mtk, mvl, mac, mtr, mla, mma, mit, msr, mbt, mnw, mdr, mpa, mim, mkp, mtc, ⟨hRw, hTp, hTl, hAc, hIm, hTr, hfi, htf⟩, hP, hD, hS⟩ := hI
  subst hfi
  subst htf
  obtain ⟨n, hrd, hTR⟩ := id hTl
  obtain ⟨u, w, hun, hna, hac, hAx⟩ := id hAc
  obtain ⟨t, ht, htl, htp, hBB⟩ := id hTp
  obtain ⟨z, hz, hzl, htr, hzz⟩ := id hTr
  have hrd : rd = nI n := hrd
  subst hrd
  subst hun
  subst hna
  subst hac
  subst htl
  subst htp
  subst hzl
  subst htr
  refine lv_aload_n hx hb dL_law_598 rfl (lv_at hl 1 rfl) ?_
  refine lv_aload_n hx hb dL_law_599 rfl (lv_at hl 0 rfl) ?_
  refine lv_iload_n hx hb dL_law_600 rfl (lv_at hl 3 rfl) ?_
  refine lv_iconst (v := nI 1) hx hb dL_law_601 (by decide) ?_
  refine b_add hx hb dL_law_602 ?_
  refine b_sld hx hb hX hbl hbA hS (show i + 1 < L by omega) hL dL_law_603 ?_
  refine lv_aload_n hx hb dL_law_604 rfl (lv_at hl 0 rfl) ?_
  refine lv_iload_n hx hb dL_law_605 rfl (lv_at hl 3 rfl) ?_
  refine lv_iconst (v := nI 2) hx hb dL_law_606 (by decide) ?_
  refine b_add hx hb dL_law_607 ?_
  refine b_sld hx hb hX hbl hbA hS (show i + 2 < L by omega) hL dL_law_608 ?_
  have he := e_lines hTR (xs (i + 1)) (xs (i + 2))
  refine b_callL (va_runV (As := [.int (xs (i + 1)), .int (xs (i + 2))]) (rest := []) ⟨hx, hb, hml, hown, hts⟩ (k_lines l D cI cZ cT nx ra pa ta da ia xa fa za gb ga (nI u) (nI w) fi it la sz (nI t) tf tat tw bt st dy ln (nI n) kd dd nt lf yd co wy (nI z) zn gi gs (xs (i + 1)) (xs (i + 2)) n rfl hTR.n6 hTR.ar) (cwV 2 hts gL_law_X11_lines rfl rfl rfl (by decide +kernel) ⟨(Nat.le_of_ble_eq_true rfl), (Nat.le_of_ble_eq_true rfl)⟩) (b_pL hK hP hD (ci := 10) rfl rfl) rfl rfl hl.1 rfl (lv_room (Nat.le_of_ble_eq_true rfl)) dL_law_609 ⟨hC, hSl⟩).run hP hD hS wX_fst (fun H locs hP hD hS => ?_)
  refine lv_aload_n hx hb dL_law_612 rfl (lv_at hl 2 rfl) ?_
  refine lv_aload_n hx hb dL_law_613 rfl (lv_at hl 0 rfl) ?_
  refine lv_iload_n hx hb dL_law_614 rfl (lv_at hl 3 rfl) ?_
  refine lv_iconst (v := nI 1) hx hb dL_law_615 (by decide) ?_
  refine b_add hx hb dL_law_616 ?_
  refine b_sld hx hb hX hbl hbA hS (show i + 1 < L by omega) hL dL_law_617 ?_
  refine lv_aload_n hx hb dL_law_618 rfl (lv_at hl 0 rfl) ?_
  refine lv_iload_n hx hb dL_law_619 rfl (lv_at hl 3 rfl) ?_
  refine lv_iconst (v := nI 2) hx hb dL_law_620 (by decide) ?_
  refine b_add hx hb dL_law_621 ?_
  refine b_sld hx hb hX hbl hbA hS (show i + 2 < L by omega) hL dL_law_622 ?_
  refine b_callRt (va_runV (As := [.int (xs (i + 1)), .int (xs (i + 2))]) (rest := [.int (x_lines dy n kd dd nt lf (xs (i + 1)) (xs (i + 2)))]) ⟨hx, hb, hml, hown, hts⟩ (j_lines l D cI cZ cT A0 fi (nI t) tf mfp map msp mtk mvl (nI u) (nI z) mla mma mit msr mbt mnw mdr mpa mim mkp mtc (xs (i + 1)) (xs (i + 2)) n  hTR.2.2.2.2.2.1) (cwV 2 hts gL_law_X12_lines rfl rfl rfl (by decide +kernel) ⟨(Nat.le_of_ble_eq_true rfl), (Nat.le_of_ble_eq_true rfl)⟩) (b_pRt hK hP hD (ci := 11) rfl rfl) rfl rfl hl.1 rfl (lv_room (Nat.le_of_ble_eq_true rfl)) dL_law_623 ⟨hC, hSl⟩).run hP hD hS rfl (fun H locs hP hD hS => ?_)
  refine lv_icmp_eq (tgt := 1152) hx hb dL_law_626 (by decide) (fun c9 => ?_) (fun c9 => absurd (show (x_lines dy n kd dd nt lf (xs (i + 1)) (xs (i + 2))) = (m_lines mnw (xs (i + 1)) (xs (i + 2))) from he) c9)
  exact K ls H locs ⟨(nI u), (nI w), fi, it, la, sz, (nI t), tf, tat, tw, bt, st, dy, ln, (nI n), kd, dd, nt, lf, yd, co, wy, (nI z), zn, gi, gs, fi, (nI t), tf, mfp, map, msp, mtk, mvl, (nI u), (nI z), mla, mma, mit, msr, mbt, mnw, mdr, mpa, mim, mkp, mtc, ⟨hRw, hTp, hTl, hAc, hIm, hTr, rfl, rfl⟩, hP, hD, hS⟩ hl
set_option maxHeartbeats 600000 in
set_option maxRecDepth 100000 in
theorem lc_dead {p : Program} {l : Launch} {e : Env} {R : Room} {s : State} {m : MethodId} {args : Array Value} {below : List Frame} {meth : Method} {c : Code} {H : Heap} {locs : List Loc} {cells slots : Nat} {Q : State → Prop} {ls : Array Slot} {D : va_G} {cI cZ cT : ClassId} {A : Nat → Prop} {nx : Nat} {ra : Nat → Nat} {pa : Nat → Nat} {ta : Nat → Nat} {da : Nat → Nat} {ia : Nat} {xa : Nat} {fa : Nat → Nat} {za : Nat → Nat} {gb : Nat → Nat → Nat} {ga : Nat → Nat → Nat} {A0 : Nat → Nat} {b L i : Nat} {xs : Nat → Int32} (hx : p.tables.exec = Jvm.exec) (hb : c.code = cL_law) (hml : c.maxLocals = 4) (hown : s.vm.findClass RL = some m.cls) (hts : ∀ w ∈ wsL_law, w.before args s = true) (hX : va_X b L xs s s.heap) (hbl : b < s.heap.size) (hbA : ¬ A b) (hK : KX D cI cZ cT s) (hL : L ≤ 3072) (hi : i + 5 < L) (hRm : R = room_1) (hC : cells + 0 ≤ R.cells) (hSl : slots + 0 ≤ R.slots) (hl : lv_has ls 4 [(0, .ref b), (1, .ref nx), (2, .ref (A0 0)), (3, .int (nI i))]) (hI : LInv D cI cZ cT A s nx ra pa ta da ia xa fa za gb ga A0 H locs) (K : ∀ (ls : Array Slot) (H : Heap) (locs : List Loc), LInv D cI cZ cT A s nx ra pa ta da ia xa fa za gb ga A0 H locs → lv_has ls 4 [(0, .ref b), (1, .ref nx), (2, .ref (A0 0)), (3, .int (nI i))] → W p l e R s m args below meth c H locs cells slots Q (F0 m 1152 ls [])) : W p l e R s m args below meth c H locs cells slots Q (F0 m 631 ls []) := by
  subst hRm
  obtain ⟨un, na, fi, it, la, sz, tl, tf, tat, tw, bt, st, dy, ln, rd, kd, dd, nt, lf, yd, co, wy, zl, zn, gi, gs, mss, mtp, mfk, mfp, map, msp, mtk, mvl, mac, mtr, mla, mma, mit, msr, mbt, mnw, mdr, mpa, mim, mkp, mtc, ⟨hRw, hTp, hTl, hAc, hIm, hTr, hfi, htf⟩, hP, hD, hS⟩ := hI
  subst hfi
  subst htf
  obtain ⟨n, hrd, hTR⟩ := id hTl
  obtain ⟨u, w, hun, hna, hac, hAx⟩ := id hAc
  obtain ⟨t, ht, htl, htp, hBB⟩ := id hTp
  obtain ⟨z, hz, hzl, htr, hzz⟩ := id hTr
  have hrd : rd = nI n := hrd
  subst hrd
  subst hun
  subst hna
  subst hac
  subst htl
  subst htp
  subst hzl
  subst htr
  refine lv_aload_n hx hb dL_law_631 rfl (lv_at hl 1 rfl) ?_
  refine lv_aload_n hx hb dL_law_632 rfl (lv_at hl 0 rfl) ?_
  refine lv_iload_n hx hb dL_law_633 rfl (lv_at hl 3 rfl) ?_
  refine lv_iconst (v := nI 1) hx hb dL_law_634 (by decide) ?_
  refine b_add hx hb dL_law_635 ?_
  refine b_sld hx hb hX hbl hbA hS (show i + 1 < L by omega) hL dL_law_636 ?_
  have he := e_dead hTR (xs (i + 1))
  refine b_callL (va_runV (As := [.int (xs (i + 1))]) (rest := []) ⟨hx, hb, hml, hown, hts⟩ (k_dead l D cI cZ cT nx ra pa ta da ia xa fa za gb ga (nI u) (nI w) fi it la sz (nI t) tf tat tw bt st dy ln (nI n) kd dd nt lf yd co wy (nI z) zn gi gs (xs (i + 1)) n rfl hTR.n6) (cwV 1 hts gL_law_X11_dead rfl rfl rfl (by decide +kernel) ⟨(Nat.le_of_ble_eq_true rfl), (Nat.le_of_ble_eq_true rfl)⟩) (b_pL hK hP hD (ci := 10) rfl rfl) rfl rfl hl.1 rfl (lv_room (Nat.le_of_ble_eq_true rfl)) dL_law_637 ⟨hC, hSl⟩).run hP hD hS wX_fst (fun H locs hP hD hS => ?_)
  refine lv_aload_n hx hb dL_law_640 rfl (lv_at hl 2 rfl) ?_
  refine lv_aload_n hx hb dL_law_641 rfl (lv_at hl 0 rfl) ?_
  refine lv_iload_n hx hb dL_law_642 rfl (lv_at hl 3 rfl) ?_
  refine lv_iconst (v := nI 1) hx hb dL_law_643 (by decide) ?_
  refine b_add hx hb dL_law_644 ?_
  refine b_sld hx hb hX hbl hbA hS (show i + 1 < L by omega) hL dL_law_645 ?_
  refine b_callRt (va_runV (As := [.int (xs (i + 1))]) (rest := [.int (x_dead st n lf (xs (i + 1)))]) ⟨hx, hb, hml, hown, hts⟩ (j_dead l D cI cZ cT A0 fi (nI t) tf mfp map msp mtk mvl (nI u) (nI z) mla mma mit msr mbt mnw mdr mpa mim mkp mtc (xs (i + 1)) n  hTR.2.2.2.2.2.1) (cwV 1 hts gL_law_X12_dead rfl rfl rfl (by decide +kernel) ⟨(Nat.le_of_ble_eq_true rfl), (Nat.le_of_ble_eq_true rfl)⟩) (b_pRt hK hP hD (ci := 11) rfl rfl) rfl rfl hl.1 rfl (lv_room (Nat.le_of_ble_eq_true rfl)) dL_law_646 ⟨hC, hSl⟩).run hP hD hS rfl (fun H locs hP hD hS => ?_)
  refine lv_icmp_eq (tgt := 1152) hx hb dL_law_649 (by decide) (fun c9 => ?_) (fun c9 => absurd (show (x_dead st n lf (xs (i + 1))) = (m_dead mnw n (xs (i + 1))) from he) c9)
  exact K ls H locs ⟨(nI u), (nI w), fi, it, la, sz, (nI t), tf, tat, tw, bt, st, dy, ln, (nI n), kd, dd, nt, lf, yd, co, wy, (nI z), zn, gi, gs, fi, (nI t), tf, mfp, map, msp, mtk, mvl, (nI u), (nI z), mla, mma, mit, msr, mbt, mnw, mdr, mpa, mim, mkp, mtc, ⟨hRw, hTp, hTl, hAc, hIm, hTr, rfl, rfl⟩, hP, hD, hS⟩ hl
