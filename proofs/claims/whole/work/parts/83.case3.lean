/-! The law's cases -/
set_option maxHeartbeats 600000 in
set_option maxRecDepth 100000 in
theorem lc_ends {p : Program} {l : Launch} {e : Env} {R : Room} {s : State} {m : MethodId} {args : Array Value} {below : List Frame} {meth : Method} {c : Code} {H : Heap} {locs : List Loc} {cells slots : Nat} {Q : State → Prop} {ls : Array Slot} {D : va_G} {cI cZ cT : ClassId} {A : Nat → Prop} {nx : Nat} {ra : Nat → Nat} {pa : Nat → Nat} {ta : Nat → Nat} {da : Nat → Nat} {ia : Nat} {xa : Nat} {fa : Nat → Nat} {za : Nat → Nat} {gb : Nat → Nat → Nat} {ga : Nat → Nat → Nat} {A0 : Nat → Nat} {b L i : Nat} {xs : Nat → Int32} (hx : p.tables.exec = Jvm.exec) (hb : c.code = cL_law) (hml : c.maxLocals = 4) (hown : s.vm.findClass RL = some m.cls) (hts : ∀ w ∈ wsL_law, w.before args s = true) (hX : va_X b L xs s s.heap) (hbl : b < s.heap.size) (hbA : ¬ A b) (hK : KX D cI cZ cT s) (hL : L ≤ 3072) (hi : i + 5 < L) (hRm : R = room_1) (hC : cells + 0 ≤ R.cells) (hSl : slots + 0 ≤ R.slots) (hl : lv_has ls 4 [(0, .ref b), (1, .ref nx), (2, .ref (A0 0)), (3, .int (nI i))]) (hI : LInv D cI cZ cT A s nx ra pa ta da ia xa fa za gb ga A0 H locs) (K : ∀ (ls : Array Slot) (H : Heap) (locs : List Loc), LInv D cI cZ cT A s nx ra pa ta da ia xa fa za gb ga A0 H locs → lv_has ls 4 [(0, .ref b), (1, .ref nx), (2, .ref (A0 0)), (3, .int (nI i))] → W p l e R s m args below meth c H locs cells slots Q (F0 m 1152 ls [])) : W p l e R s m args below meth c H locs cells slots Q (F0 m 654 ls []) := by
  subst hRm
  obtain ⟨un, na, fi, it, la, sz, tl, tf, tat, tw, bt, st, dy, ln, rd, kd, dd, nt, lf, yd, co, wy, zl, zn, gi, gs, mss, mtp, mfk, mfp, map, msp, mtk, mvl, mac, mtr, mla, mma, mit, msr, mbt, mnw, mdr, mpa, mim, mkp, mtc, ⟨hRw, hTp, hTl, hAc, hIm, hTr, hfi, htf⟩, hP, hD, hS⟩ := hI
  subst hfi
  subst htf
  obtain ⟨n, hrd, hTR⟩ := id hTl
  obtain ⟨u, w, hun, hna, hac, hAx⟩ := id hAc
  obtain ⟨t, ht, htl, htp, hBB⟩ := id hTp
  obtain ⟨z, hz, hzl, htr, hzz⟩ := id hTr
  have hrd : rd = nI n := hrd
  subst hrd
  subst hun
  subst hna
  subst hac
  subst htl
  subst htp
  subst hzl
  subst htr
  refine lv_aload_n hx hb dL_law_654 rfl (lv_at hl 1 rfl) ?_
  refine lv_aload_n hx hb dL_law_655 rfl (lv_at hl 0 rfl) ?_
  refine lv_iload_n hx hb dL_law_656 rfl (lv_at hl 3 rfl) ?_
  refine lv_iconst (v := nI 1) hx hb dL_law_657 (by decide) ?_
  refine b_add hx hb dL_law_658 ?_
  refine b_sld hx hb hX hbl hbA hS (show i + 1 < L by omega) hL dL_law_659 ?_
  have he := e_ends hTR (xs (i + 1))
  refine b_callL (va_runV (As := [.int (xs (i + 1))]) (rest := []) ⟨hx, hb, hml, hown, hts⟩ (k_ends l D cI cZ cT nx ra pa ta da ia xa fa za gb ga (nI u) (nI w) fi it la sz (nI t) tf tat tw bt st dy ln (nI n) kd dd nt lf yd co wy (nI z) zn gi gs (xs (i + 1)) n rfl hTR.n6 hTR.ar) (cwV 1 hts gL_law_X11_ends rfl rfl rfl (by decide +kernel) ⟨(Nat.le_of_ble_eq_true rfl), (Nat.le_of_ble_eq_true rfl)⟩) (b_pL hK hP hD (ci := 10) rfl rfl) rfl rfl hl.1 rfl (lv_room (Nat.le_of_ble_eq_true rfl)) dL_law_660 ⟨hC, hSl⟩).run hP hD hS wX_fst (fun H locs hP hD hS => ?_)
  refine lv_aload_n hx hb dL_law_663 rfl (lv_at hl 2 rfl) ?_
  refine lv_aload_n hx hb dL_law_664 rfl (lv_at hl 0 rfl) ?_
  refine lv_iload_n hx hb dL_law_665 rfl (lv_at hl 3 rfl) ?_
  refine lv_iconst (v := nI 1) hx hb dL_law_666 (by decide) ?_
  refine b_add hx hb dL_law_667 ?_
  refine b_sld hx hb hX hbl hbA hS (show i + 1 < L by omega) hL dL_law_668 ?_
  refine b_callRt (va_runV (As := [.int (xs (i + 1))]) (rest := [.int (x_ends dy n kd dd nt lf (xs (i + 1)))]) ⟨hx, hb, hml, hown, hts⟩ (j_ends l D cI cZ cT A0 fi (nI t) tf mfp map msp mtk mvl (nI u) (nI z) mla mma mit msr mbt mnw mdr mpa mim mkp mtc (xs (i + 1)) n  hTR.2.2.2.2.2.1) (cwV 1 hts gL_law_X12_ends rfl rfl rfl (by decide +kernel) ⟨(Nat.le_of_ble_eq_true rfl), (Nat.le_of_ble_eq_true rfl)⟩) (b_pRt hK hP hD (ci := 11) rfl rfl) rfl rfl hl.1 rfl (lv_room (Nat.le_of_ble_eq_true rfl)) dL_law_669 ⟨hC, hSl⟩).run hP hD hS rfl (fun H locs hP hD hS => ?_)
  refine lv_icmp_eq (tgt := 1152) hx hb dL_law_672 (by decide) (fun c9 => ?_) (fun c9 => absurd (show (x_ends dy n kd dd nt lf (xs (i + 1))) = (m_ends mnw (xs (i + 1))) from he) c9)
  exact K ls H locs ⟨(nI u), (nI w), fi, it, la, sz, (nI t), tf, tat, tw, bt, st, dy, ln, (nI n), kd, dd, nt, lf, yd, co, wy, (nI z), zn, gi, gs, fi, (nI t), tf, mfp, map, msp, mtk, mvl, (nI u), (nI z), mla, mma, mit, msr, mbt, mnw, mdr, mpa, mim, mkp, mtc, ⟨hRw, hTp, hTl, hAc, hIm, hTr, rfl, rfl⟩, hP, hD, hS⟩ hl
set_option maxHeartbeats 600000 in
set_option maxRecDepth 100000 in
theorem lc_first {p : Program} {l : Launch} {e : Env} {R : Room} {s : State} {m : MethodId} {args : Array Value} {below : List Frame} {meth : Method} {c : Code} {H : Heap} {locs : List Loc} {cells slots : Nat} {Q : State → Prop} {ls : Array Slot} {D : va_G} {cI cZ cT : ClassId} {A : Nat → Prop} {nx : Nat} {ra : Nat → Nat} {pa : Nat → Nat} {ta : Nat → Nat} {da : Nat → Nat} {ia : Nat} {xa : Nat} {fa : Nat → Nat} {za : Nat → Nat} {gb : Nat → Nat → Nat} {ga : Nat → Nat → Nat} {A0 : Nat → Nat} {b L i : Nat} {xs : Nat → Int32} (hx : p.tables.exec = Jvm.exec) (hb : c.code = cL_law) (hml : c.maxLocals = 4) (hown : s.vm.findClass RL = some m.cls) (hts : ∀ w ∈ wsL_law, w.before args s = true) (hX : va_X b L xs s s.heap) (hbl : b < s.heap.size) (hbA : ¬ A b) (hK : KX D cI cZ cT s) (hL : L ≤ 3072) (hi : i + 5 < L) (hRm : R = room_1) (hC : cells + 0 ≤ R.cells) (hSl : slots + 0 ≤ R.slots) (hl : lv_has ls 4 [(0, .ref b), (1, .ref nx), (2, .ref (A0 0)), (3, .int (nI i))]) (hI : LInv D cI cZ cT A s nx ra pa ta da ia xa fa za gb ga A0 H locs) (K : ∀ (ls : Array Slot) (H : Heap) (locs : List Loc), LInv D cI cZ cT A s nx ra pa ta da ia xa fa za gb ga A0 H locs → lv_has ls 4 [(0, .ref b), (1, .ref nx), (2, .ref (A0 0)), (3, .int (nI i))] → W p l e R s m args below meth c H locs cells slots Q (F0 m 1152 ls [])) : W p l e R s m args below meth c H locs cells slots Q (F0 m 677 ls []) := by
  subst hRm
  obtain ⟨un, na, fi, it, la, sz, tl, tf, tat, tw, bt, st, dy, ln, rd, kd, dd, nt, lf, yd, co, wy, zl, zn, gi, gs, mss, mtp, mfk, mfp, map, msp, mtk, mvl, mac, mtr, mla, mma, mit, msr, mbt, mnw, mdr, mpa, mim, mkp, mtc, ⟨hRw, hTp, hTl, hAc, hIm, hTr, hfi, htf⟩, hP, hD, hS⟩ := hI
  subst hfi
  subst htf
  obtain ⟨n, hrd, hTR⟩ := id hTl
  obtain ⟨u, w, hun, hna, hac, hAx⟩ := id hAc
  obtain ⟨t, ht, htl, htp, hBB⟩ := id hTp
  obtain ⟨z, hz, hzl, htr, hzz⟩ := id hTr
  have hrd : rd = nI n := hrd
  subst hrd
  subst hun
  subst hna
  subst hac
  subst htl
  subst htp
  subst hzl
  subst htr
  refine lv_aload_n hx hb dL_law_677 rfl (lv_at hl 1 rfl) ?_
  refine lv_aload_n hx hb dL_law_678 rfl (lv_at hl 0 rfl) ?_
  refine lv_iload_n hx hb dL_law_679 rfl (lv_at hl 3 rfl) ?_
  refine lv_iconst (v := nI 1) hx hb dL_law_680 (by decide) ?_
  refine b_add hx hb dL_law_681 ?_
  refine b_sld hx hb hX hbl hbA hS (show i + 1 < L by omega) hL dL_law_682 ?_
  have he := e_first hTR (xs (i + 1))
  refine b_callL (va_runV (As := [.int (xs (i + 1))]) (rest := []) ⟨hx, hb, hml, hown, hts⟩ (k_first l D cI cZ cT nx ra pa ta da ia xa fa za gb ga (nI u) (nI w) fi it la sz (nI t) tf tat tw bt st dy ln (nI n) kd dd nt lf yd co wy (nI z) zn gi gs (xs (i + 1)) n rfl hTR.n6 hTR.ar) (cwV 1 hts gL_law_X11_first rfl rfl rfl (by decide +kernel) ⟨(Nat.le_of_ble_eq_true rfl), (Nat.le_of_ble_eq_true rfl)⟩) (b_pL hK hP hD (ci := 10) rfl rfl) rfl rfl hl.1 rfl (lv_room (Nat.le_of_ble_eq_true rfl)) dL_law_683 ⟨hC, hSl⟩).run hP hD hS wX_fst (fun H locs hP hD hS => ?_)
  refine lv_aload_n hx hb dL_law_686 rfl (lv_at hl 2 rfl) ?_
  refine lv_aload_n hx hb dL_law_687 rfl (lv_at hl 0 rfl) ?_
  refine lv_iload_n hx hb dL_law_688 rfl (lv_at hl 3 rfl) ?_
  refine lv_iconst (v := nI 1) hx hb dL_law_689 (by decide) ?_
  refine b_add hx hb dL_law_690 ?_
  refine b_sld hx hb hX hbl hbA hS (show i + 1 < L by omega) hL dL_law_691 ?_
  refine b_callRt (va_runV (As := [.int (xs (i + 1))]) (rest := [.int (x_first st dy n kd dd nt lf (xs (i + 1)))]) ⟨hx, hb, hml, hown, hts⟩ (j_first l D cI cZ cT A0 fi (nI t) tf mfp map msp mtk mvl (nI u) (nI z) mla mma mit msr mbt mnw mdr mpa mim mkp mtc (xs (i + 1)) n  hTR.2.2.2.2.2.1) (cwV 1 hts gL_law_X12_first rfl rfl rfl (by decide +kernel) ⟨(Nat.le_of_ble_eq_true rfl), (Nat.le_of_ble_eq_true rfl)⟩) (b_pRt hK hP hD (ci := 11) rfl rfl) rfl rfl hl.1 rfl (lv_room (Nat.le_of_ble_eq_true rfl)) dL_law_692 ⟨hC, hSl⟩).run hP hD hS rfl (fun H locs hP hD hS => ?_)
  refine lv_icmp_eq (tgt := 1152) hx hb dL_law_695 (by decide) (fun c9 => ?_) (fun c9 => absurd (show (x_first st dy n kd dd nt lf (xs (i + 1))) = (m_first mnw n (xs (i + 1))) from he) c9)
  exact K ls H locs ⟨(nI u), (nI w), fi, it, la, sz, (nI t), tf, tat, tw, bt, st, dy, ln, (nI n), kd, dd, nt, lf, yd, co, wy, (nI z), zn, gi, gs, fi, (nI t), tf, mfp, map, msp, mtk, mvl, (nI u), (nI z), mla, mma, mit, msr, mbt, mnw, mdr, mpa, mim, mkp, mtc, ⟨hRw, hTp, hTl, hAc, hIm, hTr, rfl, rfl⟩, hP, hD, hS⟩ hl
set_option maxHeartbeats 600000 in
set_option maxRecDepth 100000 in
theorem lc_toWrite {p : Program} {l : Launch} {e : Env} {R : Room} {s : State} {m : MethodId} {args : Array Value} {below : List Frame} {meth : Method} {c : Code} {H : Heap} {locs : List Loc} {cells slots : Nat} {Q : State → Prop} {ls : Array Slot} {D : va_G} {cI cZ cT : ClassId} {A : Nat → Prop} {nx : Nat} {ra : Nat → Nat} {pa : Nat → Nat} {ta : Nat → Nat} {da : Nat → Nat} {ia : Nat} {xa : Nat} {fa : Nat → Nat} {za : Nat → Nat} {gb : Nat → Nat → Nat} {ga : Nat → Nat → Nat} {A0 : Nat → Nat} {b L i : Nat} {xs : Nat → Int32} (hx : p.tables.exec = Jvm.exec) (hb : c.code = cL_law) (hml : c.maxLocals = 4) (hown : s.vm.findClass RL = some m.cls) (hts : ∀ w ∈ wsL_law, w.before args s = true) (hX : va_X b L xs s s.heap) (hbl : b < s.heap.size) (hbA : ¬ A b) (hK : KX D cI cZ cT s) (hL : L ≤ 3072) (hi : i + 5 < L) (hRm : R = room_1) (hC : cells + 0 ≤ R.cells) (hSl : slots + 0 ≤ R.slots) (hl : lv_has ls 4 [(0, .ref b), (1, .ref nx), (2, .ref (A0 0)), (3, .int (nI i))]) (hI : LInv D cI cZ cT A s nx ra pa ta da ia xa fa za gb ga A0 H locs) (K : ∀ (ls : Array Slot) (H : Heap) (locs : List Loc), LInv D cI cZ cT A s nx ra pa ta da ia xa fa za gb ga A0 H locs → lv_has ls 4 [(0, .ref b), (1, .ref nx), (2, .ref (A0 0)), (3, .int (nI i))] → W p l e R s m args below meth c H locs cells slots Q (F0 m 1152 ls [])) : W p l e R s m args below meth c H locs cells slots Q (F0 m 700 ls []) := by
  subst hRm
  obtain ⟨un, na, fi, it, la, sz, tl, tf, tat, tw, bt, st, dy, ln, rd, kd, dd, nt, lf, yd, co, wy, zl, zn, gi, gs, mss, mtp, mfk, mfp, map, msp, mtk, mvl, mac, mtr, mla, mma, mit, msr, mbt, mnw, mdr, mpa, mim, mkp, mtc, ⟨hRw, hTp, hTl, hAc, hIm, hTr, hfi, htf⟩, hP, hD, hS⟩ := hI
  subst hfi
  subst htf
  obtain ⟨n, hrd, hTR⟩ := id hTl
  obtain ⟨u, w, hun, hna, hac, hAx⟩ := id hAc
  obtain ⟨t, ht, htl, htp, hBB⟩ := id hTp
  obtain ⟨z, hz, hzl, htr, hzz⟩ := id hTr
  have hrd : rd = nI n := hrd
  subst hrd
  subst hun
  subst hna
  subst hac
  subst htl
  subst htp
  subst hzl
  subst htr
  refine lv_aload_n hx hb dL_law_700 rfl (lv_at hl 1 rfl) ?_
  refine lv_aload_n hx hb dL_law_701 rfl (lv_at hl 0 rfl) ?_
  refine lv_iload_n hx hb dL_law_702 rfl (lv_at hl 3 rfl) ?_
  refine lv_iconst (v := nI 1) hx hb dL_law_703 (by decide) ?_
  refine b_add hx hb dL_law_704 ?_
  refine b_sld hx hb hX hbl hbA hS (show i + 1 < L by omega) hL dL_law_705 ?_
  refine lv_aload_n hx hb dL_law_706 rfl (lv_at hl 0 rfl) ?_
  refine lv_iload_n hx hb dL_law_707 rfl (lv_at hl 3 rfl) ?_
  refine lv_iconst (v := nI 2) hx hb dL_law_708 (by decide) ?_
  refine b_add hx hb dL_law_709 ?_
  refine b_sld hx hb hX hbl hbA hS (show i + 2 < L by omega) hL dL_law_710 ?_
  refine lv_aload_n hx hb dL_law_711 rfl (lv_at hl 0 rfl) ?_
  refine lv_iload_n hx hb dL_law_712 rfl (lv_at hl 3 rfl) ?_
  refine lv_iconst (v := nI 3) hx hb dL_law_713 (by decide) ?_
  refine b_add hx hb dL_law_714 ?_
  refine b_sld hx hb hX hbl hbA hS (show i + 3 < L by omega) hL dL_law_715 ?_
  have he := e_toWrite hTR (xs (i + 1)) (xs (i + 2)) (xs (i + 3))
  refine b_callL (va_runV (As := [.int (xs (i + 1)), .int (xs (i + 2)), .int (xs (i + 3))]) (rest := []) ⟨hx, hb, hml, hown, hts⟩ (k_toWrite l D cI cZ cT nx ra pa ta da ia xa fa za gb ga (nI u) (nI w) fi it la sz (nI t) tf tat tw bt st dy ln (nI n) kd dd nt lf yd co wy (nI z) zn gi gs (xs (i + 1)) (xs (i + 2)) (xs (i + 3)) n rfl hTR.n6 hTR.ar) (cwV 3 hts gL_law_X11_toWrite rfl rfl rfl (by decide +kernel) ⟨(Nat.le_of_ble_eq_true rfl), (Nat.le_of_ble_eq_true rfl)⟩) (b_pL hK hP hD (ci := 10) rfl rfl) rfl rfl hl.1 rfl (lv_room (Nat.le_of_ble_eq_true rfl)) dL_law_716 ⟨hC, hSl⟩).run hP hD hS wX_fst (fun H locs hP hD hS => ?_)
  refine lv_aload_n hx hb dL_law_719 rfl (lv_at hl 2 rfl) ?_
  refine lv_aload_n hx hb dL_law_720 rfl (lv_at hl 0 rfl) ?_
  refine lv_iload_n hx hb dL_law_721 rfl (lv_at hl 3 rfl) ?_
  refine lv_iconst (v := nI 1) hx hb dL_law_722 (by decide) ?_
  refine b_add hx hb dL_law_723 ?_
  refine b_sld hx hb hX hbl hbA hS (show i + 1 < L by omega) hL dL_law_724 ?_
  refine lv_aload_n hx hb dL_law_725 rfl (lv_at hl 0 rfl) ?_
  refine lv_iload_n hx hb dL_law_726 rfl (lv_at hl 3 rfl) ?_
  refine lv_iconst (v := nI 2) hx hb dL_law_727 (by decide) ?_
  refine b_add hx hb dL_law_728 ?_
  refine b_sld hx hb hX hbl hbA hS (show i + 2 < L by omega) hL dL_law_729 ?_
  refine lv_aload_n hx hb dL_law_730 rfl (lv_at hl 0 rfl) ?_
  refine lv_iload_n hx hb dL_law_731 rfl (lv_at hl 3 rfl) ?_
  refine lv_iconst (v := nI 3) hx hb dL_law_732 (by decide) ?_
  refine b_add hx hb dL_law_733 ?_
  refine b_sld hx hb hX hbl hbA hS (show i + 3 < L by omega) hL dL_law_734 ?_
  refine b_callRt (va_runV (As := [.int (xs (i + 1)), .int (xs (i + 2)), .int (xs (i + 3))]) (rest := [.int (x_toWrite dy n kd dd nt lf (xs (i + 1)) (xs (i + 2)) (xs (i + 3)))]) ⟨hx, hb, hml, hown, hts⟩ (j_toWrite l D cI cZ cT A0 fi (nI t) tf mfp map msp mtk mvl (nI u) (nI z) mla mma mit msr mbt mnw mdr mpa mim mkp mtc (xs (i + 1)) (xs (i + 2)) (xs (i + 3)) n  hTR.2.2.2.2.2.1) (cwV 3 hts gL_law_X12_toWrite rfl rfl rfl (by decide +kernel) ⟨(Nat.le_of_ble_eq_true rfl), (Nat.le_of_ble_eq_true rfl)⟩) (b_pRt hK hP hD (ci := 11) rfl rfl) rfl rfl hl.1 rfl (lv_room (Nat.le_of_ble_eq_true rfl)) dL_law_735 ⟨hC, hSl⟩).run hP hD hS rfl (fun H locs hP hD hS => ?_)
  refine lv_icmp_eq (tgt := 1152) hx hb dL_law_738 (by decide) (fun c9 => ?_) (fun c9 => absurd (show (x_toWrite dy n kd dd nt lf (xs (i + 1)) (xs (i + 2)) (xs (i + 3))) = (m_toWrite mnw (xs (i + 1)) (xs (i + 2)) (xs (i + 3))) from he) c9)
  exact K ls H locs ⟨(nI u), (nI w), fi, it, la, sz, (nI t), tf, tat, tw, bt, st, dy, ln, (nI n), kd, dd, nt, lf, yd, co, wy, (nI z), zn, gi, gs, fi, (nI t), tf, mfp, map, msp, mtk, mvl, (nI u), (nI z), mla, mma, mit, msr, mbt, mnw, mdr, mpa, mim, mkp, mtc, ⟨hRw, hTp, hTl, hAc, hIm, hTr, rfl, rfl⟩, hP, hD, hS⟩ hl
set_option maxHeartbeats 600000 in
set_option maxRecDepth 100000 in
theorem lc_toDeny {p : Program} {l : Launch} {e : Env} {R : Room} {s : State} {m : MethodId} {args : Array Value} {below : List Frame} {meth : Method} {c : Code} {H : Heap} {locs : List Loc} {cells slots : Nat} {Q : State → Prop} {ls : Array Slot} {D : va_G} {cI cZ cT : ClassId} {A : Nat → Prop} {nx : Nat} {ra : Nat → Nat} {pa : Nat → Nat} {ta : Nat → Nat} {da : Nat → Nat} {ia : Nat} {xa : Nat} {fa : Nat → Nat} {za : Nat → Nat} {gb : Nat → Nat → Nat} {ga : Nat → Nat → Nat} {A0 : Nat → Nat} {b L i : Nat} {xs : Nat → Int32} (hx : p.tables.exec = Jvm.exec) (hb : c.code = cL_law) (hml : c.maxLocals = 4) (hown : s.vm.findClass RL = some m.cls) (hts : ∀ w ∈ wsL_law, w.before args s = true) (hX : va_X b L xs s s.heap) (hbl : b < s.heap.size) (hbA : ¬ A b) (hK : KX D cI cZ cT s) (hL : L ≤ 3072) (hi : i + 5 < L) (hRm : R = room_1) (hC : cells + 0 ≤ R.cells) (hSl : slots + 0 ≤ R.slots) (hl : lv_has ls 4 [(0, .ref b), (1, .ref nx), (2, .ref (A0 0)), (3, .int (nI i))]) (hI : LInv D cI cZ cT A s nx ra pa ta da ia xa fa za gb ga A0 H locs) (K : ∀ (ls : Array Slot) (H : Heap) (locs : List Loc), LInv D cI cZ cT A s nx ra pa ta da ia xa fa za gb ga A0 H locs → lv_has ls 4 [(0, .ref b), (1, .ref nx), (2, .ref (A0 0)), (3, .int (nI i))] → W p l e R s m args below meth c H locs cells slots Q (F0 m 1152 ls [])) : W p l e R s m args below meth c H locs cells slots Q (F0 m 743 ls []) := by
  subst hRm
  obtain ⟨un, na, fi, it, la, sz, tl, tf, tat, tw, bt, st, dy, ln, rd, kd, dd, nt, lf, yd, co, wy, zl, zn, gi, gs, mss, mtp, mfk, mfp, map, msp, mtk, mvl, mac, mtr, mla, mma, mit, msr, mbt, mnw, mdr, mpa, mim, mkp, mtc, ⟨hRw, hTp, hTl, hAc, hIm, hTr, hfi, htf⟩, hP, hD, hS⟩ := hI
  subst hfi
  subst htf
  obtain ⟨n, hrd, hTR⟩ := id hTl
  obtain ⟨u, w, hun, hna, hac, hAx⟩ := id hAc
  obtain ⟨t, ht, htl, htp, hBB⟩ := id hTp
  obtain ⟨z, hz, hzl, htr, hzz⟩ := id hTr
  have hrd : rd = nI n := hrd
  subst hrd
  subst hun
  subst hna
  subst hac
  subst htl
  subst htp
  subst hzl
  subst htr
  refine lv_aload_n hx hb dL_law_743 rfl (lv_at hl 1 rfl) ?_
  refine lv_aload_n hx hb dL_law_744 rfl (lv_at hl 0 rfl) ?_
  refine lv_iload_n hx hb dL_law_745 rfl (lv_at hl 3 rfl) ?_
  refine lv_iconst (v := nI 1) hx hb dL_law_746 (by decide) ?_
  refine b_add hx hb dL_law_747 ?_
  refine b_sld hx hb hX hbl hbA hS (show i + 1 < L by omega) hL dL_law_748 ?_
  refine lv_aload_n hx hb dL_law_749 rfl (lv_at hl 0 rfl) ?_
  refine lv_iload_n hx hb dL_law_750 rfl (lv_at hl 3 rfl) ?_
  refine lv_iconst (v := nI 2) hx hb dL_law_751 (by decide) ?_
  refine b_add hx hb dL_law_752 ?_
  refine b_sld hx hb hX hbl hbA hS (show i + 2 < L by omega) hL dL_law_753 ?_
  have he := e_toDeny hTR (xs (i + 1)) (xs (i + 2))
  refine b_callL (va_runV (As := [.int (xs (i + 1)), .int (xs (i + 2))]) (rest := []) ⟨hx, hb, hml, hown, hts⟩ (k_toDeny l D cI cZ cT nx ra pa ta da ia xa fa za gb ga (nI u) (nI w) fi it la sz (nI t) tf tat tw bt st dy ln (nI n) kd dd nt lf yd co wy (nI z) zn gi gs (xs (i + 1)) (xs (i + 2)) n rfl hTR.n6 hTR.ar) (cwV 2 hts gL_law_X11_toDeny rfl rfl rfl (by decide +kernel) ⟨(Nat.le_of_ble_eq_true rfl), (Nat.le_of_ble_eq_true rfl)⟩) (b_pL hK hP hD (ci := 10) rfl rfl) rfl rfl hl.1 rfl (lv_room (Nat.le_of_ble_eq_true rfl)) dL_law_754 ⟨hC, hSl⟩).run hP hD hS wX_fst (fun H locs hP hD hS => ?_)
  refine lv_aload_n hx hb dL_law_757 rfl (lv_at hl 2 rfl) ?_
  refine lv_aload_n hx hb dL_law_758 rfl (lv_at hl 0 rfl) ?_
  refine lv_iload_n hx hb dL_law_759 rfl (lv_at hl 3 rfl) ?_
  refine lv_iconst (v := nI 1) hx hb dL_law_760 (by decide) ?_
  refine b_add hx hb dL_law_761 ?_
  refine b_sld hx hb hX hbl hbA hS (show i + 1 < L by omega) hL dL_law_762 ?_
  refine lv_aload_n hx hb dL_law_763 rfl (lv_at hl 0 rfl) ?_
  refine lv_iload_n hx hb dL_law_764 rfl (lv_at hl 3 rfl) ?_
  refine lv_iconst (v := nI 2) hx hb dL_law_765 (by decide) ?_
  refine b_add hx hb dL_law_766 ?_
  refine b_sld hx hb hX hbl hbA hS (show i + 2 < L by omega) hL dL_law_767 ?_
  refine b_callRt (va_runV (As := [.int (xs (i + 1)), .int (xs (i + 2))]) (rest := [.int (x_toDeny dy n kd dd nt lf (xs (i + 1)) (xs (i + 2)))]) ⟨hx, hb, hml, hown, hts⟩ (j_toDeny l D cI cZ cT A0 fi (nI t) tf mfp map msp mtk mvl (nI u) (nI z) mla mma mit msr mbt mnw mdr mpa mim mkp mtc (xs (i + 1)) (xs (i + 2)) n  hTR.2.2.2.2.2.1) (cwV 2 hts gL_law_X12_toDeny rfl rfl rfl (by decide +kernel) ⟨(Nat.le_of_ble_eq_true rfl), (Nat.le_of_ble_eq_true rfl)⟩) (b_pRt hK hP hD (ci := 11) rfl rfl) rfl rfl hl.1 rfl (lv_room (Nat.le_of_ble_eq_true rfl)) dL_law_768 ⟨hC, hSl⟩).run hP hD hS rfl (fun H locs hP hD hS => ?_)
  refine lv_icmp_eq (tgt := 1152) hx hb dL_law_771 (by decide) (fun c9 => ?_) (fun c9 => absurd (show (x_toDeny dy n kd dd nt lf (xs (i + 1)) (xs (i + 2))) = (m_toDeny mnw (xs (i + 1)) (xs (i + 2))) from he) c9)
  exact K ls H locs ⟨(nI u), (nI w), fi, it, la, sz, (nI t), tf, tat, tw, bt, st, dy, ln, (nI n), kd, dd, nt, lf, yd, co, wy, (nI z), zn, gi, gs, fi, (nI t), tf, mfp, map, msp, mtk, mvl, (nI u), (nI z), mla, mma, mit, msr, mbt, mnw, mdr, mpa, mim, mkp, mtc, ⟨hRw, hTp, hTl, hAc, hIm, hTr, rfl, rfl⟩, hP, hD, hS⟩ hl
set_option maxHeartbeats 600000 in
set_option maxRecDepth 100000 in
theorem lc_print {p : Program} {l : Launch} {e : Env} {R : Room} {s : State} {m : MethodId} {args : Array Value} {below : List Frame} {meth : Method} {c : Code} {H : Heap} {locs : List Loc} {cells slots : Nat} {Q : State → Prop} {ls : Array Slot} {D : va_G} {cI cZ cT : ClassId} {A : Nat → Prop} {nx : Nat} {ra : Nat → Nat} {pa : Nat → Nat} {ta : Nat → Nat} {da : Nat → Nat} {ia : Nat} {xa : Nat} {fa : Nat → Nat} {za : Nat → Nat} {gb : Nat → Nat → Nat} {ga : Nat → Nat → Nat} {A0 : Nat → Nat} {b L i : Nat} {xs : Nat → Int32} (hx : p.tables.exec = Jvm.exec) (hb : c.code = cL_law) (hml : c.maxLocals = 4) (hown : s.vm.findClass RL = some m.cls) (hts : ∀ w ∈ wsL_law, w.before args s = true) (hX : va_X b L xs s s.heap) (hbl : b < s.heap.size) (hbA : ¬ A b) (hK : KX D cI cZ cT s) (hL : L ≤ 3072) (hi : i + 5 < L) (hRm : R = room_1) (hC : cells + 0 ≤ R.cells) (hSl : slots + 0 ≤ R.slots) (hl : lv_has ls 4 [(0, .ref b), (1, .ref nx), (2, .ref (A0 0)), (3, .int (nI i))]) (hI : LInv D cI cZ cT A s nx ra pa ta da ia xa fa za gb ga A0 H locs) (K : ∀ (ls : Array Slot) (H : Heap) (locs : List Loc), LInv D cI cZ cT A s nx ra pa ta da ia xa fa za gb ga A0 H locs → lv_has ls 4 [(0, .ref b), (1, .ref nx), (2, .ref (A0 0)), (3, .int (nI i))] → W p l e R s m args below meth c H locs cells slots Q (F0 m 1152 ls [])) : W p l e R s m args below meth c H locs cells slots Q (F0 m 776 ls []) := by
  subst hRm
  obtain ⟨un, na, fi, it, la, sz, tl, tf, tat, tw, bt, st, dy, ln, rd, kd, dd, nt, lf, yd, co, wy, zl, zn, gi, gs, mss, mtp, mfk, mfp, map, msp, mtk, mvl, mac, mtr, mla, mma, mit, msr, mbt, mnw, mdr, mpa, mim, mkp, mtc, ⟨hRw, hTp, hTl, hAc, hIm, hTr, hfi, htf⟩, hP, hD, hS⟩ := hI
  subst hfi
  subst htf
  obtain ⟨n, hrd, hTR⟩ := id hTl
  obtain ⟨u, w, hun, hna, hac, hAx⟩ := id hAc
  obtain ⟨t, ht, htl, htp, hBB⟩ := id hTp
  obtain ⟨z, hz, hzl, htr, hzz⟩ := id hTr
  have hrd : rd = nI n := hrd
  subst hrd
  subst hun
  subst hna
  subst hac
  subst htl
  subst htp
  subst hzl
  subst htr
  refine lv_aload_n hx hb dL_law_776 rfl (lv_at hl 1 rfl) ?_
  refine lv_aload_n hx hb dL_law_777 rfl (lv_at hl 0 rfl) ?_
  refine lv_iload_n hx hb dL_law_778 rfl (lv_at hl 3 rfl) ?_
  refine lv_iconst (v := nI 1) hx hb dL_law_779 (by decide) ?_
  refine b_add hx hb dL_law_780 ?_
  refine b_sld hx hb hX hbl hbA hS (show i + 1 < L by omega) hL dL_law_781 ?_
  have he := e_print hTR (xs (i + 1))
  refine b_callL (va_runV (As := [.int (xs (i + 1))]) (rest := []) ⟨hx, hb, hml, hown, hts⟩ (k_print l D cI cZ cT nx ra pa ta da ia xa fa za gb ga (nI u) (nI w) fi it la sz (nI t) tf tat tw bt st dy ln (nI n) kd dd nt lf yd co wy (nI z) zn gi gs (xs (i + 1)) n rfl hTR.n6) (cwV 1 hts gL_law_X11_print rfl rfl rfl (by decide +kernel) ⟨(Nat.le_of_ble_eq_true rfl), (Nat.le_of_ble_eq_true rfl)⟩) (b_pL hK hP hD (ci := 10) rfl rfl) rfl rfl hl.1 rfl (lv_room (Nat.le_of_ble_eq_true rfl)) dL_law_782 ⟨hC, hSl⟩).run hP hD hS wX_fst (fun H locs hP hD hS => ?_)
  refine lv_aload_n hx hb dL_law_785 rfl (lv_at hl 2 rfl) ?_
  refine lv_aload_n hx hb dL_law_786 rfl (lv_at hl 0 rfl) ?_
  refine lv_iload_n hx hb dL_law_787 rfl (lv_at hl 3 rfl) ?_
  refine lv_iconst (v := nI 1) hx hb dL_law_788 (by decide) ?_
  refine b_add hx hb dL_law_789 ?_
  refine b_sld hx hb hX hbl hbA hS (show i + 1 < L by omega) hL dL_law_790 ?_
  refine b_callRt (va_runV (As := [.int (xs (i + 1))]) (rest := [.int (x_print st ln n dd nt (xs (i + 1)))]) ⟨hx, hb, hml, hown, hts⟩ (j_print l D cI cZ cT A0 fi (nI t) tf mfp map msp mtk mvl (nI u) (nI z) mla mma mit msr mbt mnw mdr mpa mim mkp mtc (xs (i + 1)) n  hTR.2.2.2.2.2.1) (cwV 1 hts gL_law_X12_print rfl rfl rfl (by decide +kernel) ⟨(Nat.le_of_ble_eq_true rfl), (Nat.le_of_ble_eq_true rfl)⟩) (b_pRt hK hP hD (ci := 11) rfl rfl) rfl rfl hl.1 rfl (lv_room (Nat.le_of_ble_eq_true rfl)) dL_law_791 ⟨hC, hSl⟩).run hP hD hS rfl (fun H locs hP hD hS => ?_)
  refine lv_icmp_eq (tgt := 1152) hx hb dL_law_794 (by decide) (fun c9 => ?_) (fun c9 => absurd (show (x_print st ln n dd nt (xs (i + 1))) = (m_print mnw n (xs (i + 1))) from he) c9)
  exact K ls H locs ⟨(nI u), (nI w), fi, it, la, sz, (nI t), tf, tat, tw, bt, st, dy, ln, (nI n), kd, dd, nt, lf, yd, co, wy, (nI z), zn, gi, gs, fi, (nI t), tf, mfp, map, msp, mtk, mvl, (nI u), (nI z), mla, mma, mit, msr, mbt, mnw, mdr, mpa, mim, mkp, mtc, ⟨hRw, hTp, hTl, hAc, hIm, hTr, rfl, rfl⟩, hP, hD, hS⟩ hl
set_option maxHeartbeats 600000 in
set_option maxRecDepth 100000 in
theorem lc_temper {p : Program} {l : Launch} {e : Env} {R : Room} {s : State} {m : MethodId} {args : Array Value} {below : List Frame} {meth : Method} {c : Code} {H : Heap} {locs : List Loc} {cells slots : Nat} {Q : State → Prop} {ls : Array Slot} {D : va_G} {cI cZ cT : ClassId} {A : Nat → Prop} {nx : Nat} {ra : Nat → Nat} {pa : Nat → Nat} {ta : Nat → Nat} {da : Nat → Nat} {ia : Nat} {xa : Nat} {fa : Nat → Nat} {za : Nat → Nat} {gb : Nat → Nat → Nat} {ga : Nat → Nat → Nat} {A0 : Nat → Nat} {b L i : Nat} {xs : Nat → Int32} (hx : p.tables.exec = Jvm.exec) (hb : c.code = cL_law) (hml : c.maxLocals = 4) (hown : s.vm.findClass RL = some m.cls) (hts : ∀ w ∈ wsL_law, w.before args s = true) (hX : va_X b L xs s s.heap) (hbl : b < s.heap.size) (hbA : ¬ A b) (hK : KX D cI cZ cT s) (hL : L ≤ 3072) (hi : i + 5 < L) (hRm : R = room_1) (hC : cells + 0 ≤ R.cells) (hSl : slots + 0 ≤ R.slots) (hl : lv_has ls 4 [(0, .ref b), (1, .ref nx), (2, .ref (A0 0)), (3, .int (nI i))]) (hI : LInv D cI cZ cT A s nx ra pa ta da ia xa fa za gb ga A0 H locs) (K : ∀ (ls : Array Slot) (H : Heap) (locs : List Loc), LInv D cI cZ cT A s nx ra pa ta da ia xa fa za gb ga A0 H locs → lv_has ls 4 [(0, .ref b), (1, .ref nx), (2, .ref (A0 0)), (3, .int (nI i))] → W p l e R s m args below meth c H locs cells slots Q (F0 m 1152 ls [])) : W p l e R s m args below meth c H locs cells slots Q (F0 m 799 ls []) := by
  subst hRm
  obtain ⟨un, na, fi, it, la, sz, tl, tf, tat, tw, bt, st, dy, ln, rd, kd, dd, nt, lf, yd, co, wy, zl, zn, gi, gs, mss, mtp, mfk, mfp, map, msp, mtk, mvl, mac, mtr, mla, mma, mit, msr, mbt, mnw, mdr, mpa, mim, mkp, mtc, ⟨hRw, hTp, hTl, hAc, hIm, hTr, hfi, htf⟩, hP, hD, hS⟩ := hI
  subst hfi
  subst htf
  obtain ⟨n, hrd, hTR⟩ := id hTl
  obtain ⟨u, w, hun, hna, hac, hAx⟩ := id hAc
  obtain ⟨t, ht, htl, htp, hBB⟩ := id hTp
  obtain ⟨z, hz, hzl, htr, hzz⟩ := id hTr
  have hrd : rd = nI n := hrd
  subst hrd
  subst hun
  subst hna
  subst hac
  subst htl
  subst htp
  subst hzl
  subst htr
  refine lv_aload_n hx hb dL_law_799 rfl (lv_at hl 1 rfl) ?_
  refine lv_aload_n hx hb dL_law_800 rfl (lv_at hl 0 rfl) ?_
  refine lv_iload_n hx hb dL_law_801 rfl (lv_at hl 3 rfl) ?_
  refine lv_iconst (v := nI 1) hx hb dL_law_802 (by decide) ?_
  refine b_add hx hb dL_law_803 ?_
  refine b_sld hx hb hX hbl hbA hS (show i + 1 < L by omega) hL dL_law_804 ?_
  refine lv_aload_n hx hb dL_law_805 rfl (lv_at hl 0 rfl) ?_
  refine lv_iload_n hx hb dL_law_806 rfl (lv_at hl 3 rfl) ?_
  refine lv_iconst (v := nI 2) hx hb dL_law_807 (by decide) ?_
  refine b_add hx hb dL_law_808 ?_
  refine b_sld hx hb hX hbl hbA hS (show i + 2 < L by omega) hL dL_law_809 ?_
  refine lv_aload_n hx hb dL_law_810 rfl (lv_at hl 0 rfl) ?_
  refine lv_iload_n hx hb dL_law_811 rfl (lv_at hl 3 rfl) ?_
  refine lv_iconst (v := nI 3) hx hb dL_law_812 (by decide) ?_
  refine b_add hx hb dL_law_813 ?_
  refine b_sld hx hb hX hbl hbA hS (show i + 3 < L by omega) hL dL_law_814 ?_
  refine lv_aload_n hx hb dL_law_815 rfl (lv_at hl 0 rfl) ?_
  refine lv_iload_n hx hb dL_law_816 rfl (lv_at hl 3 rfl) ?_
  refine lv_iconst (v := nI 4) hx hb dL_law_817 (by decide) ?_
  refine b_add hx hb dL_law_818 ?_
  refine b_sld hx hb hX hbl hbA hS (show i + 4 < L by omega) hL dL_law_819 ?_
  have he := e_temper hTR (co := co) hRw fi (xs (i + 1)) (xs (i + 2)) (xs (i + 3)) (xs (i + 4))
  have hkX := (k_temper l D cI cZ cT nx ra pa ta da ia xa fa za gb ga (nI u) (nI w) fi it la sz (nI t) tf tat tw bt st dy ln (nI n) kd dd nt lf yd co wy (nI z) zn gi gs (xs (i + 1)) (xs (i + 2)) (xs (i + 3)) (xs (i + 4)) n rfl hTR.n6 (fun r hr => (hRw r hr).1))
  generalize eZ9 : x_temper fi dy n dd nt lf la sz it co (xs (i + 1)) (xs (i + 2)) (xs (i + 3)) (xs (i + 4)) = Z9 at hkX he
  refine b_callL (va_runV (As := [.int (xs (i + 1)), .int (xs (i + 2)), .int (xs (i + 3)), .int (xs (i + 4))]) (rest := []) ⟨hx, hb, hml, hown, hts⟩ hkX (cwV 4 hts gL_law_X11_temper rfl rfl rfl (by decide +kernel) ⟨(Nat.le_of_ble_eq_true rfl), (Nat.le_of_ble_eq_true rfl)⟩) (b_pL hK hP hD (ci := 10) rfl rfl) rfl rfl hl.1 rfl (lv_room (Nat.le_of_ble_eq_true rfl)) dL_law_820 ⟨hC, hSl⟩).run hP hD hS wX_fst (fun H locs hP hD hS => ?_)
  refine lv_aload_n hx hb dL_law_823 rfl (lv_at hl 2 rfl) ?_
  refine lv_aload_n hx hb dL_law_824 rfl (lv_at hl 0 rfl) ?_
  refine lv_iload_n hx hb dL_law_825 rfl (lv_at hl 3 rfl) ?_
  refine lv_iconst (v := nI 1) hx hb dL_law_826 (by decide) ?_
  refine b_add hx hb dL_law_827 ?_
  refine b_sld hx hb hX hbl hbA hS (show i + 1 < L by omega) hL dL_law_828 ?_
  refine lv_aload_n hx hb dL_law_829 rfl (lv_at hl 0 rfl) ?_
  refine lv_iload_n hx hb dL_law_830 rfl (lv_at hl 3 rfl) ?_
  refine lv_iconst (v := nI 2) hx hb dL_law_831 (by decide) ?_
  refine b_add hx hb dL_law_832 ?_
  refine b_sld hx hb hX hbl hbA hS (show i + 2 < L by omega) hL dL_law_833 ?_
  refine lv_aload_n hx hb dL_law_834 rfl (lv_at hl 0 rfl) ?_
  refine lv_iload_n hx hb dL_law_835 rfl (lv_at hl 3 rfl) ?_
  refine lv_iconst (v := nI 3) hx hb dL_law_836 (by decide) ?_
  refine b_add hx hb dL_law_837 ?_
  refine b_sld hx hb hX hbl hbA hS (show i + 3 < L by omega) hL dL_law_838 ?_
  refine lv_aload_n hx hb dL_law_839 rfl (lv_at hl 0 rfl) ?_
  refine lv_iload_n hx hb dL_law_840 rfl (lv_at hl 3 rfl) ?_
  refine lv_iconst (v := nI 4) hx hb dL_law_841 (by decide) ?_
  refine b_add hx hb dL_law_842 ?_
  refine b_sld hx hb hX hbl hbA hS (show i + 4 < L by omega) hL dL_law_843 ?_
  have hjM := (j_temper l D cI cZ cT A0 fi (nI t) tf mfp map msp mtk mvl (nI u) (nI z) mla mma mit msr mbt mnw mdr mpa mim mkp mtc (xs (i + 1)) (xs (i + 2)) (xs (i + 3)) (xs (i + 4)) n  hTR.2.2.2.2.2.1 (fun r hr => (hRw r hr).2.1))
  generalize eM9 : m_temper fi mnw mla mma mit (xs (i + 1)) (xs (i + 2)) (xs (i + 3)) (xs (i + 4)) = M9 at hjM he
  refine b_callRt (va_runV (As := [.int (xs (i + 1)), .int (xs (i + 2)), .int (xs (i + 3)), .int (xs (i + 4))]) (rest := [.int (Z9.1)]) ⟨hx, hb, hml, hown, hts⟩ hjM (cwV 4 hts gL_law_X12_temper rfl rfl rfl (by decide +kernel) ⟨(Nat.le_of_ble_eq_true rfl), (Nat.le_of_ble_eq_true rfl)⟩) (b_pRt hK hP hD (ci := 11) rfl rfl) rfl rfl hl.1 rfl (lv_room (Nat.le_of_ble_eq_true rfl)) dL_law_844 ⟨hC, hSl⟩).run hP hD hS rfl (fun H locs hP hD hS => ?_)
  refine lv_icmp_eq (tgt := 1152) hx hb dL_law_847 (by decide) (fun c9 => ?_) (fun c9 => absurd (show (Z9.1) = (M9.1) from he.1) c9)
  exact K ls H locs ⟨(nI u), (nI w), (Z9.2.1), it, la, sz, (nI t), tf, tat, tw, bt, st, dy, ln, (nI n), kd, dd, nt, lf, yd, (Z9.2.2), wy, (nI z), zn, gi, gs, (M9.2), (nI t), tf, mfp, map, msp, mtk, mvl, (nI u), (nI z), mla, mma, mit, msr, mbt, mnw, mdr, mpa, mim, mkp, mtc, ⟨hRw, hTp, hTl, hAc, hIm, hTr, he.2, rfl⟩, hP, hD, hS⟩ hl
set_option maxHeartbeats 600000 in
set_option maxRecDepth 100000 in
theorem lc_told {p : Program} {l : Launch} {e : Env} {R : Room} {s : State} {m : MethodId} {args : Array Value} {below : List Frame} {meth : Method} {c : Code} {H : Heap} {locs : List Loc} {cells slots : Nat} {Q : State → Prop} {ls : Array Slot} {D : va_G} {cI cZ cT : ClassId} {A : Nat → Prop} {nx : Nat} {ra : Nat → Nat} {pa : Nat → Nat} {ta : Nat → Nat} {da : Nat → Nat} {ia : Nat} {xa : Nat} {fa : Nat → Nat} {za : Nat → Nat} {gb : Nat → Nat → Nat} {ga : Nat → Nat → Nat} {A0 : Nat → Nat} {b L i : Nat} {xs : Nat → Int32} (hx : p.tables.exec = Jvm.exec) (hb : c.code = cL_law) (hml : c.maxLocals = 4) (hown : s.vm.findClass RL = some m.cls) (hts : ∀ w ∈ wsL_law, w.before args s = true) (hX : va_X b L xs s s.heap) (hbl : b < s.heap.size) (hbA : ¬ A b) (hK : KX D cI cZ cT s) (hL : L ≤ 3072) (hi : i + 5 < L) (hRm : R = room_1) (hC : cells + 0 ≤ R.cells) (hSl : slots + 0 ≤ R.slots) (hl : lv_has ls 4 [(0, .ref b), (1, .ref nx), (2, .ref (A0 0)), (3, .int (nI i))]) (hI : LInv D cI cZ cT A s nx ra pa ta da ia xa fa za gb ga A0 H locs) (K : ∀ (ls : Array Slot) (H : Heap) (locs : List Loc), LInv D cI cZ cT A s nx ra pa ta da ia xa fa za gb ga A0 H locs → lv_has ls 4 [(0, .ref b), (1, .ref nx), (2, .ref (A0 0)), (3, .int (nI i))] → W p l e R s m args below meth c H locs cells slots Q (F0 m 1152 ls [])) : W p l e R s m args below meth c H locs cells slots Q (F0 m 852 ls []) := by
  subst hRm
  obtain ⟨un, na, fi, it, la, sz, tl, tf, tat, tw, bt, st, dy, ln, rd, kd, dd, nt, lf, yd, co, wy, zl, zn, gi, gs, mss, mtp, mfk, mfp, map, msp, mtk, mvl, mac, mtr, mla, mma, mit, msr, mbt, mnw, mdr, mpa, mim, mkp, mtc, ⟨hRw, hTp, hTl, hAc, hIm, hTr, hfi, htf⟩, hP, hD, hS⟩ := hI
  subst hfi
  subst htf
  obtain ⟨n, hrd, hTR⟩ := id hTl
  obtain ⟨u, w, hun, hna, hac, hAx⟩ := id hAc
  obtain ⟨t, ht, htl, htp, hBB⟩ := id hTp
  obtain ⟨z, hz, hzl, htr, hzz⟩ := id hTr
  have hrd : rd = nI n := hrd
  subst hrd
  subst hun
  subst hna
  subst hac
  subst htl
  subst htp
  subst hzl
  subst htr
  refine lv_aload_n hx hb dL_law_852 rfl (lv_at hl 1 rfl) ?_
  refine lv_aload_n hx hb dL_law_853 rfl (lv_at hl 0 rfl) ?_
  refine lv_iload_n hx hb dL_law_854 rfl (lv_at hl 3 rfl) ?_
  refine lv_iconst (v := nI 1) hx hb dL_law_855 (by decide) ?_
  refine b_add hx hb dL_law_856 ?_
  refine b_sld hx hb hX hbl hbA hS (show i + 1 < L by omega) hL dL_law_857 ?_
  refine lv_aload_n hx hb dL_law_858 rfl (lv_at hl 0 rfl) ?_
  refine lv_iload_n hx hb dL_law_859 rfl (lv_at hl 3 rfl) ?_
  refine lv_iconst (v := nI 2) hx hb dL_law_860 (by decide) ?_
  refine b_add hx hb dL_law_861 ?_
  refine b_sld hx hb hX hbl hbA hS (show i + 2 < L by omega) hL dL_law_862 ?_
  refine lv_aload_n hx hb dL_law_863 rfl (lv_at hl 0 rfl) ?_
  refine lv_iload_n hx hb dL_law_864 rfl (lv_at hl 3 rfl) ?_
  refine lv_iconst (v := nI 3) hx hb dL_law_865 (by decide) ?_
  refine b_add hx hb dL_law_866 ?_
  refine b_sld hx hb hX hbl hbA hS (show i + 3 < L by omega) hL dL_law_867 ?_
  refine lv_aload_n hx hb dL_law_868 rfl (lv_at hl 0 rfl) ?_
  refine lv_iload_n hx hb dL_law_869 rfl (lv_at hl 3 rfl) ?_
  refine lv_iconst (v := nI 4) hx hb dL_law_870 (by decide) ?_
  refine b_add hx hb dL_law_871 ?_
  refine b_sld hx hb hX hbl hbA hS (show i + 4 < L by omega) hL dL_law_872 ?_
  refine lv_aload_n hx hb dL_law_873 rfl (lv_at hl 0 rfl) ?_
  refine lv_iload_n hx hb dL_law_874 rfl (lv_at hl 3 rfl) ?_
  refine lv_iconst (v := nI 5) hx hb dL_law_875 (by decide) ?_
  refine b_add hx hb dL_law_876 ?_
  refine b_sld hx hb hX hbl hbA hS (show i + 5 < L by omega) hL dL_law_877 ?_
  have he := e_told hTR (co := co) hRw fi (xs (i + 1)) (xs (i + 2)) (xs (i + 3)) (xs (i + 4)) (xs (i + 5))
  have hkX := (k_told l D cI cZ cT nx ra pa ta da ia xa fa za gb ga (nI u) (nI w) fi it la sz (nI t) tf tat tw bt st dy ln (nI n) kd dd nt lf yd co wy (nI z) zn gi gs (xs (i + 1)) (xs (i + 2)) (xs (i + 3)) (xs (i + 4)) (xs (i + 5)) n rfl hTR.n6 hTR.ar (fun r hr => (hRw r hr).1))
  generalize eZ9 : x_told fi dy n kd dd lf la sz it co (xs (i + 1)) (xs (i + 2)) (xs (i + 3)) (xs (i + 4)) (xs (i + 5)) = Z9 at hkX he
  refine b_callL (va_runV (As := [.int (xs (i + 1)), .int (xs (i + 2)), .int (xs (i + 3)), .int (xs (i + 4)), .int (xs (i + 5))]) (rest := []) ⟨hx, hb, hml, hown, hts⟩ hkX (cwV 5 hts gL_law_X11_told rfl rfl rfl (by decide +kernel) ⟨(Nat.le_of_ble_eq_true rfl), (Nat.le_of_ble_eq_true rfl)⟩) (b_pL hK hP hD (ci := 10) rfl rfl) rfl rfl hl.1 rfl (lv_room (Nat.le_of_ble_eq_true rfl)) dL_law_878 ⟨hC, hSl⟩).run hP hD hS wX_fst (fun H locs hP hD hS => ?_)
  refine lv_aload_n hx hb dL_law_881 rfl (lv_at hl 2 rfl) ?_
  refine lv_aload_n hx hb dL_law_882 rfl (lv_at hl 0 rfl) ?_
  refine lv_iload_n hx hb dL_law_883 rfl (lv_at hl 3 rfl) ?_
  refine lv_iconst (v := nI 1) hx hb dL_law_884 (by decide) ?_
  refine b_add hx hb dL_law_885 ?_
  refine b_sld hx hb hX hbl hbA hS (show i + 1 < L by omega) hL dL_law_886 ?_
  refine lv_aload_n hx hb dL_law_887 rfl (lv_at hl 0 rfl) ?_
  refine lv_iload_n hx hb dL_law_888 rfl (lv_at hl 3 rfl) ?_
  refine lv_iconst (v := nI 2) hx hb dL_law_889 (by decide) ?_
  refine b_add hx hb dL_law_890 ?_
  refine b_sld hx hb hX hbl hbA hS (show i + 2 < L by omega) hL dL_law_891 ?_
  refine lv_aload_n hx hb dL_law_892 rfl (lv_at hl 0 rfl) ?_
  refine lv_iload_n hx hb dL_law_893 rfl (lv_at hl 3 rfl) ?_
  refine lv_iconst (v := nI 3) hx hb dL_law_894 (by decide) ?_
  refine b_add hx hb dL_law_895 ?_
  refine b_sld hx hb hX hbl hbA hS (show i + 3 < L by omega) hL dL_law_896 ?_
  refine lv_aload_n hx hb dL_law_897 rfl (lv_at hl 0 rfl) ?_
  refine lv_iload_n hx hb dL_law_898 rfl (lv_at hl 3 rfl) ?_
  refine lv_iconst (v := nI 4) hx hb dL_law_899 (by decide) ?_
  refine b_add hx hb dL_law_900 ?_
  refine b_sld hx hb hX hbl hbA hS (show i + 4 < L by omega) hL dL_law_901 ?_
  refine lv_aload_n hx hb dL_law_902 rfl (lv_at hl 0 rfl) ?_
  refine lv_iload_n hx hb dL_law_903 rfl (lv_at hl 3 rfl) ?_
  refine lv_iconst (v := nI 5) hx hb dL_law_904 (by decide) ?_
  refine b_add hx hb dL_law_905 ?_
  refine b_sld hx hb hX hbl hbA hS (show i + 5 < L by omega) hL dL_law_906 ?_
  have hjM := (j_told l D cI cZ cT A0 fi (nI t) tf mfp map msp mtk mvl (nI u) (nI z) mla mma mit msr mbt mnw mdr mpa mim mkp mtc (xs (i + 1)) (xs (i + 2)) (xs (i + 3)) (xs (i + 4)) (xs (i + 5)) n  hTR.2.2.2.2.2.1 (fun r hr => (hRw r hr).2.1))
  generalize eM9 : m_told fi mnw mla mma mit (xs (i + 1)) (xs (i + 2)) (xs (i + 3)) (xs (i + 4)) (xs (i + 5)) = M9 at hjM he
  refine b_callRt (va_runV (As := [.int (xs (i + 1)), .int (xs (i + 2)), .int (xs (i + 3)), .int (xs (i + 4)), .int (xs (i + 5))]) (rest := [.int (Z9.1)]) ⟨hx, hb, hml, hown, hts⟩ hjM (cwV 5 hts gL_law_X12_told rfl rfl rfl (by decide +kernel) ⟨(Nat.le_of_ble_eq_true rfl), (Nat.le_of_ble_eq_true rfl)⟩) (b_pRt hK hP hD (ci := 11) rfl rfl) rfl rfl hl.1 rfl (lv_room (Nat.le_of_ble_eq_true rfl)) dL_law_907 ⟨hC, hSl⟩).run hP hD hS rfl (fun H locs hP hD hS => ?_)
  refine lv_icmp_eq (tgt := 1152) hx hb dL_law_910 (by decide) (fun c9 => ?_) (fun c9 => absurd (show (Z9.1) = (M9.1) from he.1) c9)
  exact K ls H locs ⟨(nI u), (nI w), (Z9.2.1), it, la, sz, (nI t), tf, tat, tw, bt, st, dy, ln, (nI n), kd, dd, nt, lf, yd, (Z9.2.2), wy, (nI z), zn, gi, gs, (M9.2), (nI t), tf, mfp, map, msp, mtk, mvl, (nI u), (nI z), mla, mma, mit, msr, mbt, mnw, mdr, mpa, mim, mkp, mtc, ⟨hRw, hTp, hTl, hAc, hIm, hTr, he.2, rfl⟩, hP, hD, hS⟩ hl
set_option maxHeartbeats 600000 in
set_option maxRecDepth 100000 in
theorem lc_odds {p : Program} {l : Launch} {e : Env} {R : Room} {s : State} {m : MethodId} {args : Array Value} {below : List Frame} {meth : Method} {c : Code} {H : Heap} {locs : List Loc} {cells slots : Nat} {Q : State → Prop} {ls : Array Slot} {D : va_G} {cI cZ cT : ClassId} {A : Nat → Prop} {nx : Nat} {ra : Nat → Nat} {pa : Nat → Nat} {ta : Nat → Nat} {da : Nat → Nat} {ia : Nat} {xa : Nat} {fa : Nat → Nat} {za : Nat → Nat} {gb : Nat → Nat → Nat} {ga : Nat → Nat → Nat} {A0 : Nat → Nat} {b L i : Nat} {xs : Nat → Int32} (hx : p.tables.exec = Jvm.exec) (hb : c.code = cL_law) (hml : c.maxLocals = 4) (hown : s.vm.findClass RL = some m.cls) (hts : ∀ w ∈ wsL_law, w.before args s = true) (hX : va_X b L xs s s.heap) (hbl : b < s.heap.size) (hbA : ¬ A b) (hK : KX D cI cZ cT s) (hL : L ≤ 3072) (hi : i + 5 < L) (hRm : R = room_1) (hC : cells + 0 ≤ R.cells) (hSl : slots + 0 ≤ R.slots) (hl : lv_has ls 4 [(0, .ref b), (1, .ref nx), (2, .ref (A0 0)), (3, .int (nI i))]) (hI : LInv D cI cZ cT A s nx ra pa ta da ia xa fa za gb ga A0 H locs) (K : ∀ (ls : Array Slot) (H : Heap) (locs : List Loc), LInv D cI cZ cT A s nx ra pa ta da ia xa fa za gb ga A0 H locs → lv_has ls 4 [(0, .ref b), (1, .ref nx), (2, .ref (A0 0)), (3, .int (nI i))] → W p l e R s m args below meth c H locs cells slots Q (F0 m 1152 ls [])) : W p l e R s m args below meth c H locs cells slots Q (F0 m 915 ls []) := by
  subst hRm
  obtain ⟨un, na, fi, it, la, sz, tl, tf, tat, tw, bt, st, dy, ln, rd, kd, dd, nt, lf, yd, co, wy, zl, zn, gi, gs, mss, mtp, mfk, mfp, map, msp, mtk, mvl, mac, mtr, mla, mma, mit, msr, mbt, mnw, mdr, mpa, mim, mkp, mtc, ⟨hRw, hTp, hTl, hAc, hIm, hTr, hfi, htf⟩, hP, hD, hS⟩ := hI
  subst hfi
  subst htf
  obtain ⟨n, hrd, hTR⟩ := id hTl
  obtain ⟨u, w, hun, hna, hac, hAx⟩ := id hAc
  obtain ⟨t, ht, htl, htp, hBB⟩ := id hTp
  obtain ⟨z, hz, hzl, htr, hzz⟩ := id hTr
  have hrd : rd = nI n := hrd
  subst hrd
  subst hun
  subst hna
  subst hac
  subst htl
  subst htp
  subst hzl
  subst htr
  refine lv_aload_n hx hb dL_law_915 rfl (lv_at hl 1 rfl) ?_
  refine lv_aload_n hx hb dL_law_916 rfl (lv_at hl 0 rfl) ?_
  refine lv_iload_n hx hb dL_law_917 rfl (lv_at hl 3 rfl) ?_
  refine lv_iconst (v := nI 1) hx hb dL_law_918 (by decide) ?_
  refine b_add hx hb dL_law_919 ?_
  refine b_sld hx hb hX hbl hbA hS (show i + 1 < L by omega) hL dL_law_920 ?_
  refine lv_aload_n hx hb dL_law_921 rfl (lv_at hl 0 rfl) ?_
  refine lv_iload_n hx hb dL_law_922 rfl (lv_at hl 3 rfl) ?_
  refine lv_iconst (v := nI 2) hx hb dL_law_923 (by decide) ?_
  refine b_add hx hb dL_law_924 ?_
  refine b_sld hx hb hX hbl hbA hS (show i + 2 < L by omega) hL dL_law_925 ?_
  refine lv_aload_n hx hb dL_law_926 rfl (lv_at hl 0 rfl) ?_
  refine lv_iload_n hx hb dL_law_927 rfl (lv_at hl 3 rfl) ?_
  refine lv_iconst (v := nI 3) hx hb dL_law_928 (by decide) ?_
  refine b_add hx hb dL_law_929 ?_
  refine b_sld hx hb hX hbl hbA hS (show i + 3 < L by omega) hL dL_law_930 ?_
  have he := e_odds hTR (wy := wy) (xs (i + 1)) (xs (i + 2)) (xs (i + 3))
  have hkX := (k_odds l D cI cZ cT nx ra pa ta da ia xa fa za gb ga (nI u) (nI w) fi it la sz (nI t) tf tat tw bt st dy ln (nI n) kd dd nt lf yd co wy (nI z) zn gi gs (xs (i + 1)) (xs (i + 2)) (xs (i + 3)) n rfl hTR.n6 hTR.ar (fun kq cv hk hc => ⟨_, (od_good (wy := wy) hc hTR.n6).2, (od_good (wy := wy) hc hTR.n6).1⟩))
  generalize eZ9 : x_odds st dy n kd dd nt lf wy (xs (i + 1)) (xs (i + 2)) (xs (i + 3)) = Z9 at hkX he
  refine b_callL (va_runV (As := [.int (xs (i + 1)), .int (xs (i + 2)), .int (xs (i + 3))]) (rest := []) ⟨hx, hb, hml, hown, hts⟩ hkX (cwV 3 hts gL_law_X11_odds rfl rfl rfl (by decide +kernel) ⟨(Nat.le_of_ble_eq_true rfl), (Nat.le_of_ble_eq_true rfl)⟩) (b_pL hK hP hD (ci := 10) rfl rfl) rfl rfl hl.1 rfl (lv_room (Nat.le_of_ble_eq_true rfl)) dL_law_931 ⟨hC, hSl⟩).run hP hD hS wX_fst (fun H locs hP hD hS => ?_)
  refine lv_aload_n hx hb dL_law_934 rfl (lv_at hl 2 rfl) ?_
  refine lv_aload_n hx hb dL_law_935 rfl (lv_at hl 0 rfl) ?_
  refine lv_iload_n hx hb dL_law_936 rfl (lv_at hl 3 rfl) ?_
  refine lv_iconst (v := nI 1) hx hb dL_law_937 (by decide) ?_
  refine b_add hx hb dL_law_938 ?_
  refine b_sld hx hb hX hbl hbA hS (show i + 1 < L by omega) hL dL_law_939 ?_
  refine lv_aload_n hx hb dL_law_940 rfl (lv_at hl 0 rfl) ?_
  refine lv_iload_n hx hb dL_law_941 rfl (lv_at hl 3 rfl) ?_
  refine lv_iconst (v := nI 2) hx hb dL_law_942 (by decide) ?_
  refine b_add hx hb dL_law_943 ?_
  refine b_sld hx hb hX hbl hbA hS (show i + 2 < L by omega) hL dL_law_944 ?_
  refine lv_aload_n hx hb dL_law_945 rfl (lv_at hl 0 rfl) ?_
  refine lv_iload_n hx hb dL_law_946 rfl (lv_at hl 3 rfl) ?_
  refine lv_iconst (v := nI 3) hx hb dL_law_947 (by decide) ?_
  refine b_add hx hb dL_law_948 ?_
  refine b_sld hx hb hX hbl hbA hS (show i + 3 < L by omega) hL dL_law_949 ?_
  refine b_callRt (va_runV (As := [.int (xs (i + 1)), .int (xs (i + 2)), .int (xs (i + 3))]) (rest := [.int (Z9.1)]) ⟨hx, hb, hml, hown, hts⟩ (j_odds l D cI cZ cT A0 fi (nI t) tf mfp map msp mtk mvl (nI u) (nI z) mla mma mit msr mbt mnw mdr mpa mim mkp mtc (xs (i + 1)) (xs (i + 2)) (xs (i + 3)) n  hTR.2.2.2.2.2.1) (cwV 3 hts gL_law_X12_odds rfl rfl rfl (by decide +kernel) ⟨(Nat.le_of_ble_eq_true rfl), (Nat.le_of_ble_eq_true rfl)⟩) (b_pRt hK hP hD (ci := 11) rfl rfl) rfl rfl hl.1 rfl (lv_room (Nat.le_of_ble_eq_true rfl)) dL_law_950 ⟨hC, hSl⟩).run hP hD hS rfl (fun H locs hP hD hS => ?_)
  refine lv_icmp_eq (tgt := 1152) hx hb dL_law_953 (by decide) (fun c9 => ?_) (fun c9 => absurd (show (Z9.1) = (m_odds mnw n (xs (i + 1)) (xs (i + 2)) (xs (i + 3))) from he) c9)
  exact K ls H locs ⟨(nI u), (nI w), fi, it, la, sz, (nI t), tf, tat, tw, bt, st, dy, ln, (nI n), kd, dd, nt, lf, yd, co, (Z9.2), (nI z), zn, gi, gs, fi, (nI t), tf, mfp, map, msp, mtk, mvl, (nI u), (nI z), mla, mma, mit, msr, mbt, mnw, mdr, mpa, mim, mkp, mtc, ⟨hRw, hTp, hTl, hAc, hIm, hTr, rfl, rfl⟩, hP, hD, hS⟩ hl
