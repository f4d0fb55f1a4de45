/-! The law's cases -/
set_option maxHeartbeats 600000 in
set_option maxRecDepth 100000 in
theorem lc_image {p : Program} {l : Launch} {e : Env} {R : Room} {s : State} {m : MethodId} {args : Array Value} {below : List Frame} {meth : Method} {c : Code} {H : Heap} {locs : List Loc} {cells slots : Nat} {Q : State → Prop} {ls : Array Slot} {D : va_G} {cI cZ cT : ClassId} {A : Nat → Prop} {nx : Nat} {ra : Nat → Nat} {pa : Nat → Nat} {ta : Nat → Nat} {da : Nat → Nat} {ia : Nat} {xa : Nat} {fa : Nat → Nat} {za : Nat → Nat} {gb : Nat → Nat → Nat} {ga : Nat → Nat → Nat} {A0 : Nat → Nat} {b L i : Nat} {xs : Nat → Int32} (hx : p.tables.exec = Jvm.exec) (hb : c.code = cL_law) (hml : c.maxLocals = 4) (hown : s.vm.findClass RL = some m.cls) (hts : ∀ w ∈ wsL_law, w.before args s = true) (hX : va_X b L xs s s.heap) (hbl : b < s.heap.size) (hbA : ¬ A b) (hK : KX D cI cZ cT s) (hL : L ≤ 3072) (hi : i + 5 < L) (hRm : R = room_1) (hC : cells + 0 ≤ R.cells) (hSl : slots + 0 ≤ R.slots) (hl : lv_has ls 4 [(0, .ref b), (1, .ref nx), (2, .ref (A0 0)), (3, .int (nI i))]) (hI : LInv D cI cZ cT A s nx ra pa ta da ia xa fa za gb ga A0 H locs) (K : ∀ (ls : Array Slot) (H : Heap) (locs : List Loc), LInv D cI cZ cT A s nx ra pa ta da ia xa fa za gb ga A0 H locs → lv_has ls 4 [(0, .ref b), (1, .ref nx), (2, .ref (A0 0)), (3, .int (nI i))] → W p l e R s m args below meth c H locs cells slots Q (F0 m 1152 ls [])) : W p l e R s m args below meth c H locs cells slots Q (F0 m 958 ls []) := by
  subst hRm
  obtain ⟨un, na, fi, it, la, sz, tl, tf, tat, tw, bt, st, dy, ln, rd, kd, dd, nt, lf, yd, co, wy, zl, zn, gi, gs, mss, mtp, mfk, mfp, map, msp, mtk, mvl, mac, mtr, mla, mma, mit, msr, mbt, mnw, mdr, mpa, mim, mkp, mtc, ⟨hRw, hTp, hTl, hAc, hIm, hTr, hfi, htf⟩, hP, hD, hS⟩ := hI
  subst hfi
  subst htf
  obtain ⟨n, hrd, hTR⟩ := id hTl
  obtain ⟨u, w, hun, hna, hac, hAx⟩ := id hAc
  obtain ⟨t, ht, htl, htp, hBB⟩ := id hTp
  obtain ⟨z, hz, hzl, htr, hzz⟩ := id hTr
  have hrd : rd = nI n := hrd
  subst hrd
  subst hun
  subst hna
  subst hac
  subst htl
  subst htp
  subst hzl
  subst htr
  refine lv_aload_n hx hb dL_law_958 rfl (lv_at hl 1 rfl) ?_
  refine lv_aload_n hx hb dL_law_959 rfl (lv_at hl 0 rfl) ?_
  refine lv_iload_n hx hb dL_law_960 rfl (lv_at hl 3 rfl) ?_
  refine lv_iconst (v := nI 1) hx hb dL_law_961 (by decide) ?_
  refine b_add hx hb dL_law_962 ?_
  refine b_sld hx hb hX hbl hbA hS (show i + 1 < L by omega) hL dL_law_963 ?_
  have he := e_image hTl hIm (xs (i + 1))
  have hkX := (k_image l D cI cZ cT nx ra pa ta da ia xa fa za gb ga (nI u) (nI w) fi it la sz (nI t) tf tat tw bt st dy ln (nI n) kd dd nt lf yd co wy (nI z) zn gi gs (xs (i + 1))   hTR.1)
  generalize eZ9 : x_image gi (st, dy, ln, (nI n), kd, dd, nt, lf) (xs (i + 1)) = Z9 at hkX he
  refine b_callL (va_runV (As := [.int (xs (i + 1))]) (rest := []) ⟨hx, hb, hml, hown, hts⟩ hkX (cwV 1 hts gL_law_X11_image rfl rfl rfl (by decide +kernel) ⟨(Nat.le_of_ble_eq_true rfl), (Nat.le_of_ble_eq_true rfl)⟩) (b_pL hK hP hD (ci := 10) rfl rfl) rfl rfl hl.1 rfl (lv_room (Nat.le_of_ble_eq_true rfl)) dL_law_964 ⟨hC, hSl⟩).run hP hD hS wX_fst (fun H locs hP hD hS => ?_)
  refine lv_aload_n hx hb dL_law_967 rfl (lv_at hl 2 rfl) ?_
  refine lv_aload_n hx hb dL_law_968 rfl (lv_at hl 0 rfl) ?_
  refine lv_iload_n hx hb dL_law_969 rfl (lv_at hl 3 rfl) ?_
  refine lv_iconst (v := nI 1) hx hb dL_law_970 (by decide) ?_
  refine b_add hx hb dL_law_971 ?_
  refine b_sld hx hb hX hbl hbA hS (show i + 1 < L by omega) hL dL_law_972 ?_
  have hjM := (j_image l D cI cZ cT A0 fi (nI t) tf mfp map msp mtk mvl (nI u) (nI z) mla mma mit msr mbt mnw mdr mpa mim mkp mtc (xs (i + 1))   )
  generalize eM9 : m_image mnw mim mkp (xs (i + 1)) = M9 at hjM he
  refine b_callRt (va_runV (As := [.int (xs (i + 1))]) (rest := [.int (Z9.1)]) ⟨hx, hb, hml, hown, hts⟩ hjM (cwV 1 hts gL_law_X12_image rfl rfl rfl (by decide +kernel) ⟨(Nat.le_of_ble_eq_true rfl), (Nat.le_of_ble_eq_true rfl)⟩) (b_pRt hK hP hD (ci := 11) rfl rfl) rfl rfl hl.1 rfl (lv_room (Nat.le_of_ble_eq_true rfl)) dL_law_973 ⟨hC, hSl⟩).run hP hD hS rfl (fun H locs hP hD hS => ?_)
  refine lv_icmp_eq (tgt := 1152) hx hb dL_law_976 (by decide) (fun c9 => ?_) (fun c9 => absurd (show (Z9.1) = (M9.1) from he.1) c9)
  exact K ls H locs ⟨(nI u), (nI w), fi, it, la, sz, (nI t), tf, tat, tw, bt, st, dy, ln, (nI n), kd, dd, nt, lf, yd, co, wy, (nI z), zn, (Z9.2), gs, fi, (nI t), tf, mfp, map, msp, mtk, mvl, (nI u), (nI z), mla, mma, mit, msr, mbt, mnw, mdr, mpa, (M9.2.1), (M9.2.2), mtc, ⟨hRw, hTp, hTl, hAc, he.2, hTr, rfl, rfl⟩, hP, hD, hS⟩ hl
set_option maxHeartbeats 600000 in
set_option maxRecDepth 100000 in
theorem lc_restore {p : Program} {l : Launch} {e : Env} {R : Room} {s : State} {m : MethodId} {args : Array Value} {below : List Frame} {meth : Method} {c : Code} {H : Heap} {locs : List Loc} {cells slots : Nat} {Q : State → Prop} {ls : Array Slot} {D : va_G} {cI cZ cT : ClassId} {A : Nat → Prop} {nx : Nat} {ra : Nat → Nat} {pa : Nat → Nat} {ta : Nat → Nat} {da : Nat → Nat} {ia : Nat} {xa : Nat} {fa : Nat → Nat} {za : Nat → Nat} {gb : Nat → Nat → Nat} {ga : Nat → Nat → Nat} {A0 : Nat → Nat} {b L i : Nat} {xs : Nat → Int32} (hx : p.tables.exec = Jvm.exec) (hb : c.code = cL_law) (hml : c.maxLocals = 4) (hown : s.vm.findClass RL = some m.cls) (hts : ∀ w ∈ wsL_law, w.before args s = true) (hX : va_X b L xs s s.heap) (hbl : b < s.heap.size) (hbA : ¬ A b) (hK : KX D cI cZ cT s) (hL : L ≤ 3072) (hi : i + 5 < L) (hRm : R = room_1) (hC : cells + 0 ≤ R.cells) (hSl : slots + 0 ≤ R.slots) (hl : lv_has ls 4 [(0, .ref b), (1, .ref nx), (2, .ref (A0 0)), (3, .int (nI i))]) (hI : LInv D cI cZ cT A s nx ra pa ta da ia xa fa za gb ga A0 H locs) (K : ∀ (ls : Array Slot) (H : Heap) (locs : List Loc), LInv D cI cZ cT A s nx ra pa ta da ia xa fa za gb ga A0 H locs → lv_has ls 4 [(0, .ref b), (1, .ref nx), (2, .ref (A0 0)), (3, .int (nI i))] → W p l e R s m args below meth c H locs cells slots Q (F0 m 1152 ls [])) : W p l e R s m args below meth c H locs cells slots Q (F0 m 981 ls []) := by
  subst hRm
  obtain ⟨un, na, fi, it, la, sz, tl, tf, tat, tw, bt, st, dy, ln, rd, kd, dd, nt, lf, yd, co, wy, zl, zn, gi, gs, mss, mtp, mfk, mfp, map, msp, mtk, mvl, mac, mtr, mla, mma, mit, msr, mbt, mnw, mdr, mpa, mim, mkp, mtc, ⟨hRw, hTp, hTl, hAc, hIm, hTr, hfi, htf⟩, hP, hD, hS⟩ := hI
  subst hfi
  subst htf
  obtain ⟨n, hrd, hTR⟩ := id hTl
  obtain ⟨u, w, hun, hna, hac, hAx⟩ := id hAc
  obtain ⟨t, ht, htl, htp, hBB⟩ := id hTp
  obtain ⟨z, hz, hzl, htr, hzz⟩ := id hTr
  have hrd : rd = nI n := hrd
  subst hrd
  subst hun
  subst hna
  subst hac
  subst htl
  subst htp
  subst hzl
  subst htr
  refine lv_aload_n hx hb dL_law_981 rfl (lv_at hl 1 rfl) ?_
  refine lv_aload_n hx hb dL_law_982 rfl (lv_at hl 0 rfl) ?_
  refine lv_iload_n hx hb dL_law_983 rfl (lv_at hl 3 rfl) ?_
  refine lv_iconst (v := nI 1) hx hb dL_law_984 (by decide) ?_
  refine b_add hx hb dL_law_985 ?_
  refine b_sld hx hb hX hbl hbA hS (show i + 1 < L by omega) hL dL_law_986 ?_
  have he := e_restore hTl hIm hAx (xs (i + 1))
  have hkX := (k_restore l D cI cZ cT nx ra pa ta da ia xa fa za gb ga (nI u) (nI w) fi it la sz (nI t) tf tat tw bt st dy ln (nI n) kd dd nt lf yd co wy (nI z) zn gi gs (xs (i + 1))   (fun k hk => (hIm k hk).1))
  generalize eZ9 : x_restore (nI u) gi (st, dy, ln, (nI n), kd, dd, nt, lf) (xs (i + 1)) = Z9 at hkX he
  refine b_callL (va_runV (As := [.int (xs (i + 1))]) (rest := []) ⟨hx, hb, hml, hown, hts⟩ hkX (cwV 1 hts gL_law_X11_restore rfl rfl rfl (by decide +kernel) ⟨(Nat.le_of_ble_eq_true rfl), (Nat.le_of_ble_eq_true rfl)⟩) (b_pL hK hP hD (ci := 10) rfl rfl) rfl rfl hl.1 rfl (lv_room (Nat.le_of_ble_eq_true rfl)) dL_law_987 ⟨hC, hSl⟩).run hP hD hS wX_fst (fun H locs hP hD hS => ?_)
  refine lv_aload_n hx hb dL_law_990 rfl (lv_at hl 2 rfl) ?_
  refine lv_aload_n hx hb dL_law_991 rfl (lv_at hl 0 rfl) ?_
  refine lv_iload_n hx hb dL_law_992 rfl (lv_at hl 3 rfl) ?_
  refine lv_iconst (v := nI 1) hx hb dL_law_993 (by decide) ?_
  refine b_add hx hb dL_law_994 ?_
  refine b_sld hx hb hX hbl hbA hS (show i + 1 < L by omega) hL dL_law_995 ?_
  have hjM := (j_restore l D cI cZ cT A0 fi (nI t) tf mfp map msp mtk mvl (nI u) (nI z) mla mma mit msr mbt mnw mdr mpa mim mkp mtc (xs (i + 1)) u rfl )
  generalize eM9 : m_restore mnw mim mkp u (xs (i + 1)) = M9 at hjM he
  refine b_callRt (va_runV (As := [.int (xs (i + 1))]) (rest := [.int (Z9.1)]) ⟨hx, hb, hml, hown, hts⟩ hjM (cwV 1 hts gL_law_X12_restore rfl rfl rfl (by decide +kernel) ⟨(Nat.le_of_ble_eq_true rfl), (Nat.le_of_ble_eq_true rfl)⟩) (b_pRt hK hP hD (ci := 11) rfl rfl) rfl rfl hl.1 rfl (lv_room (Nat.le_of_ble_eq_true rfl)) dL_law_996 ⟨hC, hSl⟩).run hP hD hS rfl (fun H locs hP hD hS => ?_)
  refine lv_icmp_eq (tgt := 1152) hx hb dL_law_999 (by decide) (fun c9 => ?_) (fun c9 => absurd (show (Z9.1) = (M9.1) from he.1) c9)
  exact K ls H locs ⟨(Z9.2.1), (nI w), fi, it, la, sz, (nI t), tf, tat, tw, bt, (Z9.2.2.1), (Z9.2.2.2.1), (Z9.2.2.2.2.1), (Z9.2.2.2.2.2.1), (Z9.2.2.2.2.2.2.1), (Z9.2.2.2.2.2.2.2.1), (Z9.2.2.2.2.2.2.2.2.1), (Z9.2.2.2.2.2.2.2.2.2), yd, co, wy, (nI z), zn, gi, gs, fi, (nI t), tf, mfp, map, msp, mtk, mvl, (nI M9.2.2), (nI z), mla, mma, mit, msr, mbt, (M9.2.1), mdr, mpa, mim, mkp, mtc, ⟨hRw, hTp, he.2.1, he.2.2, hIm, hTr, rfl, rfl⟩, hP, hD, hS⟩ hl
set_option maxHeartbeats 600000 in
set_option maxRecDepth 100000 in
theorem lc_kind {p : Program} {l : Launch} {e : Env} {R : Room} {s : State} {m : MethodId} {args : Array Value} {below : List Frame} {meth : Method} {c : Code} {H : Heap} {locs : List Loc} {cells slots : Nat} {Q : State → Prop} {ls : Array Slot} {D : va_G} {cI cZ cT : ClassId} {A : Nat → Prop} {nx : Nat} {ra : Nat → Nat} {pa : Nat → Nat} {ta : Nat → Nat} {da : Nat → Nat} {ia : Nat} {xa : Nat} {fa : Nat → Nat} {za : Nat → Nat} {gb : Nat → Nat → Nat} {ga : Nat → Nat → Nat} {A0 : Nat → Nat} {b L i : Nat} {xs : Nat → Int32} (hx : p.tables.exec = Jvm.exec) (hb : c.code = cL_law) (hml : c.maxLocals = 4) (hown : s.vm.findClass RL = some m.cls) (hts : ∀ w ∈ wsL_law, w.before args s = true) (hX : va_X b L xs s s.heap) (hbl : b < s.heap.size) (hbA : ¬ A b) (hK : KX D cI cZ cT s) (hL : L ≤ 3072) (hi : i + 5 < L) (hRm : R = room_1) (hC : cells + 0 ≤ R.cells) (hSl : slots + 0 ≤ R.slots) (hl : lv_has ls 4 [(0, .ref b), (1, .ref nx), (2, .ref (A0 0)), (3, .int (nI i))]) (hI : LInv D cI cZ cT A s nx ra pa ta da ia xa fa za gb ga A0 H locs) (K : ∀ (ls : Array Slot) (H : Heap) (locs : List Loc), LInv D cI cZ cT A s nx ra pa ta da ia xa fa za gb ga A0 H locs → lv_has ls 4 [(0, .ref b), (1, .ref nx), (2, .ref (A0 0)), (3, .int (nI i))] → W p l e R s m args below meth c H locs cells slots Q (F0 m 1152 ls [])) : W p l e R s m args below meth c H locs cells slots Q (F0 m 1004 ls []) := by
  subst hRm
  obtain ⟨un, na, fi, it, la, sz, tl, tf, tat, tw, bt, st, dy, ln, rd, kd, dd, nt, lf, yd, co, wy, zl, zn, gi, gs, mss, mtp, mfk, mfp, map, msp, mtk, mvl, mac, mtr, mla, mma, mit, msr, mbt, mnw, mdr, mpa, mim, mkp, mtc, ⟨hRw, hTp, hTl, hAc, hIm, hTr, hfi, htf⟩, hP, hD, hS⟩ := hI
  subst hfi
  subst htf
  obtain ⟨n, hrd, hTR⟩ := id hTl
  obtain ⟨u, w, hun, hna, hac, hAx⟩ := id hAc
  obtain ⟨t, ht, htl, htp, hBB⟩ := id hTp
  obtain ⟨z, hz, hzl, htr, hzz⟩ := id hTr
  have hrd : rd = nI n := hrd
  subst hrd
  subst hun
  subst hna
  subst hac
  subst htl
  subst htp
  subst hzl
  subst htr
  refine lv_aload_n hx hb dL_law_1004 rfl (lv_at hl 1 rfl) ?_
  refine lv_aload_n hx hb dL_law_1005 rfl (lv_at hl 0 rfl) ?_
  refine lv_iload_n hx hb dL_law_1006 rfl (lv_at hl 3 rfl) ?_
  refine lv_iconst (v := nI 1) hx hb dL_law_1007 (by decide) ?_
  refine b_add hx hb dL_law_1008 ?_
  refine b_sld hx hb hX hbl hbA hS (show i + 1 < L by omega) hL dL_law_1009 ?_
  have he := e_kind hTR (xs (i + 1))
  refine b_callL (va_runV (As := [.int (xs (i + 1))]) (rest := []) ⟨hx, hb, hml, hown, hts⟩ (k_kind l D cI cZ cT nx ra pa ta da ia xa fa za gb ga (nI u) (nI w) fi it la sz (nI t) tf tat tw bt st dy ln (nI n) kd dd nt lf yd co wy (nI z) zn gi gs (xs (i + 1)) n rfl hTR.n6) (cwV 1 hts gL_law_X11_kind rfl rfl rfl (by decide +kernel) ⟨(Nat.le_of_ble_eq_true rfl), (Nat.le_of_ble_eq_true rfl)⟩) (b_pL hK hP hD (ci := 10) rfl rfl) rfl rfl hl.1 rfl (lv_room (Nat.le_of_ble_eq_true rfl)) dL_law_1010 ⟨hC, hSl⟩).run hP hD hS wX_fst (fun H locs hP hD hS => ?_)
  refine lv_aload_n hx hb dL_law_1013 rfl (lv_at hl 2 rfl) ?_
  refine lv_aload_n hx hb dL_law_1014 rfl (lv_at hl 0 rfl) ?_
  refine lv_iload_n hx hb dL_law_1015 rfl (lv_at hl 3 rfl) ?_
  refine lv_iconst (v := nI 1) hx hb dL_law_1016 (by decide) ?_
  refine b_add hx hb dL_law_1017 ?_
  refine b_sld hx hb hX hbl hbA hS (show i + 1 < L by omega) hL dL_law_1018 ?_
  refine b_callRt (va_runV (As := [.int (xs (i + 1))]) (rest := [.int (x_kind n kd (xs (i + 1)))]) ⟨hx, hb, hml, hown, hts⟩ (j_kind l D cI cZ cT A0 fi (nI t) tf mfp map msp mtk mvl (nI u) (nI z) mla mma mit msr mbt mnw mdr mpa mim mkp mtc (xs (i + 1)) n  hTR.2.2.2.2.2.1) (cwV 1 hts gL_law_X12_kind rfl rfl rfl (by decide +kernel) ⟨(Nat.le_of_ble_eq_true rfl), (Nat.le_of_ble_eq_true rfl)⟩) (b_pRt hK hP hD (ci := 11) rfl rfl) rfl rfl hl.1 rfl (lv_room (Nat.le_of_ble_eq_true rfl)) dL_law_1019 ⟨hC, hSl⟩).run hP hD hS rfl (fun H locs hP hD hS => ?_)
  refine lv_icmp_eq (tgt := 1152) hx hb dL_law_1022 (by decide) (fun c9 => ?_) (fun c9 => absurd (show (x_kind n kd (xs (i + 1))) = (m_kind mnw (xs (i + 1))) from he) c9)
  exact K ls H locs ⟨(nI u), (nI w), fi, it, la, sz, (nI t), tf, tat, tw, bt, st, dy, ln, (nI n), kd, dd, nt, lf, yd, co, wy, (nI z), zn, gi, gs, fi, (nI t), tf, mfp, map, msp, mtk, mvl, (nI u), (nI z), mla, mma, mit, msr, mbt, mnw, mdr, mpa, mim, mkp, mtc, ⟨hRw, hTp, hTl, hAc, hIm, hTr, rfl, rfl⟩, hP, hD, hS⟩ hl
set_option maxHeartbeats 600000 in
set_option maxRecDepth 100000 in
theorem lc_as {p : Program} {l : Launch} {e : Env} {R : Room} {s : State} {m : MethodId} {args : Array Value} {below : List Frame} {meth : Method} {c : Code} {H : Heap} {locs : List Loc} {cells slots : Nat} {Q : State → Prop} {ls : Array Slot} {D : va_G} {cI cZ cT : ClassId} {A : Nat → Prop} {nx : Nat} {ra : Nat → Nat} {pa : Nat → Nat} {ta : Nat → Nat} {da : Nat → Nat} {ia : Nat} {xa : Nat} {fa : Nat → Nat} {za : Nat → Nat} {gb : Nat → Nat → Nat} {ga : Nat → Nat → Nat} {A0 : Nat → Nat} {b L i : Nat} {xs : Nat → Int32} (hx : p.tables.exec = Jvm.exec) (hb : c.code = cL_law) (hml : c.maxLocals = 4) (hown : s.vm.findClass RL = some m.cls) (hts : ∀ w ∈ wsL_law, w.before args s = true) (hX : va_X b L xs s s.heap) (hbl : b < s.heap.size) (hbA : ¬ A b) (hK : KX D cI cZ cT s) (hL : L ≤ 3072) (hi : i + 5 < L) (hRm : R = room_1) (hC : cells + 0 ≤ R.cells) (hSl : slots + 0 ≤ R.slots) (hl : lv_has ls 4 [(0, .ref b), (1, .ref nx), (2, .ref (A0 0)), (3, .int (nI i))]) (hI : LInv D cI cZ cT A s nx ra pa ta da ia xa fa za gb ga A0 H locs) (K : ∀ (ls : Array Slot) (H : Heap) (locs : List Loc), LInv D cI cZ cT A s nx ra pa ta da ia xa fa za gb ga A0 H locs → lv_has ls 4 [(0, .ref b), (1, .ref nx), (2, .ref (A0 0)), (3, .int (nI i))] → W p l e R s m args below meth c H locs cells slots Q (F0 m 1152 ls [])) : W p l e R s m args below meth c H locs cells slots Q (F0 m 1027 ls []) := by
  subst hRm
  obtain ⟨un, na, fi, it, la, sz, tl, tf, tat, tw, bt, st, dy, ln, rd, kd, dd, nt, lf, yd, co, wy, zl, zn, gi, gs, mss, mtp, mfk, mfp, map, msp, mtk, mvl, mac, mtr, mla, mma, mit, msr, mbt, mnw, mdr, mpa, mim, mkp, mtc, ⟨hRw, hTp, hTl, hAc, hIm, hTr, hfi, htf⟩, hP, hD, hS⟩ := hI
  subst hfi
  subst htf
  obtain ⟨n, hrd, hTR⟩ := id hTl
  obtain ⟨u, w, hun, hna, hac, hAx⟩ := id hAc
  obtain ⟨t, ht, htl, htp, hBB⟩ := id hTp
  obtain ⟨z, hz, hzl, htr, hzz⟩ := id hTr
  have hrd : rd = nI n := hrd
  subst hrd
  subst hun
  subst hna
  subst hac
  subst htl
  subst htp
  subst hzl
  subst htr
  refine lv_aload_n hx hb dL_law_1027 rfl (lv_at hl 1 rfl) ?_
  refine lv_aload_n hx hb dL_law_1028 rfl (lv_at hl 0 rfl) ?_
  refine lv_iload_n hx hb dL_law_1029 rfl (lv_at hl 3 rfl) ?_
  refine lv_iconst (v := nI 1) hx hb dL_law_1030 (by decide) ?_
  refine b_add hx hb dL_law_1031 ?_
  refine b_sld hx hb hX hbl hbA hS (show i + 1 < L by omega) hL dL_law_1032 ?_
  refine lv_aload_n hx hb dL_law_1033 rfl (lv_at hl 0 rfl) ?_
  refine lv_iload_n hx hb dL_law_1034 rfl (lv_at hl 3 rfl) ?_
  refine lv_iconst (v := nI 2) hx hb dL_law_1035 (by decide) ?_
  refine b_add hx hb dL_law_1036 ?_
  refine b_sld hx hb hX hbl hbA hS (show i + 2 < L by omega) hL dL_law_1037 ?_
  have he := e_as hTR fi (xs (i + 1)) (xs (i + 2))
  have hkX := (k_as l D cI cZ cT nx ra pa ta da ia xa fa za gb ga (nI u) (nI w) fi it la sz (nI t) tf tat tw bt st dy ln (nI n) kd dd nt lf yd co wy (nI z) zn gi gs (xs (i + 1)) (xs (i + 2)) n rfl hTR.n6 hTR.ar)
  generalize eZ9 : x_as fi n kd (xs (i + 1)) (xs (i + 2)) = Z9 at hkX he
  refine b_callL (va_runV (As := [.int (xs (i + 1)), .int (xs (i + 2))]) (rest := []) ⟨hx, hb, hml, hown, hts⟩ hkX (cwV 2 hts gL_law_X11_as rfl rfl rfl (by decide +kernel) ⟨(Nat.le_of_ble_eq_true rfl), (Nat.le_of_ble_eq_true rfl)⟩) (b_pL hK hP hD (ci := 10) rfl rfl) rfl rfl hl.1 rfl (lv_room (Nat.le_of_ble_eq_true rfl)) dL_law_1038 ⟨hC, hSl⟩).run hP hD hS wX_fst (fun H locs hP hD hS => ?_)
  refine lv_aload_n hx hb dL_law_1041 rfl (lv_at hl 2 rfl) ?_
  refine lv_aload_n hx hb dL_law_1042 rfl (lv_at hl 0 rfl) ?_
  refine lv_iload_n hx hb dL_law_1043 rfl (lv_at hl 3 rfl) ?_
  refine lv_iconst (v := nI 1) hx hb dL_law_1044 (by decide) ?_
  refine b_add hx hb dL_law_1045 ?_
  refine b_sld hx hb hX hbl hbA hS (show i + 1 < L by omega) hL dL_law_1046 ?_
  refine lv_aload_n hx hb dL_law_1047 rfl (lv_at hl 0 rfl) ?_
  refine lv_iload_n hx hb dL_law_1048 rfl (lv_at hl 3 rfl) ?_
  refine lv_iconst (v := nI 2) hx hb dL_law_1049 (by decide) ?_
  refine b_add hx hb dL_law_1050 ?_
  refine b_sld hx hb hX hbl hbA hS (show i + 2 < L by omega) hL dL_law_1051 ?_
  have hjM := (j_as l D cI cZ cT A0 fi (nI t) tf mfp map msp mtk mvl (nI u) (nI z) mla mma mit msr mbt mnw mdr mpa mim mkp mtc (xs (i + 1)) (xs (i + 2)) n  hTR.2.2.2.2.2.1)
  generalize eM9 : m_as fi mnw (xs (i + 1)) (xs (i + 2)) = M9 at hjM he
  refine b_callRt (va_runV (As := [.int (xs (i + 1)), .int (xs (i + 2))]) (rest := [.int (Z9.1)]) ⟨hx, hb, hml, hown, hts⟩ hjM (cwV 2 hts gL_law_X12_as rfl rfl rfl (by decide +kernel) ⟨(Nat.le_of_ble_eq_true rfl), (Nat.le_of_ble_eq_true rfl)⟩) (b_pRt hK hP hD (ci := 11) rfl rfl) rfl rfl hl.1 rfl (lv_room (Nat.le_of_ble_eq_true rfl)) dL_law_1052 ⟨hC, hSl⟩).run hP hD hS rfl (fun H locs hP hD hS => ?_)
  refine lv_icmp_eq (tgt := 1152) hx hb dL_law_1055 (by decide) (fun c9 => ?_) (fun c9 => absurd (show (Z9.1) = (M9.1) from (by rw [he])) c9)
  exact K ls H locs ⟨(nI u), (nI w), (Z9.2), it, la, sz, (nI t), tf, tat, tw, bt, st, dy, ln, (nI n), kd, dd, nt, lf, yd, co, wy, (nI z), zn, gi, gs, (M9.2), (nI t), tf, mfp, map, msp, mtk, mvl, (nI u), (nI z), mla, mma, mit, msr, mbt, mnw, mdr, mpa, mim, mkp, mtc, ⟨hRw, hTp, hTl, hAc, hIm, hTr, (by rw [he]), rfl⟩, hP, hD, hS⟩ hl
set_option maxHeartbeats 600000 in
set_option maxRecDepth 100000 in
theorem lc_ask {p : Program} {l : Launch} {e : Env} {R : Room} {s : State} {m : MethodId} {args : Array Value} {below : List Frame} {meth : Method} {c : Code} {H : Heap} {locs : List Loc} {cells slots : Nat} {Q : State → Prop} {ls : Array Slot} {D : va_G} {cI cZ cT : ClassId} {A : Nat → Prop} {nx : Nat} {ra : Nat → Nat} {pa : Nat → Nat} {ta : Nat → Nat} {da : Nat → Nat} {ia : Nat} {xa : Nat} {fa : Nat → Nat} {za : Nat → Nat} {gb : Nat → Nat → Nat} {ga : Nat → Nat → Nat} {A0 : Nat → Nat} {b L i : Nat} {xs : Nat → Int32} (hx : p.tables.exec = Jvm.exec) (hb : c.code = cL_law) (hml : c.maxLocals = 4) (hown : s.vm.findClass RL = some m.cls) (hts : ∀ w ∈ wsL_law, w.before args s = true) (hX : va_X b L xs s s.heap) (hbl : b < s.heap.size) (hbA : ¬ A b) (hK : KX D cI cZ cT s) (hL : L ≤ 3072) (hi : i + 5 < L) (hRm : R = room_1) (hC : cells + 0 ≤ R.cells) (hSl : slots + 0 ≤ R.slots) (hl : lv_has ls 4 [(0, .ref b), (1, .ref nx), (2, .ref (A0 0)), (3, .int (nI i))]) (hI : LInv D cI cZ cT A s nx ra pa ta da ia xa fa za gb ga A0 H locs) (K : ∀ (ls : Array Slot) (H : Heap) (locs : List Loc), LInv D cI cZ cT A s nx ra pa ta da ia xa fa za gb ga A0 H locs → lv_has ls 4 [(0, .ref b), (1, .ref nx), (2, .ref (A0 0)), (3, .int (nI i))] → W p l e R s m args below meth c H locs cells slots Q (F0 m 1152 ls [])) : W p l e R s m args below meth c H locs cells slots Q (F0 m 1060 ls []) := by
  subst hRm
  obtain ⟨un, na, fi, it, la, sz, tl, tf, tat, tw, bt, st, dy, ln, rd, kd, dd, nt, lf, yd, co, wy, zl, zn, gi, gs, mss, mtp, mfk, mfp, map, msp, mtk, mvl, mac, mtr, mla, mma, mit, msr, mbt, mnw, mdr, mpa, mim, mkp, mtc, ⟨hRw, hTp, hTl, hAc, hIm, hTr, hfi, htf⟩, hP, hD, hS⟩ := hI
  subst hfi
  subst htf
  obtain ⟨n, hrd, hTR⟩ := id hTl
  obtain ⟨u, w, hun, hna, hac, hAx⟩ := id hAc
  obtain ⟨t, ht, htl, htp, hBB⟩ := id hTp
  obtain ⟨z, hz, hzl, htr, hzz⟩ := id hTr
  have hrd : rd = nI n := hrd
  subst hrd
  subst hun
  subst hna
  subst hac
  subst htl
  subst htp
  subst hzl
  subst htr
  refine lv_aload_n hx hb dL_law_1060 rfl (lv_at hl 1 rfl) ?_
  refine lv_aload_n hx hb dL_law_1061 rfl (lv_at hl 0 rfl) ?_
  refine lv_iload_n hx hb dL_law_1062 rfl (lv_at hl 3 rfl) ?_
  refine lv_iconst (v := nI 1) hx hb dL_law_1063 (by decide) ?_
  refine b_add hx hb dL_law_1064 ?_
  refine b_sld hx hb hX hbl hbA hS (show i + 1 < L by omega) hL dL_law_1065 ?_
  refine lv_aload_n hx hb dL_law_1066 rfl (lv_at hl 0 rfl) ?_
  refine lv_iload_n hx hb dL_law_1067 rfl (lv_at hl 3 rfl) ?_
  refine lv_iconst (v := nI 2) hx hb dL_law_1068 (by decide) ?_
  refine b_add hx hb dL_law_1069 ?_
  refine b_sld hx hb hX hbl hbA hS (show i + 2 < L by omega) hL dL_law_1070 ?_
  have he := e_ask hTR (z := (z, zn)) (z' := (z, mtc)) ⟨rfl, hz, hzz⟩ (xs (i + 1)) (xs (i + 2))
  have hkX := (k_ask l D cI cZ cT nx ra pa ta da ia xa fa za gb ga (nI u) (nI w) fi it la sz (nI t) tf tat tw bt st dy ln (nI n) kd dd nt lf yd co wy (nI z) zn gi gs (xs (i + 1)) (xs (i + 2)) n z rfl rfl hTR.n6 hTR.ar hz)
  generalize eZ9 : x_ask n kd dd nt (z, zn) (xs (i + 1)) (xs (i + 2)) = Z9 at hkX he
  refine b_callL (va_runV (As := [.int (xs (i + 1)), .int (xs (i + 2))]) (rest := []) ⟨hx, hb, hml, hown, hts⟩ hkX (cwV 2 hts gL_law_X11_ask rfl rfl rfl (by decide +kernel) ⟨(Nat.le_of_ble_eq_true rfl), (Nat.le_of_ble_eq_true rfl)⟩) (b_pL hK hP hD (ci := 10) rfl rfl) rfl rfl hl.1 rfl (lv_room (Nat.le_of_ble_eq_true rfl)) dL_law_1071 ⟨hC, hSl⟩).run hP hD hS wX_fst (fun H locs hP hD hS => ?_)
  refine lv_aload_n hx hb dL_law_1074 rfl (lv_at hl 2 rfl) ?_
  refine lv_aload_n hx hb dL_law_1075 rfl (lv_at hl 0 rfl) ?_
  refine lv_iload_n hx hb dL_law_1076 rfl (lv_at hl 3 rfl) ?_
  refine lv_iconst (v := nI 1) hx hb dL_law_1077 (by decide) ?_
  refine b_add hx hb dL_law_1078 ?_
  refine b_sld hx hb hX hbl hbA hS (show i + 1 < L by omega) hL dL_law_1079 ?_
  refine lv_aload_n hx hb dL_law_1080 rfl (lv_at hl 0 rfl) ?_
  refine lv_iload_n hx hb dL_law_1081 rfl (lv_at hl 3 rfl) ?_
  refine lv_iconst (v := nI 2) hx hb dL_law_1082 (by decide) ?_
  refine b_add hx hb dL_law_1083 ?_
  refine b_sld hx hb hX hbl hbA hS (show i + 2 < L by omega) hL dL_law_1084 ?_
  have hjM := (j_ask l D cI cZ cT A0 fi (nI t) tf mfp map msp mtk mvl (nI u) (nI z) mla mma mit msr mbt mnw mdr mpa mim mkp mtc (xs (i + 1)) (xs (i + 2)) z n rfl hTR.2.2.2.2.2.1 hz)
  generalize eM9 : m_ask mnw (z, mtc) (xs (i + 1)) (xs (i + 2)) = M9 at hjM he
  refine b_callRt (va_runV (As := [.int (xs (i + 1)), .int (xs (i + 2))]) (rest := [.int (Z9.1)]) ⟨hx, hb, hml, hown, hts⟩ hjM (cwV 2 hts gL_law_X12_ask rfl rfl rfl (by decide +kernel) ⟨(Nat.le_of_ble_eq_true rfl), (Nat.le_of_ble_eq_true rfl)⟩) (b_pRt hK hP hD (ci := 11) rfl rfl) rfl rfl hl.1 rfl (lv_room (Nat.le_of_ble_eq_true rfl)) dL_law_1085 ⟨hC, hSl⟩).run hP hD hS rfl (fun H locs hP hD hS => ?_)
  refine lv_icmp_eq (tgt := 1152) hx hb dL_law_1088 (by decide) (fun c9 => ?_) (fun c9 => absurd (show (Z9.1) = (M9.1) from he.1) c9)
  exact K ls H locs ⟨(nI u), (nI w), fi, it, la, sz, (nI t), tf, tat, tw, bt, st, dy, ln, (nI n), kd, dd, nt, lf, yd, co, wy, (nI Z9.2.1), (Z9.2.2), gi, gs, fi, (nI t), tf, mfp, map, msp, mtk, mvl, (nI u), (nI M9.2.1), mla, mma, mit, msr, mbt, mnw, mdr, mpa, mim, mkp, (M9.2.2), ⟨hRw, hTp, hTl, hAc, hIm, ⟨_, he.2.2.1, rfl, by rw [he.2.1], he.2.2.2⟩, rfl, rfl⟩, hP, hD, hS⟩ hl
set_option maxHeartbeats 600000 in
set_option maxRecDepth 100000 in
theorem lc_trace {p : Program} {l : Launch} {e : Env} {R : Room} {s : State} {m : MethodId} {args : Array Value} {below : List Frame} {meth : Method} {c : Code} {H : Heap} {locs : List Loc} {cells slots : Nat} {Q : State → Prop} {ls : Array Slot} {D : va_G} {cI cZ cT : ClassId} {A : Nat → Prop} {nx : Nat} {ra : Nat → Nat} {pa : Nat → Nat} {ta : Nat → Nat} {da : Nat → Nat} {ia : Nat} {xa : Nat} {fa : Nat → Nat} {za : Nat → Nat} {gb : Nat → Nat → Nat} {ga : Nat → Nat → Nat} {A0 : Nat → Nat} {b L i : Nat} {xs : Nat → Int32} (hx : p.tables.exec = Jvm.exec) (hb : c.code = cL_law) (hml : c.maxLocals = 4) (hown : s.vm.findClass RL = some m.cls) (hts : ∀ w ∈ wsL_law, w.before args s = true) (hX : va_X b L xs s s.heap) (hbl : b < s.heap.size) (hbA : ¬ A b) (hK : KX D cI cZ cT s) (hL : L ≤ 3072) (hi : i + 5 < L) (hRm : R = room_1) (hC : cells + 0 ≤ R.cells) (hSl : slots + 0 ≤ R.slots) (hl : lv_has ls 4 [(0, .ref b), (1, .ref nx), (2, .ref (A0 0)), (3, .int (nI i))]) (hI : LInv D cI cZ cT A s nx ra pa ta da ia xa fa za gb ga A0 H locs) (K : ∀ (ls : Array Slot) (H : Heap) (locs : List Loc), LInv D cI cZ cT A s nx ra pa ta da ia xa fa za gb ga A0 H locs → lv_has ls 4 [(0, .ref b), (1, .ref nx), (2, .ref (A0 0)), (3, .int (nI i))] → W p l e R s m args below meth c H locs cells slots Q (F0 m 1152 ls [])) : W p l e R s m args below meth c H locs cells slots Q (F0 m 1093 ls []) := by
  subst hRm
  obtain ⟨un, na, fi, it, la, sz, tl, tf, tat, tw, bt, st, dy, ln, rd, kd, dd, nt, lf, yd, co, wy, zl, zn, gi, gs, mss, mtp, mfk, mfp, map, msp, mtk, mvl, mac, mtr, mla, mma, mit, msr, mbt, mnw, mdr, mpa, mim, mkp, mtc, ⟨hRw, hTp, hTl, hAc, hIm, hTr, hfi, htf⟩, hP, hD, hS⟩ := hI
  subst hfi
  subst htf
  obtain ⟨n, hrd, hTR⟩ := id hTl
  obtain ⟨u, w, hun, hna, hac, hAx⟩ := id hAc
  obtain ⟨t, ht, htl, htp, hBB⟩ := id hTp
  obtain ⟨z, hz, hzl, htr, hzz⟩ := id hTr
  have hrd : rd = nI n := hrd
  subst hrd
  subst hun
  subst hna
  subst hac
  subst htl
  subst htp
  subst hzl
  subst htr
  refine lv_aload_n hx hb dL_law_1093 rfl (lv_at hl 1 rfl) ?_
  refine lv_aload_n hx hb dL_law_1094 rfl (lv_at hl 0 rfl) ?_
  refine lv_iload_n hx hb dL_law_1095 rfl (lv_at hl 3 rfl) ?_
  refine lv_iconst (v := nI 1) hx hb dL_law_1096 (by decide) ?_
  refine b_add hx hb dL_law_1097 ?_
  refine b_sld hx hb hX hbl hbA hS (show i + 1 < L by omega) hL dL_law_1098 ?_
  have he := e_trace hz hzz (xs (i + 1))
  refine b_callL (va_runV (As := [.int (xs (i + 1))]) (rest := []) ⟨hx, hb, hml, hown, hts⟩ (k_trace l D cI cZ cT nx ra pa ta da ia xa fa za gb ga (nI u) (nI w) fi it la sz (nI t) tf tat tw bt st dy ln (nI n) kd dd nt lf yd co wy (nI z) zn gi gs (xs (i + 1)) z rfl hz) (cwV 1 hts gL_law_X11_trace rfl rfl rfl (by decide +kernel) ⟨(Nat.le_of_ble_eq_true rfl), (Nat.le_of_ble_eq_true rfl)⟩) (b_pL hK hP hD (ci := 10) rfl rfl) rfl rfl hl.1 rfl (lv_room (Nat.le_of_ble_eq_true rfl)) dL_law_1099 ⟨hC, hSl⟩).run hP hD hS wX_fst (fun H locs hP hD hS => ?_)
  refine lv_aload_n hx hb dL_law_1102 rfl (lv_at hl 2 rfl) ?_
  refine lv_aload_n hx hb dL_law_1103 rfl (lv_at hl 0 rfl) ?_
  refine lv_iload_n hx hb dL_law_1104 rfl (lv_at hl 3 rfl) ?_
  refine lv_iconst (v := nI 1) hx hb dL_law_1105 (by decide) ?_
  refine b_add hx hb dL_law_1106 ?_
  refine b_sld hx hb hX hbl hbA hS (show i + 1 < L by omega) hL dL_law_1107 ?_
  refine b_callRt (va_runV (As := [.int (xs (i + 1))]) (rest := [.int (t_num z zn (xs (i + 1)))]) ⟨hx, hb, hml, hown, hts⟩ (j_trace l D cI cZ cT A0 fi (nI t) tf mfp map msp mtk mvl (nI u) (nI z) mla mma mit msr mbt mnw mdr mpa mim mkp mtc (xs (i + 1)) z rfl hz) (cwV 1 hts gL_law_X12_trace rfl rfl rfl (by decide +kernel) ⟨(Nat.le_of_ble_eq_true rfl), (Nat.le_of_ble_eq_true rfl)⟩) (b_pRt hK hP hD (ci := 11) rfl rfl) rfl rfl hl.1 rfl (lv_room (Nat.le_of_ble_eq_true rfl)) dL_law_1108 ⟨hC, hSl⟩).run hP hD hS rfl (fun H locs hP hD hS => ?_)
  refine lv_icmp_eq (tgt := 1152) hx hb dL_law_1111 (by decide) (fun c9 => ?_) (fun c9 => absurd (show (t_num z zn (xs (i + 1))) = (m_trace z mtc (xs (i + 1))) from he) c9)
  exact K ls H locs ⟨(nI u), (nI w), fi, it, la, sz, (nI t), tf, tat, tw, bt, st, dy, ln, (nI n), kd, dd, nt, lf, yd, co, wy, (nI z), zn, gi, gs, fi, (nI t), tf, mfp, map, msp, mtk, mvl, (nI u), (nI z), mla, mma, mit, msr, mbt, mnw, mdr, mpa, mim, mkp, mtc, ⟨hRw, hTp, hTl, hAc, hIm, hTr, rfl, rfl⟩, hP, hD, hS⟩ hl
set_option maxHeartbeats 600000 in
set_option maxRecDepth 100000 in
theorem lc_count {p : Program} {l : Launch} {e : Env} {R : Room} {s : State} {m : MethodId} {args : Array Value} {below : List Frame} {meth : Method} {c : Code} {H : Heap} {locs : List Loc} {cells slots : Nat} {Q : State → Prop} {ls : Array Slot} {D : va_G} {cI cZ cT : ClassId} {A : Nat → Prop} {nx : Nat} {ra : Nat → Nat} {pa : Nat → Nat} {ta : Nat → Nat} {da : Nat → Nat} {ia : Nat} {xa : Nat} {fa : Nat → Nat} {za : Nat → Nat} {gb : Nat → Nat → Nat} {ga : Nat → Nat → Nat} {A0 : Nat → Nat} {b L i : Nat} {xs : Nat → Int32} (hx : p.tables.exec = Jvm.exec) (hb : c.code = cL_law) (hml : c.maxLocals = 4) (hown : s.vm.findClass RL = some m.cls) (hts : ∀ w ∈ wsL_law, w.before args s = true) (hX : va_X b L xs s s.heap) (hbl : b < s.heap.size) (hbA : ¬ A b) (hK : KX D cI cZ cT s) (hL : L ≤ 3072) (hi : i + 5 < L) (hRm : R = room_1) (hC : cells + 0 ≤ R.cells) (hSl : slots + 0 ≤ R.slots) (hl : lv_has ls 4 [(0, .ref b), (1, .ref nx), (2, .ref (A0 0)), (3, .int (nI i))]) (hI : LInv D cI cZ cT A s nx ra pa ta da ia xa fa za gb ga A0 H locs) (K : ∀ (ls : Array Slot) (H : Heap) (locs : List Loc), LInv D cI cZ cT A s nx ra pa ta da ia xa fa za gb ga A0 H locs → lv_has ls 4 [(0, .ref b), (1, .ref nx), (2, .ref (A0 0)), (3, .int (nI i))] → W p l e R s m args below meth c H locs cells slots Q (F0 m 1152 ls [])) : W p l e R s m args below meth c H locs cells slots Q (F0 m 1116 ls []) := by
  subst hRm
  obtain ⟨un, na, fi, it, la, sz, tl, tf, tat, tw, bt, st, dy, ln, rd, kd, dd, nt, lf, yd, co, wy, zl, zn, gi, gs, mss, mtp, mfk, mfp, map, msp, mtk, mvl, mac, mtr, mla, mma, mit, msr, mbt, mnw, mdr, mpa, mim, mkp, mtc, ⟨hRw, hTp, hTl, hAc, hIm, hTr, hfi, htf⟩, hP, hD, hS⟩ := hI
  subst hfi
  subst htf
  obtain ⟨n, hrd, hTR⟩ := id hTl
  obtain ⟨u, w, hun, hna, hac, hAx⟩ := id hAc
  obtain ⟨t, ht, htl, htp, hBB⟩ := id hTp
  obtain ⟨z, hz, hzl, htr, hzz⟩ := id hTr
  have hrd : rd = nI n := hrd
  subst hrd
  subst hun
  subst hna
  subst hac
  subst htl
  subst htp
  subst hzl
  subst htr
  refine lv_aload_n hx hb dL_law_1116 rfl (lv_at hl 1 rfl) ?_
  refine lv_aload_n hx hb dL_law_1117 rfl (lv_at hl 0 rfl) ?_
  refine lv_iload_n hx hb dL_law_1118 rfl (lv_at hl 3 rfl) ?_
  refine lv_iconst (v := nI 1) hx hb dL_law_1119 (by decide) ?_
  refine b_add hx hb dL_law_1120 ?_
  refine b_sld hx hb hX hbl hbA hS (show i + 1 < L by omega) hL dL_law_1121 ?_
  have he := e_count hTR hRw (nc := u) (t := t) (xs (i + 1))
  refine b_callL (va_runV (As := [.int (xs (i + 1))]) (rest := []) ⟨hx, hb, hml, hown, hts⟩ (k_count l D cI cZ cT nx ra pa ta da ia xa fa za gb ga (nI u) (nI w) fi it la sz (nI t) tf tat tw bt st dy ln (nI n) kd dd nt lf yd co wy (nI z) zn gi gs (xs (i + 1)) t n rfl rfl hTR.n6) (cwV 1 hts gL_law_X11_count rfl rfl rfl (by decide +kernel) ⟨(Nat.le_of_ble_eq_true rfl), (Nat.le_of_ble_eq_true rfl)⟩) (b_pL hK hP hD (ci := 10) rfl rfl) rfl rfl hl.1 rfl (lv_room (Nat.le_of_ble_eq_true rfl)) dL_law_1122 ⟨hC, hSl⟩).run hP hD hS wX_fst (fun H locs hP hD hS => ?_)
  refine lv_aload_n hx hb dL_law_1125 rfl (lv_at hl 2 rfl) ?_
  refine lv_aload_n hx hb dL_law_1126 rfl (lv_at hl 0 rfl) ?_
  refine lv_iload_n hx hb dL_law_1127 rfl (lv_at hl 3 rfl) ?_
  refine lv_iconst (v := nI 1) hx hb dL_law_1128 (by decide) ?_
  refine b_add hx hb dL_law_1129 ?_
  refine b_sld hx hb hX hbl hbA hS (show i + 1 < L by omega) hL dL_law_1130 ?_
  refine b_callRt (va_runV (As := [.int (xs (i + 1))]) (rest := [.int (x_count la dy ln n dd nt lf (nI u) t (xs (i + 1)))]) ⟨hx, hb, hml, hown, hts⟩ (j_count l D cI cZ cT A0 fi (nI t) tf mfp map msp mtk mvl (nI u) (nI z) mla mma mit msr mbt mnw mdr mpa mim mkp mtc (xs (i + 1)) t u n rfl rfl hTR.2.2.2.2.2.1) (cwV 1 hts gL_law_X12_count rfl rfl rfl (by decide +kernel) ⟨(Nat.le_of_ble_eq_true rfl), (Nat.le_of_ble_eq_true rfl)⟩) (b_pRt hK hP hD (ci := 11) rfl rfl) rfl rfl hl.1 rfl (lv_room (Nat.le_of_ble_eq_true rfl)) dL_law_1131 ⟨hC, hSl⟩).run hP hD hS rfl (fun H locs hP hD hS => ?_)
  refine lv_icmp_eq (tgt := 1152) hx hb dL_law_1134 (by decide) (fun c9 => ?_) (fun c9 => absurd (show (x_count la dy ln n dd nt lf (nI u) t (xs (i + 1))) = (m_count mnw mla n u t (xs (i + 1))) from he) c9)
  exact K ls H locs ⟨(nI u), (nI w), fi, it, la, sz, (nI t), tf, tat, tw, bt, st, dy, ln, (nI n), kd, dd, nt, lf, yd, co, wy, (nI z), zn, gi, gs, fi, (nI t), tf, mfp, map, msp, mtk, mvl, (nI u), (nI z), mla, mma, mit, msr, mbt, mnw, mdr, mpa, mim, mkp, mtc, ⟨hRw, hTp, hTl, hAc, hIm, hTr, rfl, rfl⟩, hP, hD, hS⟩ hl
set_option maxHeartbeats 600000 in
set_option maxRecDepth 100000 in
theorem lc_status {p : Program} {l : Launch} {e : Env} {R : Room} {s : State} {m : MethodId} {args : Array Value} {below : List Frame} {meth : Method} {c : Code} {H : Heap} {locs : List Loc} {cells slots : Nat} {Q : State → Prop} {ls : Array Slot} {D : va_G} {cI cZ cT : ClassId} {A : Nat → Prop} {nx : Nat} {ra : Nat → Nat} {pa : Nat → Nat} {ta : Nat → Nat} {da : Nat → Nat} {ia : Nat} {xa : Nat} {fa : Nat → Nat} {za : Nat → Nat} {gb : Nat → Nat → Nat} {ga : Nat → Nat → Nat} {A0 : Nat → Nat} {b L i : Nat} {xs : Nat → Int32} (hx : p.tables.exec = Jvm.exec) (hb : c.code = cL_law) (hml : c.maxLocals = 4) (hown : s.vm.findClass RL = some m.cls) (hts : ∀ w ∈ wsL_law, w.before args s = true) (hX : va_X b L xs s s.heap) (hbl : b < s.heap.size) (hbA : ¬ A b) (hK : KX D cI cZ cT s) (hL : L ≤ 3072) (hi : i + 5 < L) (hRm : R = room_1) (hC : cells + 0 ≤ R.cells) (hSl : slots + 0 ≤ R.slots) (hl : lv_has ls 4 [(0, .ref b), (1, .ref nx), (2, .ref (A0 0)), (3, .int (nI i))]) (hI : LInv D cI cZ cT A s nx ra pa ta da ia xa fa za gb ga A0 H locs) (K : ∀ (ls : Array Slot) (H : Heap) (locs : List Loc), LInv D cI cZ cT A s nx ra pa ta da ia xa fa za gb ga A0 H locs → lv_has ls 4 [(0, .ref b), (1, .ref nx), (2, .ref (A0 0)), (3, .int (nI i))] → W p l e R s m args below meth c H locs cells slots Q (F0 m 1152 ls [])) : W p l e R s m args below meth c H locs cells slots Q (F0 m 1139 ls []) := by
  subst hRm
  obtain ⟨un, na, fi, it, la, sz, tl, tf, tat, tw, bt, st, dy, ln, rd, kd, dd, nt, lf, yd, co, wy, zl, zn, gi, gs, mss, mtp, mfk, mfp, map, msp, mtk, mvl, mac, mtr, mla, mma, mit, msr, mbt, mnw, mdr, mpa, mim, mkp, mtc, ⟨hRw, hTp, hTl, hAc, hIm, hTr, hfi, htf⟩, hP, hD, hS⟩ := hI
  subst hfi
  subst htf
  obtain ⟨n, hrd, hTR⟩ := id hTl
  obtain ⟨u, w, hun, hna, hac, hAx⟩ := id hAc
  obtain ⟨t, ht, htl, htp, hBB⟩ := id hTp
  obtain ⟨z, hz, hzl, htr, hzz⟩ := id hTr
  have hrd : rd = nI n := hrd
  subst hrd
  subst hun
  subst hna
  subst hac
  subst htl
  subst htp
  subst hzl
  subst htr
  refine lv_aload_n hx hb dL_law_1139 rfl (lv_at hl 1 rfl) ?_
  have he := True.intro
  refine b_callL (va_runV (As := []) (rest := []) ⟨hx, hb, hml, hown, hts⟩ (k_status l D cI cZ cT nx ra pa ta da ia xa fa za gb ga (nI u) (nI w) fi it la sz (nI t) tf tat tw bt st dy ln (nI n) kd dd nt lf yd co wy (nI z) zn gi gs    ) (cwV 0 hts gL_law_X11_status rfl rfl rfl (by decide +kernel) ⟨(Nat.le_of_ble_eq_true rfl), (Nat.le_of_ble_eq_true rfl)⟩) (b_pL hK hP hD (ci := 10) rfl rfl) rfl rfl hl.1 rfl (lv_room (Nat.le_of_ble_eq_true rfl)) dL_law_1140 ⟨hC, hSl⟩).run hP hD hS wX_fst (fun H locs hP hD hS => ?_)
  refine lv_aload_n hx hb dL_law_1143 rfl (lv_at hl 2 rfl) ?_
  refine b_callRt (va_runV (As := []) (rest := [.int fi]) ⟨hx, hb, hml, hown, hts⟩ (j_status l D cI cZ cT A0 fi (nI t) tf mfp map msp mtk mvl (nI u) (nI z) mla mma mit msr mbt mnw mdr mpa mim mkp mtc    ) (cwV 0 hts gL_law_X12_status rfl rfl rfl (by decide +kernel) ⟨(Nat.le_of_ble_eq_true rfl), (Nat.le_of_ble_eq_true rfl)⟩) (b_pRt hK hP hD (ci := 11) rfl rfl) rfl rfl hl.1 rfl (lv_room (Nat.le_of_ble_eq_true rfl)) dL_law_1144 ⟨hC, hSl⟩).run hP hD hS rfl (fun H locs hP hD hS => ?_)
  refine lv_icmp_eq (tgt := 1152) hx hb dL_law_1147 (by decide) (fun c9 => ?_) (fun c9 => absurd (show fi = fi from rfl) c9)
  exact K ls H locs ⟨(nI u), (nI w), fi, it, la, sz, (nI t), tf, tat, tw, bt, st, dy, ln, (nI n), kd, dd, nt, lf, yd, co, wy, (nI z), zn, gi, gs, fi, (nI t), tf, mfp, map, msp, mtk, mvl, (nI u), (nI z), mla, mma, mit, msr, mbt, mnw, mdr, mpa, mim, mkp, mtc, ⟨hRw, hTp, hTl, hAc, hIm, hTr, rfl, rfl⟩, hP, hD, hS⟩ hl
