/-! The law's cases -/
set_option maxHeartbeats 600000 in
set_option maxRecDepth 100000 in
theorem lc_row {p : Program} {l : Launch} {e : Env} {R : Room} {s : State} {m : MethodId} {args : Array Value} {below : List Frame} {meth : Method} {c : Code} {H : Heap} {locs : List Loc} {cells slots : Nat} {Q : State → Prop} {ls : Array Slot} {D : va_G} {cI cZ cT : ClassId} {A : Nat → Prop} {nx : Nat} {ra : Nat → Nat} {pa : Nat → Nat} {ta : Nat → Nat} {da : Nat → Nat} {ia : Nat} {xa : Nat} {fa : Nat → Nat} {za : Nat → Nat} {gb : Nat → Nat → Nat} {ga : Nat → Nat → Nat} {A0 : Nat → Nat} {b L i : Nat} {xs : Nat → Int32} (hx : p.tables.exec = Jvm.exec) (hb : c.code = cL_law) (hml : c.maxLocals = 4) (hown : s.vm.findClass RL = some m.cls) (hts : ∀ w ∈ wsL_law, w.before args s = true) (hX : va_X b L xs s s.heap) (hbl : b < s.heap.size) (hbA : ¬ A b) (hK : KX D cI cZ cT s) (hL : L ≤ 3072) (hi : i + 5 < L) (hRm : R = room_1) (hC : cells + 0 ≤ R.cells) (hSl : slots + 0 ≤ R.slots) (hl : lv_has ls 4 [(0, .ref b), (1, .ref nx), (2, .ref (A0 0)), (3, .int (nI i))]) (hI : LInv D cI cZ cT A s nx ra pa ta da ia xa fa za gb ga A0 H locs) (K : ∀ (ls : Array Slot) (H : Heap) (locs : List Loc), LInv D cI cZ cT A s nx ra pa ta da ia xa fa za gb ga A0 H locs → lv_has ls 4 [(0, .ref b), (1, .ref nx), (2, .ref (A0 0)), (3, .int (nI i))] → W p l e R s m args below meth c H locs cells slots Q (F0 m 1152 ls [])) : W p l e R s m args below meth c H locs cells slots Q (F0 m 176 ls []) := by
  subst hRm
  obtain ⟨un, na, fi, it, la, sz, tl, tf, tat, tw, bt, st, dy, ln, rd, kd, dd, nt, lf, yd, co, wy, zl, zn, gi, gs, mss, mtp, mfk, mfp, map, msp, mtk, mvl, mac, mtr, mla, mma, mit, msr, mbt, mnw, mdr, mpa, mim, mkp, mtc, ⟨hRw, hTp, hTl, hAc, hIm, hTr, hfi, htf⟩, hP, hD, hS⟩ := hI
  subst hfi
  subst htf
  obtain ⟨n, hrd, hTR⟩ := id hTl
  obtain ⟨u, w, hun, hna, hac, hAx⟩ := id hAc
  obtain ⟨t, ht, htl, htp, hBB⟩ := id hTp
  obtain ⟨z, hz, hzl, htr, hzz⟩ := id hTr
  have hrd : rd = nI n := hrd
  subst hrd
  subst hun
  subst hna
  subst hac
  subst htl
  subst htp
  subst hzl
  subst htr
  refine lv_aload_n hx hb dL_law_176 rfl (lv_at hl 1 rfl) ?_
  refine lv_aload_n hx hb dL_law_177 rfl (lv_at hl 0 rfl) ?_
  refine lv_iload_n hx hb dL_law_178 rfl (lv_at hl 3 rfl) ?_
  refine lv_iconst (v := nI 1) hx hb dL_law_179 (by decide) ?_
  refine b_add hx hb dL_law_180 ?_
  refine b_sld hx hb hX hbl hbA hS (show i + 1 < L by omega) hL dL_law_181 ?_
  refine lv_aload_n hx hb dL_law_182 rfl (lv_at hl 0 rfl) ?_
  refine lv_iload_n hx hb dL_law_183 rfl (lv_at hl 3 rfl) ?_
  refine lv_iconst (v := nI 2) hx hb dL_law_184 (by decide) ?_
  refine b_add hx hb dL_law_185 ?_
  refine b_sld hx hb hX hbl hbA hS (show i + 2 < L by omega) hL dL_law_186 ?_
  refine lv_aload_n hx hb dL_law_187 rfl (lv_at hl 0 rfl) ?_
  refine lv_iload_n hx hb dL_law_188 rfl (lv_at hl 3 rfl) ?_
  refine lv_iconst (v := nI 3) hx hb dL_law_189 (by decide) ?_
  refine b_add hx hb dL_law_190 ?_
  refine b_sld hx hb hX hbl hbA hS (show i + 3 < L by omega) hL dL_law_191 ?_
  have he := e_row (fi := fi)  hRw (xs (i + 1)) (xs (i + 2)) (xs (i + 3))
  have hkX := (k_row l D cI cZ cT nx ra pa ta da ia xa fa za gb ga (nI u) (nI w) fi it la sz (nI t) tf tat tw bt st dy ln (nI n) kd dd nt lf yd co wy (nI z) zn gi gs (xs (i + 1)) (xs (i + 2)) (xs (i + 3))   )
  generalize eZ9 : x_row fi la sz it (xs (i + 1)) (xs (i + 2)) (xs (i + 3)) = Z9 at hkX he
  refine b_callL (va_runV (As := [.int (xs (i + 1)), .int (xs (i + 2)), .int (xs (i + 3))]) (rest := []) ⟨hx, hb, hml, hown, hts⟩ hkX (cwV 3 hts gL_law_X11_row rfl rfl rfl (by decide +kernel) ⟨(Nat.le_of_ble_eq_true rfl), (Nat.le_of_ble_eq_true rfl)⟩) (b_pL hK hP hD (ci := 10) rfl rfl) rfl rfl hl.1 rfl (lv_room (Nat.le_of_ble_eq_true rfl)) dL_law_192 ⟨hC, hSl⟩).run hP hD hS wX_fst (fun H locs hP hD hS => ?_)
  refine lv_aload_n hx hb dL_law_195 rfl (lv_at hl 2 rfl) ?_
  refine lv_aload_n hx hb dL_law_196 rfl (lv_at hl 0 rfl) ?_
  refine lv_iload_n hx hb dL_law_197 rfl (lv_at hl 3 rfl) ?_
  refine lv_iconst (v := nI 1) hx hb dL_law_198 (by decide) ?_
  refine b_add hx hb dL_law_199 ?_
  refine b_sld hx hb hX hbl hbA hS (show i + 1 < L by omega) hL dL_law_200 ?_
  refine lv_aload_n hx hb dL_law_201 rfl (lv_at hl 0 rfl) ?_
  refine lv_iload_n hx hb dL_law_202 rfl (lv_at hl 3 rfl) ?_
  refine lv_iconst (v := nI 2) hx hb dL_law_203 (by decide) ?_
  refine b_add hx hb dL_law_204 ?_
  refine b_sld hx hb hX hbl hbA hS (show i + 2 < L by omega) hL dL_law_205 ?_
  refine lv_aload_n hx hb dL_law_206 rfl (lv_at hl 0 rfl) ?_
  refine lv_iload_n hx hb dL_law_207 rfl (lv_at hl 3 rfl) ?_
  refine lv_iconst (v := nI 3) hx hb dL_law_208 (by decide) ?_
  refine b_add hx hb dL_law_209 ?_
  refine b_sld hx hb hX hbl hbA hS (show i + 3 < L by omega) hL dL_law_210 ?_
  have hjM := (j_row l D cI cZ cT A0 fi (nI t) tf mfp map msp mtk mvl (nI u) (nI z) mla mma mit msr mbt mnw mdr mpa mim mkp mtc (xs (i + 1)) (xs (i + 2)) (xs (i + 3))   )
  generalize eM9 : m_row fi mla mma mit (xs (i + 1)) (xs (i + 2)) (xs (i + 3)) = M9 at hjM he
  refine b_callRt (va_runV (As := [.int (xs (i + 1)), .int (xs (i + 2)), .int (xs (i + 3))]) (rest := [.int (Z9.1)]) ⟨hx, hb, hml, hown, hts⟩ hjM (cwV 3 hts gL_law_X12_row rfl rfl rfl (by decide +kernel) ⟨(Nat.le_of_ble_eq_true rfl), (Nat.le_of_ble_eq_true rfl)⟩) (b_pRt hK hP hD (ci := 11) rfl rfl) rfl rfl hl.1 rfl (lv_room (Nat.le_of_ble_eq_true rfl)) dL_law_211 ⟨hC, hSl⟩).run hP hD hS rfl (fun H locs hP hD hS => ?_)
  refine lv_icmp_eq (tgt := 1152) hx hb dL_law_214 (by decide) (fun c9 => ?_) (fun c9 => absurd (show (Z9.1) = (M9.1) from he.1) c9)
  exact K ls H locs ⟨(nI u), (nI w), (Z9.2.1), (Z9.2.2.2.2), (Z9.2.2.1), (Z9.2.2.2.1), (nI t), tf, tat, tw, bt, st, dy, ln, (nI n), kd, dd, nt, lf, yd, co, wy, (nI z), zn, gi, gs, (M9.2.1), (nI t), tf, mfp, map, msp, mtk, mvl, (nI u), (nI z), (M9.2.2.1), (M9.2.2.2.1), (M9.2.2.2.2), msr, mbt, mnw, mdr, mpa, mim, mkp, mtc, ⟨he.2.2, hTp, hTl, hAc, hIm, hTr, he.2.1, rfl⟩, hP, hD, hS⟩ hl
set_option maxHeartbeats 600000 in
set_option maxRecDepth 100000 in
theorem lc_set {p : Program} {l : Launch} {e : Env} {R : Room} {s : State} {m : MethodId} {args : Array Value} {below : List Frame} {meth : Method} {c : Code} {H : Heap} {locs : List Loc} {cells slots : Nat} {Q : State → Prop} {ls : Array Slot} {D : va_G} {cI cZ cT : ClassId} {A : Nat → Prop} {nx : Nat} {ra : Nat → Nat} {pa : Nat → Nat} {ta : Nat → Nat} {da : Nat → Nat} {ia : Nat} {xa : Nat} {fa : Nat → Nat} {za : Nat → Nat} {gb : Nat → Nat → Nat} {ga : Nat → Nat → Nat} {A0 : Nat → Nat} {b L i : Nat} {xs : Nat → Int32} (hx : p.tables.exec = Jvm.exec) (hb : c.code = cL_law) (hml : c.maxLocals = 4) (hown : s.vm.findClass RL = some m.cls) (hts : ∀ w ∈ wsL_law, w.before args s = true) (hX : va_X b L xs s s.heap) (hbl : b < s.heap.size) (hbA : ¬ A b) (hK : KX D cI cZ cT s) (hL : L ≤ 3072) (hi : i + 5 < L) (hRm : R = room_1) (hC : cells + 0 ≤ R.cells) (hSl : slots + 0 ≤ R.slots) (hl : lv_has ls 4 [(0, .ref b), (1, .ref nx), (2, .ref (A0 0)), (3, .int (nI i))]) (hI : LInv D cI cZ cT A s nx ra pa ta da ia xa fa za gb ga A0 H locs) (K : ∀ (ls : Array Slot) (H : Heap) (locs : List Loc), LInv D cI cZ cT A s nx ra pa ta da ia xa fa za gb ga A0 H locs → lv_has ls 4 [(0, .ref b), (1, .ref nx), (2, .ref (A0 0)), (3, .int (nI i))] → W p l e R s m args below meth c H locs cells slots Q (F0 m 1152 ls [])) : W p l e R s m args below meth c H locs cells slots Q (F0 m 219 ls []) := by
  subst hRm
  obtain ⟨un, na, fi, it, la, sz, tl, tf, tat, tw, bt, st, dy, ln, rd, kd, dd, nt, lf, yd, co, wy, zl, zn, gi, gs, mss, mtp, mfk, mfp, map, msp, mtk, mvl, mac, mtr, mla, mma, mit, msr, mbt, mnw, mdr, mpa, mim, mkp, mtc, ⟨hRw, hTp, hTl, hAc, hIm, hTr, hfi, htf⟩, hP, hD, hS⟩ := hI
  subst hfi
  subst htf
  obtain ⟨n, hrd, hTR⟩ := id hTl
  obtain ⟨u, w, hun, hna, hac, hAx⟩ := id hAc
  obtain ⟨t, ht, htl, htp, hBB⟩ := id hTp
  obtain ⟨z, hz, hzl, htr, hzz⟩ := id hTr
  have hrd : rd = nI n := hrd
  subst hrd
  subst hun
  subst hna
  subst hac
  subst htl
  subst htp
  subst hzl
  subst htr
  refine lv_aload_n hx hb dL_law_219 rfl (lv_at hl 1 rfl) ?_
  refine lv_aload_n hx hb dL_law_220 rfl (lv_at hl 0 rfl) ?_
  refine lv_iload_n hx hb dL_law_221 rfl (lv_at hl 3 rfl) ?_
  refine lv_iconst (v := nI 1) hx hb dL_law_222 (by decide) ?_
  refine b_add hx hb dL_law_223 ?_
  refine b_sld hx hb hX hbl hbA hS (show i + 1 < L by omega) hL dL_law_224 ?_
  refine lv_aload_n hx hb dL_law_225 rfl (lv_at hl 0 rfl) ?_
  refine lv_iload_n hx hb dL_law_226 rfl (lv_at hl 3 rfl) ?_
  refine lv_iconst (v := nI 2) hx hb dL_law_227 (by decide) ?_
  refine b_add hx hb dL_law_228 ?_
  refine b_sld hx hb hX hbl hbA hS (show i + 2 < L by omega) hL dL_law_229 ?_
  refine lv_aload_n hx hb dL_law_230 rfl (lv_at hl 0 rfl) ?_
  refine lv_iload_n hx hb dL_law_231 rfl (lv_at hl 3 rfl) ?_
  refine lv_iconst (v := nI 3) hx hb dL_law_232 (by decide) ?_
  refine b_add hx hb dL_law_233 ?_
  refine b_sld hx hb hX hbl hbA hS (show i + 3 < L by omega) hL dL_law_234 ?_
  have he := e_set (fi := fi)  hRw (xs (i + 1)) (xs (i + 2)) (xs (i + 3))
  have hkX := (k_set l D cI cZ cT nx ra pa ta da ia xa fa za gb ga (nI u) (nI w) fi it la sz (nI t) tf tat tw bt st dy ln (nI n) kd dd nt lf yd co wy (nI z) zn gi gs (xs (i + 1)) (xs (i + 2)) (xs (i + 3))   (fun r hr => (hRw r hr).1))
  generalize eZ9 : x_set fi la sz it (xs (i + 1)) (xs (i + 2)) (xs (i + 3)) = Z9 at hkX he
  refine b_callL (va_runV (As := [.int (xs (i + 1)), .int (xs (i + 2)), .int (xs (i + 3))]) (rest := []) ⟨hx, hb, hml, hown, hts⟩ hkX (cwV 3 hts gL_law_X11_set rfl rfl rfl (by decide +kernel) ⟨(Nat.le_of_ble_eq_true rfl), (Nat.le_of_ble_eq_true rfl)⟩) (b_pL hK hP hD (ci := 10) rfl rfl) rfl rfl hl.1 rfl (lv_room (Nat.le_of_ble_eq_true rfl)) dL_law_235 ⟨hC, hSl⟩).run hP hD hS wX_fst (fun H locs hP hD hS => ?_)
  refine lv_aload_n hx hb dL_law_238 rfl (lv_at hl 2 rfl) ?_
  refine lv_aload_n hx hb dL_law_239 rfl (lv_at hl 0 rfl) ?_
  refine lv_iload_n hx hb dL_law_240 rfl (lv_at hl 3 rfl) ?_
  refine lv_iconst (v := nI 1) hx hb dL_law_241 (by decide) ?_
  refine b_add hx hb dL_law_242 ?_
  refine b_sld hx hb hX hbl hbA hS (show i + 1 < L by omega) hL dL_law_243 ?_
  refine lv_aload_n hx hb dL_law_244 rfl (lv_at hl 0 rfl) ?_
  refine lv_iload_n hx hb dL_law_245 rfl (lv_at hl 3 rfl) ?_
  refine lv_iconst (v := nI 2) hx hb dL_law_246 (by decide) ?_
  refine b_add hx hb dL_law_247 ?_
  refine b_sld hx hb hX hbl hbA hS (show i + 2 < L by omega) hL dL_law_248 ?_
  refine lv_aload_n hx hb dL_law_249 rfl (lv_at hl 0 rfl) ?_
  refine lv_iload_n hx hb dL_law_250 rfl (lv_at hl 3 rfl) ?_
  refine lv_iconst (v := nI 3) hx hb dL_law_251 (by decide) ?_
  refine b_add hx hb dL_law_252 ?_
  refine b_sld hx hb hX hbl hbA hS (show i + 3 < L by omega) hL dL_law_253 ?_
  have hjM := (j_set l D cI cZ cT A0 fi (nI t) tf mfp map msp mtk mvl (nI u) (nI z) mla mma mit msr mbt mnw mdr mpa mim mkp mtc (xs (i + 1)) (xs (i + 2)) (xs (i + 3))   (fun r hr => (hRw r hr).2.1))
  generalize eM9 : m_set fi mla mma mit (xs (i + 1)) (xs (i + 2)) (xs (i + 3)) = M9 at hjM he
  refine b_callRt (va_runV (As := [.int (xs (i + 1)), .int (xs (i + 2)), .int (xs (i + 3))]) (rest := [.int (Z9.1)]) ⟨hx, hb, hml, hown, hts⟩ hjM (cwV 3 hts gL_law_X12_set rfl rfl rfl (by decide +kernel) ⟨(Nat.le_of_ble_eq_true rfl), (Nat.le_of_ble_eq_true rfl)⟩) (b_pRt hK hP hD (ci := 11) rfl rfl) rfl rfl hl.1 rfl (lv_room (Nat.le_of_ble_eq_true rfl)) dL_law_254 ⟨hC, hSl⟩).run hP hD hS rfl (fun H locs hP hD hS => ?_)
  refine lv_icmp_eq (tgt := 1152) hx hb dL_law_257 (by decide) (fun c9 => ?_) (fun c9 => absurd (show (Z9.1) = (M9.1) from he.1) c9)
  exact K ls H locs ⟨(nI u), (nI w), (Z9.2.1), (Z9.2.2), la, sz, (nI t), tf, tat, tw, bt, st, dy, ln, (nI n), kd, dd, nt, lf, yd, co, wy, (nI z), zn, gi, gs, (M9.2.1), (nI t), tf, mfp, map, msp, mtk, mvl, (nI u), (nI z), mla, mma, (M9.2.2), msr, mbt, mnw, mdr, mpa, mim, mkp, mtc, ⟨he.2.2, hTp, hTl, hAc, hIm, hTr, he.2.1, rfl⟩, hP, hD, hS⟩ hl
set_option maxHeartbeats 600000 in
set_option maxRecDepth 100000 in
theorem lc_copy {p : Program} {l : Launch} {e : Env} {R : Room} {s : State} {m : MethodId} {args : Array Value} {below : List Frame} {meth : Method} {c : Code} {H : Heap} {locs : List Loc} {cells slots : Nat} {Q : State → Prop} {ls : Array Slot} {D : va_G} {cI cZ cT : ClassId} {A : Nat → Prop} {nx : Nat} {ra : Nat → Nat} {pa : Nat → Nat} {ta : Nat → Nat} {da : Nat → Nat} {ia : Nat} {xa : Nat} {fa : Nat → Nat} {za : Nat → Nat} {gb : Nat → Nat → Nat} {ga : Nat → Nat → Nat} {A0 : Nat → Nat} {b L i : Nat} {xs : Nat → Int32} (hx : p.tables.exec = Jvm.exec) (hb : c.code = cL_law) (hml : c.maxLocals = 4) (hown : s.vm.findClass RL = some m.cls) (hts : ∀ w ∈ wsL_law, w.before args s = true) (hX : va_X b L xs s s.heap) (hbl : b < s.heap.size) (hbA : ¬ A b) (hK : KX D cI cZ cT s) (hL : L ≤ 3072) (hi : i + 5 < L) (hRm : R = room_1) (hC : cells + 0 ≤ R.cells) (hSl : slots + 0 ≤ R.slots) (hl : lv_has ls 4 [(0, .ref b), (1, .ref nx), (2, .ref (A0 0)), (3, .int (nI i))]) (hI : LInv D cI cZ cT A s nx ra pa ta da ia xa fa za gb ga A0 H locs) (K : ∀ (ls : Array Slot) (H : Heap) (locs : List Loc), LInv D cI cZ cT A s nx ra pa ta da ia xa fa za gb ga A0 H locs → lv_has ls 4 [(0, .ref b), (1, .ref nx), (2, .ref (A0 0)), (3, .int (nI i))] → W p l e R s m args below meth c H locs cells slots Q (F0 m 1152 ls [])) : W p l e R s m args below meth c H locs cells slots Q (F0 m 262 ls []) := by
  subst hRm
  obtain ⟨un, na, fi, it, la, sz, tl, tf, tat, tw, bt, st, dy, ln, rd, kd, dd, nt, lf, yd, co, wy, zl, zn, gi, gs, mss, mtp, mfk, mfp, map, msp, mtk, mvl, mac, mtr, mla, mma, mit, msr, mbt, mnw, mdr, mpa, mim, mkp, mtc, ⟨hRw, hTp, hTl, hAc, hIm, hTr, hfi, htf⟩, hP, hD, hS⟩ := hI
  subst hfi
  subst htf
  obtain ⟨n, hrd, hTR⟩ := id hTl
  obtain ⟨u, w, hun, hna, hac, hAx⟩ := id hAc
  obtain ⟨t, ht, htl, htp, hBB⟩ := id hTp
  obtain ⟨z, hz, hzl, htr, hzz⟩ := id hTr
  have hrd : rd = nI n := hrd
  subst hrd
  subst hun
  subst hna
  subst hac
  subst htl
  subst htp
  subst hzl
  subst htr
  refine lv_aload_n hx hb dL_law_262 rfl (lv_at hl 1 rfl) ?_
  refine lv_aload_n hx hb dL_law_263 rfl (lv_at hl 0 rfl) ?_
  refine lv_iload_n hx hb dL_law_264 rfl (lv_at hl 3 rfl) ?_
  refine lv_iconst (v := nI 1) hx hb dL_law_265 (by decide) ?_
  refine b_add hx hb dL_law_266 ?_
  refine b_sld hx hb hX hbl hbA hS (show i + 1 < L by omega) hL dL_law_267 ?_
  refine lv_aload_n hx hb dL_law_268 rfl (lv_at hl 0 rfl) ?_
  refine lv_iload_n hx hb dL_law_269 rfl (lv_at hl 3 rfl) ?_
  refine lv_iconst (v := nI 2) hx hb dL_law_270 (by decide) ?_
  refine b_add hx hb dL_law_271 ?_
  refine b_sld hx hb hX hbl hbA hS (show i + 2 < L by omega) hL dL_law_272 ?_
  refine lv_aload_n hx hb dL_law_273 rfl (lv_at hl 0 rfl) ?_
  refine lv_iload_n hx hb dL_law_274 rfl (lv_at hl 3 rfl) ?_
  refine lv_iconst (v := nI 3) hx hb dL_law_275 (by decide) ?_
  refine b_add hx hb dL_law_276 ?_
  refine b_sld hx hb hX hbl hbA hS (show i + 3 < L by omega) hL dL_law_277 ?_
  refine lv_aload_n hx hb dL_law_278 rfl (lv_at hl 0 rfl) ?_
  refine lv_iload_n hx hb dL_law_279 rfl (lv_at hl 3 rfl) ?_
  refine lv_iconst (v := nI 4) hx hb dL_law_280 (by decide) ?_
  refine b_add hx hb dL_law_281 ?_
  refine b_sld hx hb hX hbl hbA hS (show i + 4 < L by omega) hL dL_law_282 ?_
  refine lv_aload_n hx hb dL_law_283 rfl (lv_at hl 0 rfl) ?_
  refine lv_iload_n hx hb dL_law_284 rfl (lv_at hl 3 rfl) ?_
  refine lv_iconst (v := nI 5) hx hb dL_law_285 (by decide) ?_
  refine b_add hx hb dL_law_286 ?_
  refine b_sld hx hb hX hbl hbA hS (show i + 5 < L by omega) hL dL_law_287 ?_
  have he := e_copy (fi := fi) (msr := msr) hRw (xs (i + 1)) (xs (i + 2)) (xs (i + 3)) (xs (i + 4)) (xs (i + 5))
  have hkX := (k_copy l D cI cZ cT nx ra pa ta da ia xa fa za gb ga (nI u) (nI w) fi it la sz (nI t) tf tat tw bt st dy ln (nI n) kd dd nt lf yd co wy (nI z) zn gi gs (xs (i + 1)) (xs (i + 2)) (xs (i + 3)) (xs (i + 4)) (xs (i + 5))   (fun r hr => (hRw r hr).1))
  generalize eZ9 : x_copy fi la sz it (xs (i + 1)) (xs (i + 2)) (xs (i + 3)) (xs (i + 4)) (xs (i + 5)) = Z9 at hkX he
  refine b_callL (va_runV (As := [.int (xs (i + 1)), .int (xs (i + 2)), .int (xs (i + 3)), .int (xs (i + 4)), .int (xs (i + 5))]) (rest := []) ⟨hx, hb, hml, hown, hts⟩ hkX (cwV 5 hts gL_law_X11_copy rfl rfl rfl (by decide +kernel) ⟨(Nat.le_of_ble_eq_true rfl), (Nat.le_of_ble_eq_true rfl)⟩) (b_pL hK hP hD (ci := 10) rfl rfl) rfl rfl hl.1 rfl (lv_room (Nat.le_of_ble_eq_true rfl)) dL_law_288 ⟨hC, hSl⟩).run hP hD hS wX_fst (fun H locs hP hD hS => ?_)
  refine lv_aload_n hx hb dL_law_291 rfl (lv_at hl 2 rfl) ?_
  refine lv_aload_n hx hb dL_law_292 rfl (lv_at hl 0 rfl) ?_
  refine lv_iload_n hx hb dL_law_293 rfl (lv_at hl 3 rfl) ?_
  refine lv_iconst (v := nI 1) hx hb dL_law_294 (by decide) ?_
  refine b_add hx hb dL_law_295 ?_
  refine b_sld hx hb hX hbl hbA hS (show i + 1 < L by omega) hL dL_law_296 ?_
  refine lv_aload_n hx hb dL_law_297 rfl (lv_at hl 0 rfl) ?_
  refine lv_iload_n hx hb dL_law_298 rfl (lv_at hl 3 rfl) ?_
  refine lv_iconst (v := nI 2) hx hb dL_law_299 (by decide) ?_
  refine b_add hx hb dL_law_300 ?_
  refine b_sld hx hb hX hbl hbA hS (show i + 2 < L by omega) hL dL_law_301 ?_
  refine lv_aload_n hx hb dL_law_302 rfl (lv_at hl 0 rfl) ?_
  refine lv_iload_n hx hb dL_law_303 rfl (lv_at hl 3 rfl) ?_
  refine lv_iconst (v := nI 3) hx hb dL_law_304 (by decide) ?_
  refine b_add hx hb dL_law_305 ?_
  refine b_sld hx hb hX hbl hbA hS (show i + 3 < L by omega) hL dL_law_306 ?_
  refine lv_aload_n hx hb dL_law_307 rfl (lv_at hl 0 rfl) ?_
  refine lv_iload_n hx hb dL_law_308 rfl (lv_at hl 3 rfl) ?_
  refine lv_iconst (v := nI 4) hx hb dL_law_309 (by decide) ?_
  refine b_add hx hb dL_law_310 ?_
  refine b_sld hx hb hX hbl hbA hS (show i + 4 < L by omega) hL dL_law_311 ?_
  refine lv_aload_n hx hb dL_law_312 rfl (lv_at hl 0 rfl) ?_
  refine lv_iload_n hx hb dL_law_313 rfl (lv_at hl 3 rfl) ?_
  refine lv_iconst (v := nI 5) hx hb dL_law_314 (by decide) ?_
  refine b_add hx hb dL_law_315 ?_
  refine b_sld hx hb hX hbl hbA hS (show i + 5 < L by omega) hL dL_law_316 ?_
  have hjM := (j_copy l D cI cZ cT A0 fi (nI t) tf mfp map msp mtk mvl (nI u) (nI z) mla mma mit msr mbt mnw mdr mpa mim mkp mtc (xs (i + 1)) (xs (i + 2)) (xs (i + 3)) (xs (i + 4)) (xs (i + 5))   (fun r hr => (hRw r hr).2.1))
  generalize eM9 : m_copy fi mla mma mit msr (xs (i + 1)) (xs (i + 2)) (xs (i + 3)) (xs (i + 4)) (xs (i + 5)) = M9 at hjM he
  refine b_callRt (va_runV (As := [.int (xs (i + 1)), .int (xs (i + 2)), .int (xs (i + 3)), .int (xs (i + 4)), .int (xs (i + 5))]) (rest := [.int (Z9.1)]) ⟨hx, hb, hml, hown, hts⟩ hjM (cwV 5 hts gL_law_X12_copy rfl rfl rfl (by decide +kernel) ⟨(Nat.le_of_ble_eq_true rfl), (Nat.le_of_ble_eq_true rfl)⟩) (b_pRt hK hP hD (ci := 11) rfl rfl) rfl rfl hl.1 rfl (lv_room (Nat.le_of_ble_eq_true rfl)) dL_law_317 ⟨hC, hSl⟩).run hP hD hS rfl (fun H locs hP hD hS => ?_)
  refine lv_icmp_eq (tgt := 1152) hx hb dL_law_320 (by decide) (fun c9 => ?_) (fun c9 => absurd (show (Z9.1) = (M9.1) from he.1) c9)
  exact K ls H locs ⟨(nI u), (nI w), (Z9.2.1), (Z9.2.2), la, sz, (nI t), tf, tat, tw, bt, st, dy, ln, (nI n), kd, dd, nt, lf, yd, co, wy, (nI z), zn, gi, gs, (M9.2.1), (nI t), tf, mfp, map, msp, mtk, mvl, (nI u), (nI z), mla, mma, (M9.2.2.1), (M9.2.2.2), mbt, mnw, mdr, mpa, mim, mkp, mtc, ⟨he.2.2, hTp, hTl, hAc, hIm, hTr, he.2.1, rfl⟩, hP, hD, hS⟩ hl
set_option maxHeartbeats 600000 in
set_option maxRecDepth 100000 in
theorem lc_drop {p : Program} {l : Launch} {e : Env} {R : Room} {s : State} {m : MethodId} {args : Array Value} {below : List Frame} {meth : Method} {c : Code} {H : Heap} {locs : List Loc} {cells slots : Nat} {Q : State → Prop} {ls : Array Slot} {D : va_G} {cI cZ cT : ClassId} {A : Nat → Prop} {nx : Nat} {ra : Nat → Nat} {pa : Nat → Nat} {ta : Nat → Nat} {da : Nat → Nat} {ia : Nat} {xa : Nat} {fa : Nat → Nat} {za : Nat → Nat} {gb : Nat → Nat → Nat} {ga : Nat → Nat → Nat} {A0 : Nat → Nat} {b L i : Nat} {xs : Nat → Int32} (hx : p.tables.exec = Jvm.exec) (hb : c.code = cL_law) (hml : c.maxLocals = 4) (hown : s.vm.findClass RL = some m.cls) (hts : ∀ w ∈ wsL_law, w.before args s = true) (hX : va_X b L xs s s.heap) (hbl : b < s.heap.size) (hbA : ¬ A b) (hK : KX D cI cZ cT s) (hL : L ≤ 3072) (hi : i + 5 < L) (hRm : R = room_1) (hC : cells + 0 ≤ R.cells) (hSl : slots + 0 ≤ R.slots) (hl : lv_has ls 4 [(0, .ref b), (1, .ref nx), (2, .ref (A0 0)), (3, .int (nI i))]) (hI : LInv D cI cZ cT A s nx ra pa ta da ia xa fa za gb ga A0 H locs) (K : ∀ (ls : Array Slot) (H : Heap) (locs : List Loc), LInv D cI cZ cT A s nx ra pa ta da ia xa fa za gb ga A0 H locs → lv_has ls 4 [(0, .ref b), (1, .ref nx), (2, .ref (A0 0)), (3, .int (nI i))] → W p l e R s m args below meth c H locs cells slots Q (F0 m 1152 ls [])) : W p l e R s m args below meth c H locs cells slots Q (F0 m 325 ls []) := by
  subst hRm
  obtain ⟨un, na, fi, it, la, sz, tl, tf, tat, tw, bt, st, dy, ln, rd, kd, dd, nt, lf, yd, co, wy, zl, zn, gi, gs, mss, mtp, mfk, mfp, map, msp, mtk, mvl, mac, mtr, mla, mma, mit, msr, mbt, mnw, mdr, mpa, mim, mkp, mtc, ⟨hRw, hTp, hTl, hAc, hIm, hTr, hfi, htf⟩, hP, hD, hS⟩ := hI
  subst hfi
  subst htf
  obtain ⟨n, hrd, hTR⟩ := id hTl
  obtain ⟨u, w, hun, hna, hac, hAx⟩ := id hAc
  obtain ⟨t, ht, htl, htp, hBB⟩ := id hTp
  obtain ⟨z, hz, hzl, htr, hzz⟩ := id hTr
  have hrd : rd = nI n := hrd
  subst hrd
  subst hun
  subst hna
  subst hac
  subst htl
  subst htp
  subst hzl
  subst htr
  refine lv_aload_n hx hb dL_law_325 rfl (lv_at hl 1 rfl) ?_
  refine lv_aload_n hx hb dL_law_326 rfl (lv_at hl 0 rfl) ?_
  refine lv_iload_n hx hb dL_law_327 rfl (lv_at hl 3 rfl) ?_
  refine lv_iconst (v := nI 1) hx hb dL_law_328 (by decide) ?_
  refine b_add hx hb dL_law_329 ?_
  refine b_sld hx hb hX hbl hbA hS (show i + 1 < L by omega) hL dL_law_330 ?_
  have he := e_drop (fi := fi)  hRw (xs (i + 1))
  have hkX := (k_drop l D cI cZ cT nx ra pa ta da ia xa fa za gb ga (nI u) (nI w) fi it la sz (nI t) tf tat tw bt st dy ln (nI n) kd dd nt lf yd co wy (nI z) zn gi gs (xs (i + 1))   )
  generalize eZ9 : x_drop fi la sz (xs (i + 1)) = Z9 at hkX he
  refine b_callL (va_runV (As := [.int (xs (i + 1))]) (rest := []) ⟨hx, hb, hml, hown, hts⟩ hkX (cwV 1 hts gL_law_X11_drop rfl rfl rfl (by decide +kernel) ⟨(Nat.le_of_ble_eq_true rfl), (Nat.le_of_ble_eq_true rfl)⟩) (b_pL hK hP hD (ci := 10) rfl rfl) rfl rfl hl.1 rfl (lv_room (Nat.le_of_ble_eq_true rfl)) dL_law_331 ⟨hC, hSl⟩).run hP hD hS wX_fst (fun H locs hP hD hS => ?_)
  refine lv_aload_n hx hb dL_law_334 rfl (lv_at hl 2 rfl) ?_
  refine lv_aload_n hx hb dL_law_335 rfl (lv_at hl 0 rfl) ?_
  refine lv_iload_n hx hb dL_law_336 rfl (lv_at hl 3 rfl) ?_
  refine lv_iconst (v := nI 1) hx hb dL_law_337 (by decide) ?_
  refine b_add hx hb dL_law_338 ?_
  refine b_sld hx hb hX hbl hbA hS (show i + 1 < L by omega) hL dL_law_339 ?_
  have hjM := (j_drop l D cI cZ cT A0 fi (nI t) tf mfp map msp mtk mvl (nI u) (nI z) mla mma mit msr mbt mnw mdr mpa mim mkp mtc (xs (i + 1))   )
  generalize eM9 : m_drop fi mla mma (xs (i + 1)) = M9 at hjM he
  refine b_callRt (va_runV (As := [.int (xs (i + 1))]) (rest := [.int (Z9.1)]) ⟨hx, hb, hml, hown, hts⟩ hjM (cwV 1 hts gL_law_X12_drop rfl rfl rfl (by decide +kernel) ⟨(Nat.le_of_ble_eq_true rfl), (Nat.le_of_ble_eq_true rfl)⟩) (b_pRt hK hP hD (ci := 11) rfl rfl) rfl rfl hl.1 rfl (lv_room (Nat.le_of_ble_eq_true rfl)) dL_law_340 ⟨hC, hSl⟩).run hP hD hS rfl (fun H locs hP hD hS => ?_)
  refine lv_icmp_eq (tgt := 1152) hx hb dL_law_343 (by decide) (fun c9 => ?_) (fun c9 => absurd (show (Z9.1) = (M9.1) from he.1) c9)
  exact K ls H locs ⟨(nI u), (nI w), (Z9.2.1), it, (Z9.2.2.1), (Z9.2.2.2), (nI t), tf, tat, tw, bt, st, dy, ln, (nI n), kd, dd, nt, lf, yd, co, wy, (nI z), zn, gi, gs, (M9.2.1), (nI t), tf, mfp, map, msp, mtk, mvl, (nI u), (nI z), (M9.2.2), mma, mit, msr, mbt, mnw, mdr, mpa, mim, mkp, mtc, ⟨he.2.2, hTp, hTl, hAc, hIm, hTr, he.2.1, rfl⟩, hP, hD, hS⟩ hl
set_option maxHeartbeats 600000 in
set_option maxRecDepth 100000 in
theorem lc_feed {p : Program} {l : Launch} {e : Env} {R : Room} {s : State} {m : MethodId} {args : Array Value} {below : List Frame} {meth : Method} {c : Code} {H : Heap} {locs : List Loc} {cells slots : Nat} {Q : State → Prop} {ls : Array Slot} {D : va_G} {cI cZ cT : ClassId} {A : Nat → Prop} {nx : Nat} {ra : Nat → Nat} {pa : Nat → Nat} {ta : Nat → Nat} {da : Nat → Nat} {ia : Nat} {xa : Nat} {fa : Nat → Nat} {za : Nat → Nat} {gb : Nat → Nat → Nat} {ga : Nat → Nat → Nat} {A0 : Nat → Nat} {b L i : Nat} {xs : Nat → Int32} (hx : p.tables.exec = Jvm.exec) (hb : c.code = cL_law) (hml : c.maxLocals = 4) (hown : s.vm.findClass RL = some m.cls) (hts : ∀ w ∈ wsL_law, w.before args s = true) (hX : va_X b L xs s s.heap) (hbl : b < s.heap.size) (hbA : ¬ A b) (hK : KX D cI cZ cT s) (hL : L ≤ 3072) (hi : i + 5 < L) (hRm : R = room_1) (hC : cells + 0 ≤ R.cells) (hSl : slots + 0 ≤ R.slots) (hl : lv_has ls 4 [(0, .ref b), (1, .ref nx), (2, .ref (A0 0)), (3, .int (nI i))]) (hI : LInv D cI cZ cT A s nx ra pa ta da ia xa fa za gb ga A0 H locs) (K : ∀ (ls : Array Slot) (H : Heap) (locs : List Loc), LInv D cI cZ cT A s nx ra pa ta da ia xa fa za gb ga A0 H locs → lv_has ls 4 [(0, .ref b), (1, .ref nx), (2, .ref (A0 0)), (3, .int (nI i))] → W p l e R s m args below meth c H locs cells slots Q (F0 m 1152 ls [])) : W p l e R s m args below meth c H locs cells slots Q (F0 m 348 ls []) := by
  subst hRm
  obtain ⟨un, na, fi, it, la, sz, tl, tf, tat, tw, bt, st, dy, ln, rd, kd, dd, nt, lf, yd, co, wy, zl, zn, gi, gs, mss, mtp, mfk, mfp, map, msp, mtk, mvl, mac, mtr, mla, mma, mit, msr, mbt, mnw, mdr, mpa, mim, mkp, mtc, ⟨hRw, hTp, hTl, hAc, hIm, hTr, hfi, htf⟩, hP, hD, hS⟩ := hI
  subst hfi
  subst htf
  obtain ⟨n, hrd, hTR⟩ := id hTl
  obtain ⟨u, w, hun, hna, hac, hAx⟩ := id hAc
  obtain ⟨t, ht, htl, htp, hBB⟩ := id hTp
  obtain ⟨z, hz, hzl, htr, hzz⟩ := id hTr
  have hrd : rd = nI n := hrd
  subst hrd
  subst hun
  subst hna
  subst hac
  subst htl
  subst htp
  subst hzl
  subst htr
  refine lv_aload_n hx hb dL_law_348 rfl (lv_at hl 1 rfl) ?_
  refine lv_aload_n hx hb dL_law_349 rfl (lv_at hl 0 rfl) ?_
  refine lv_iload_n hx hb dL_law_350 rfl (lv_at hl 3 rfl) ?_
  refine lv_iconst (v := nI 1) hx hb dL_law_351 (by decide) ?_
  refine b_add hx hb dL_law_352 ?_
  refine b_sld hx hb hX hbl hbA hS (show i + 1 < L by omega) hL dL_law_353 ?_
  have he := e_feed ht hBB (xs (i + 1))
  have hkX := (k_feed l D cI cZ cT nx ra pa ta da ia xa fa za gb ga (nI u) (nI w) fi it la sz (nI t) tf tat tw bt st dy ln (nI n) kd dd nt lf yd co wy (nI z) zn gi gs (xs (i + 1)) t rfl ht)
  generalize eZ9 : x_feed t bt (xs (i + 1)) = Z9 at hkX he
  refine b_callL (va_runV (As := [.int (xs (i + 1))]) (rest := []) ⟨hx, hb, hml, hown, hts⟩ hkX (cwV 1 hts gL_law_X11_feed rfl rfl rfl (by decide +kernel) ⟨(Nat.le_of_ble_eq_true rfl), (Nat.le_of_ble_eq_true rfl)⟩) (b_pL hK hP hD (ci := 10) rfl rfl) rfl rfl hl.1 rfl (lv_room (Nat.le_of_ble_eq_true rfl)) dL_law_354 ⟨hC, hSl⟩).run hP hD hS wX_fst (fun H locs hP hD hS => ?_)
  refine lv_aload_n hx hb dL_law_357 rfl (lv_at hl 2 rfl) ?_
  refine lv_aload_n hx hb dL_law_358 rfl (lv_at hl 0 rfl) ?_
  refine lv_iload_n hx hb dL_law_359 rfl (lv_at hl 3 rfl) ?_
  refine lv_iconst (v := nI 1) hx hb dL_law_360 (by decide) ?_
  refine b_add hx hb dL_law_361 ?_
  refine b_sld hx hb hX hbl hbA hS (show i + 1 < L by omega) hL dL_law_362 ?_
  have hjM := (j_feed l D cI cZ cT A0 fi (nI t) tf mfp map msp mtk mvl (nI u) (nI z) mla mma mit msr mbt mnw mdr mpa mim mkp mtc (xs (i + 1)) t rfl ht)
  generalize eM9 : m_feed t mbt (xs (i + 1)) = M9 at hjM he
  refine b_callRt (va_runV (As := [.int (xs (i + 1))]) (rest := [.int (Z9.1)]) ⟨hx, hb, hml, hown, hts⟩ hjM (cwV 1 hts gL_law_X12_feed rfl rfl rfl (by decide +kernel) ⟨(Nat.le_of_ble_eq_true rfl), (Nat.le_of_ble_eq_true rfl)⟩) (b_pRt hK hP hD (ci := 11) rfl rfl) rfl rfl hl.1 rfl (lv_room (Nat.le_of_ble_eq_true rfl)) dL_law_363 ⟨hC, hSl⟩).run hP hD hS rfl (fun H locs hP hD hS => ?_)
  refine lv_icmp_eq (tgt := 1152) hx hb dL_law_366 (by decide) (fun c9 => ?_) (fun c9 => absurd (show (Z9.1) = (M9.1) from he.1) c9)
  exact K ls H locs ⟨(nI u), (nI w), fi, it, la, sz, (nI Z9.2.1), tf, tat, tw, (Z9.2.2), st, dy, ln, (nI n), kd, dd, nt, lf, yd, co, wy, (nI z), zn, gi, gs, fi, (nI M9.2.1), tf, mfp, map, msp, mtk, mvl, (nI u), (nI z), mla, mma, mit, msr, (M9.2.2), mnw, mdr, mpa, mim, mkp, mtc, ⟨hRw, he.2, hTl, hAc, hIm, hTr, rfl, rfl⟩, hP, hD, hS⟩ hl
set_option maxHeartbeats 600000 in
set_option maxRecDepth 100000 in
theorem lc_town {p : Program} {l : Launch} {e : Env} {R : Room} {s : State} {m : MethodId} {args : Array Value} {below : List Frame} {meth : Method} {c : Code} {H : Heap} {locs : List Loc} {cells slots : Nat} {Q : State → Prop} {ls : Array Slot} {D : va_G} {cI cZ cT : ClassId} {A : Nat → Prop} {nx : Nat} {ra : Nat → Nat} {pa : Nat → Nat} {ta : Nat → Nat} {da : Nat → Nat} {ia : Nat} {xa : Nat} {fa : Nat → Nat} {za : Nat → Nat} {gb : Nat → Nat → Nat} {ga : Nat → Nat → Nat} {A0 : Nat → Nat} {b L i : Nat} {xs : Nat → Int32} (hx : p.tables.exec = Jvm.exec) (hb : c.code = cL_law) (hml : c.maxLocals = 4) (hown : s.vm.findClass RL = some m.cls) (hts : ∀ w ∈ wsL_law, w.before args s = true) (hX : va_X b L xs s s.heap) (hbl : b < s.heap.size) (hbA : ¬ A b) (hK : KX D cI cZ cT s) (hL : L ≤ 3072) (hi : i + 5 < L) (hRm : R = room_1) (hC : cells + 0 ≤ R.cells) (hSl : slots + 0 ≤ R.slots) (hl : lv_has ls 4 [(0, .ref b), (1, .ref nx), (2, .ref (A0 0)), (3, .int (nI i))]) (hI : LInv D cI cZ cT A s nx ra pa ta da ia xa fa za gb ga A0 H locs) (K : ∀ (ls : Array Slot) (H : Heap) (locs : List Loc), LInv D cI cZ cT A s nx ra pa ta da ia xa fa za gb ga A0 H locs → lv_has ls 4 [(0, .ref b), (1, .ref nx), (2, .ref (A0 0)), (3, .int (nI i))] → W p l e R s m args below meth c H locs cells slots Q (F0 m 1152 ls [])) : W p l e R s m args below meth c H locs cells slots Q (F0 m 371 ls []) := by
  subst hRm
  obtain ⟨un, na, fi, it, la, sz, tl, tf, tat, tw, bt, st, dy, ln, rd, kd, dd, nt, lf, yd, co, wy, zl, zn, gi, gs, mss, mtp, mfk, mfp, map, msp, mtk, mvl, mac, mtr, mla, mma, mit, msr, mbt, mnw, mdr, mpa, mim, mkp, mtc, ⟨hRw, hTp, hTl, hAc, hIm, hTr, hfi, htf⟩, hP, hD, hS⟩ := hI
  subst hfi
  subst htf
  obtain ⟨n, hrd, hTR⟩ := id hTl
  obtain ⟨u, w, hun, hna, hac, hAx⟩ := id hAc
  obtain ⟨t, ht, htl, htp, hBB⟩ := id hTp
  obtain ⟨z, hz, hzl, htr, hzz⟩ := id hTr
  have hrd : rd = nI n := hrd
  subst hrd
  subst hun
  subst hna
  subst hac
  subst htl
  subst htp
  subst hzl
  subst htr
  refine lv_aload_n hx hb dL_law_371 rfl (lv_at hl 1 rfl) ?_
  have he := e_town (fk := tf) (dr := mdr) (dkd := yd.2.2.2.2.1) (ddd := yd.2.2.2.2.2.1) (dnt := yd.2.2.2.2.2.2.1) (dlf := yd.2.2.2.2.2.2.2) hBB ht hTl hAx
  have hkX := (k_town l D cI cZ cT nx ra pa ta da ia xa fa za gb ga (nI u) (nI w) fi it la sz (nI t) tf tat tw bt st dy ln (nI n) kd dd nt lf yd co wy (nI z) zn gi gs  t rfl ht)
  generalize eZ9 : x_town (nI u) t bt tf (st, dy, ln, (nI n), kd, dd, nt, lf) yd.2.2.2.2.1 yd.2.2.2.2.2.1 yd.2.2.2.2.2.2.1 yd.2.2.2.2.2.2.2 = Z9 at hkX he
  refine b_callL (va_runV (As := []) (rest := []) ⟨hx, hb, hml, hown, hts⟩ hkX (cwV 0 hts gL_law_X11_town rfl rfl rfl (by decide +kernel) ⟨(Nat.le_of_ble_eq_true rfl), (Nat.le_of_ble_eq_true rfl)⟩) (b_pL hK hP hD (ci := 10) rfl rfl) rfl rfl hl.1 rfl (lv_room (Nat.le_of_ble_eq_true rfl)) dL_law_372 ⟨hC, hSl⟩).run hP hD hS wX_fst (fun H locs hP hD hS => ?_)
  refine lv_aload_n hx hb dL_law_375 rfl (lv_at hl 2 rfl) ?_
  have hjM := (j_town l D cI cZ cT A0 fi (nI t) tf mfp map msp mtk mvl (nI u) (nI z) mla mma mit msr mbt mnw mdr mpa mim mkp mtc  t rfl ht)
  generalize eM9 : m_town mbt t tf (nI u) mdr mnw = M9 at hjM he
  refine b_callRt (va_runV (As := []) (rest := [.int (Z9.1)]) ⟨hx, hb, hml, hown, hts⟩ hjM (cwV 0 hts gL_law_X12_town rfl rfl rfl (by decide +kernel) ⟨(Nat.le_of_ble_eq_true rfl), (Nat.le_of_ble_eq_true rfl)⟩) (b_pRt hK hP hD (ci := 11) rfl rfl) rfl rfl hl.1 rfl (lv_room (Nat.le_of_ble_eq_true rfl)) dL_law_376 ⟨hC, hSl⟩).run hP hD hS rfl (fun H locs hP hD hS => ?_)
  refine lv_icmp_eq (tgt := 1152) hx hb dL_law_379 (by decide) (fun c9 => ?_) (fun c9 => absurd (show (Z9.1) = (M9.1) from he.1) c9)
  exact K ls H locs ⟨(Z9.2.1), (nI w), fi, it, la, sz, (nI 0), (Z9.2.2.2.2.1), (nI Z9.2.2.2.2.2.2.2.1.1), (Z9.2.2.2.2.2.2.2.1.2), bt, (Z9.2.2.1.1), (Z9.2.2.1.2.1), (Z9.2.2.1.2.2.1), (Z9.2.2.1.2.2.2.1), (Z9.2.2.1.2.2.2.2.1), (Z9.2.2.1.2.2.2.2.2.1), (Z9.2.2.1.2.2.2.2.2.2.1), (Z9.2.2.1.2.2.2.2.2.2.2), ((Z9.2.2.2.2.2.1), 0, (Z9.2.2.2.2.2.2.1), (nI Z9.2.2.2.2.2.2.2.2.1), (Z9.2.2.2.2.2.2.2.2.2.1), (Z9.2.2.2.2.2.2.2.2.2.2.1), (Z9.2.2.2.2.2.2.2.2.2.2.2.1), (Z9.2.2.2.2.2.2.2.2.2.2.2.2)), co, wy, (nI z), zn, gi, gs, fi, (nI 0), (M9.2.1.2.2.2.2.1), (M9.2.1.2.2.2.2.2), (nI M9.2.1.2.1), (nI M9.2.1.1), (M9.2.1.2.2.1), (M9.2.1.2.2.2.1), (M9.2.2.2.2), (nI z), mla, mma, mit, msr, mbt, (M9.2.2.2.1), (M9.2.2.1), mpa, mim, mkp, mtc, ⟨hRw, ⟨0, Nat.zero_le _, rfl, rfl, fun k hk => absurd hk (Nat.not_lt_zero k)⟩, he.2.2.1, he.2.2.2, hIm, hTr, rfl, he.2.1⟩, hP, hD, hS⟩ hl
set_option maxHeartbeats 600000 in
set_option maxRecDepth 100000 in
theorem lc_fault {p : Program} {l : Launch} {e : Env} {R : Room} {s : State} {m : MethodId} {args : Array Value} {below : List Frame} {meth : Method} {c : Code} {H : Heap} {locs : List Loc} {cells slots : Nat} {Q : State → Prop} {ls : Array Slot} {D : va_G} {cI cZ cT : ClassId} {A : Nat → Prop} {nx : Nat} {ra : Nat → Nat} {pa : Nat → Nat} {ta : Nat → Nat} {da : Nat → Nat} {ia : Nat} {xa : Nat} {fa : Nat → Nat} {za : Nat → Nat} {gb : Nat → Nat → Nat} {ga : Nat → Nat → Nat} {A0 : Nat → Nat} {b L i : Nat} {xs : Nat → Int32} (hx : p.tables.exec = Jvm.exec) (hb : c.code = cL_law) (hml : c.maxLocals = 4) (hown : s.vm.findClass RL = some m.cls) (hts : ∀ w ∈ wsL_law, w.before args s = true) (hX : va_X b L xs s s.heap) (hbl : b < s.heap.size) (hbA : ¬ A b) (hK : KX D cI cZ cT s) (hL : L ≤ 3072) (hi : i + 5 < L) (hRm : R = room_1) (hC : cells + 0 ≤ R.cells) (hSl : slots + 0 ≤ R.slots) (hl : lv_has ls 4 [(0, .ref b), (1, .ref nx), (2, .ref (A0 0)), (3, .int (nI i))]) (hI : LInv D cI cZ cT A s nx ra pa ta da ia xa fa za gb ga A0 H locs) (K : ∀ (ls : Array Slot) (H : Heap) (locs : List Loc), LInv D cI cZ cT A s nx ra pa ta da ia xa fa za gb ga A0 H locs → lv_has ls 4 [(0, .ref b), (1, .ref nx), (2, .ref (A0 0)), (3, .int (nI i))] → W p l e R s m args below meth c H locs cells slots Q (F0 m 1152 ls [])) : W p l e R s m args below meth c H locs cells slots Q (F0 m 384 ls []) := by
  subst hRm
  obtain ⟨un, na, fi, it, la, sz, tl, tf, tat, tw, bt, st, dy, ln, rd, kd, dd, nt, lf, yd, co, wy, zl, zn, gi, gs, mss, mtp, mfk, mfp, map, msp, mtk, mvl, mac, mtr, mla, mma, mit, msr, mbt, mnw, mdr, mpa, mim, mkp, mtc, ⟨hRw, hTp, hTl, hAc, hIm, hTr, hfi, htf⟩, hP, hD, hS⟩ := hI
  subst hfi
  subst htf
  obtain ⟨n, hrd, hTR⟩ := id hTl
  obtain ⟨u, w, hun, hna, hac, hAx⟩ := id hAc
  obtain ⟨t, ht, htl, htp, hBB⟩ := id hTp
  obtain ⟨z, hz, hzl, htr, hzz⟩ := id hTr
  have hrd : rd = nI n := hrd
  subst hrd
  subst hun
  subst hna
  subst hac
  subst htl
  subst htp
  subst hzl
  subst htr
  refine lv_aload_n hx hb dL_law_384 rfl (lv_at hl 1 rfl) ?_
  have he := True.intro
  refine b_callL (va_runV (As := []) (rest := []) ⟨hx, hb, hml, hown, hts⟩ (k_fault l D cI cZ cT nx ra pa ta da ia xa fa za gb ga (nI u) (nI w) fi it la sz (nI t) tf tat tw bt st dy ln (nI n) kd dd nt lf yd co wy (nI z) zn gi gs  t rfl ) (cwV 0 hts gL_law_X11_fault rfl rfl rfl (by decide +kernel) ⟨(Nat.le_of_ble_eq_true rfl), (Nat.le_of_ble_eq_true rfl)⟩) (b_pL hK hP hD (ci := 10) rfl rfl) rfl rfl hl.1 rfl (lv_room (Nat.le_of_ble_eq_true rfl)) dL_law_385 ⟨hC, hSl⟩).run hP hD hS wX_fst (fun H locs hP hD hS => ?_)
  refine lv_aload_n hx hb dL_law_388 rfl (lv_at hl 2 rfl) ?_
  refine b_callRt (va_runV (As := []) (rest := [.int tf]) ⟨hx, hb, hml, hown, hts⟩ (j_fault l D cI cZ cT A0 fi (nI t) tf mfp map msp mtk mvl (nI u) (nI z) mla mma mit msr mbt mnw mdr mpa mim mkp mtc    ) (cwV 0 hts gL_law_X12_fault rfl rfl rfl (by decide +kernel) ⟨(Nat.le_of_ble_eq_true rfl), (Nat.le_of_ble_eq_true rfl)⟩) (b_pRt hK hP hD (ci := 11) rfl rfl) rfl rfl hl.1 rfl (lv_room (Nat.le_of_ble_eq_true rfl)) dL_law_389 ⟨hC, hSl⟩).run hP hD hS rfl (fun H locs hP hD hS => ?_)
  refine lv_icmp_eq (tgt := 1152) hx hb dL_law_392 (by decide) (fun c9 => ?_) (fun c9 => absurd (show tf = tf from rfl) c9)
  exact K ls H locs ⟨(nI u), (nI w), fi, it, la, sz, (nI t), tf, tat, tw, bt, st, dy, ln, (nI n), kd, dd, nt, lf, yd, co, wy, (nI z), zn, gi, gs, fi, (nI t), tf, mfp, map, msp, mtk, mvl, (nI u), (nI z), mla, mma, mit, msr, mbt, mnw, mdr, mpa, mim, mkp, mtc, ⟨hRw, hTp, hTl, hAc, hIm, hTr, rfl, rfl⟩, hP, hD, hS⟩ hl
set_option maxHeartbeats 600000 in
set_option maxRecDepth 100000 in
theorem lc_days {p : Program} {l : Launch} {e : Env} {R : Room} {s : State} {m : MethodId} {args : Array Value} {below : List Frame} {meth : Method} {c : Code} {H : Heap} {locs : List Loc} {cells slots : Nat} {Q : State → Prop} {ls : Array Slot} {D : va_G} {cI cZ cT : ClassId} {A : Nat → Prop} {nx : Nat} {ra : Nat → Nat} {pa : Nat → Nat} {ta : Nat → Nat} {da : Nat → Nat} {ia : Nat} {xa : Nat} {fa : Nat → Nat} {za : Nat → Nat} {gb : Nat → Nat → Nat} {ga : Nat → Nat → Nat} {A0 : Nat → Nat} {b L i : Nat} {xs : Nat → Int32} (hx : p.tables.exec = Jvm.exec) (hb : c.code = cL_law) (hml : c.maxLocals = 4) (hown : s.vm.findClass RL = some m.cls) (hts : ∀ w ∈ wsL_law, w.before args s = true) (hX : va_X b L xs s s.heap) (hbl : b < s.heap.size) (hbA : ¬ A b) (hK : KX D cI cZ cT s) (hL : L ≤ 3072) (hi : i + 5 < L) (hRm : R = room_1) (hC : cells + 0 ≤ R.cells) (hSl : slots + 0 ≤ R.slots) (hl : lv_has ls 4 [(0, .ref b), (1, .ref nx), (2, .ref (A0 0)), (3, .int (nI i))]) (hI : LInv D cI cZ cT A s nx ra pa ta da ia xa fa za gb ga A0 H locs) (K : ∀ (ls : Array Slot) (H : Heap) (locs : List Loc), LInv D cI cZ cT A s nx ra pa ta da ia xa fa za gb ga A0 H locs → lv_has ls 4 [(0, .ref b), (1, .ref nx), (2, .ref (A0 0)), (3, .int (nI i))] → W p l e R s m args below meth c H locs cells slots Q (F0 m 1152 ls [])) : W p l e R s m args below meth c H locs cells slots Q (F0 m 397 ls []) := by
  subst hRm
  obtain ⟨un, na, fi, it, la, sz, tl, tf, tat, tw, bt, st, dy, ln, rd, kd, dd, nt, lf, yd, co, wy, zl, zn, gi, gs, mss, mtp, mfk, mfp, map, msp, mtk, mvl, mac, mtr, mla, mma, mit, msr, mbt, mnw, mdr, mpa, mim, mkp, mtc, ⟨hRw, hTp, hTl, hAc, hIm, hTr, hfi, htf⟩, hP, hD, hS⟩ := hI
  subst hfi
  subst htf
  obtain ⟨n, hrd, hTR⟩ := id hTl
  obtain ⟨u, w, hun, hna, hac, hAx⟩ := id hAc
  obtain ⟨t, ht, htl, htp, hBB⟩ := id hTp
  obtain ⟨z, hz, hzl, htr, hzz⟩ := id hTr
  have hrd : rd = nI n := hrd
  subst hrd
  subst hun
  subst hna
  subst hac
  subst htl
  subst htp
  subst hzl
  subst htr
  refine lv_aload_n hx hb dL_law_397 rfl (lv_at hl 1 rfl) ?_
  refine lv_aload_n hx hb dL_law_398 rfl (lv_at hl 0 rfl) ?_
  refine lv_iload_n hx hb dL_law_399 rfl (lv_at hl 3 rfl) ?_
  refine lv_iconst (v := nI 1) hx hb dL_law_400 (by decide) ?_
  refine b_add hx hb dL_law_401 ?_
  refine b_sld hx hb hX hbl hbA hS (show i + 1 < L by omega) hL dL_law_402 ?_
  have he := e_days hTR hAx (xs (i + 1))
  have hkX := (k_days l D cI cZ cT nx ra pa ta da ia xa fa za gb ga (nI u) (nI w) fi it la sz (nI t) tf tat tw bt st dy ln (nI n) kd dd nt lf yd co wy (nI z) zn gi gs (xs (i + 1)) u w n rfl rfl rfl hTR.n6 (fun j hj => (hTR.ar j hj).1) hAx.1 hAx.2.1 hTR.1)
  generalize eZ9 : x_days st dy ln n kd dd nt lf u w gs (xs (i + 1)) = Z9 at hkX he
  refine b_callL (va_runV (As := [.int (xs (i + 1))]) (rest := []) ⟨hx, hb, hml, hown, hts⟩ hkX (cwV 1 hts gL_law_X11_days rfl rfl rfl (by decide +kernel) ⟨(Nat.le_of_ble_eq_true rfl), (Nat.le_of_ble_eq_true rfl)⟩) (b_pL hK hP hD (ci := 10) rfl rfl) rfl rfl hl.1 rfl (lv_room (Nat.le_of_ble_eq_true rfl)) dL_law_403 ⟨hC, hSl⟩).run hP hD hS wX_fst (fun H locs hP hD hS => ?_)
  refine lv_aload_n hx hb dL_law_406 rfl (lv_at hl 2 rfl) ?_
  refine lv_aload_n hx hb dL_law_407 rfl (lv_at hl 0 rfl) ?_
  refine lv_iload_n hx hb dL_law_408 rfl (lv_at hl 3 rfl) ?_
  refine lv_iconst (v := nI 1) hx hb dL_law_409 (by decide) ?_
  refine b_add hx hb dL_law_410 ?_
  refine b_sld hx hb hX hbl hbA hS (show i + 1 < L by omega) hL dL_law_411 ?_
  have hjM := (j_days l D cI cZ cT A0 fi (nI t) tf mfp map msp mtk mvl (nI u) (nI z) mla mma mit msr mbt mnw mdr mpa mim mkp mtc (xs (i + 1)) u n rfl hTR.2.2.2.2.2.1 hAx.1)
  generalize eM9 : m_days mnw mpa u n (xs (i + 1)) = M9 at hjM he
  refine b_callRt (va_runV (As := [.int (xs (i + 1))]) (rest := [.int (Z9.1)]) ⟨hx, hb, hml, hown, hts⟩ hjM (cwV 1 hts gL_law_X12_days rfl rfl rfl (by decide +kernel) ⟨(Nat.le_of_ble_eq_true rfl), (Nat.le_of_ble_eq_true rfl)⟩) (b_pRt hK hP hD (ci := 11) rfl rfl) rfl rfl hl.1 rfl (lv_room (Nat.le_of_ble_eq_true rfl)) dL_law_412 ⟨hC, hSl⟩).run hP hD hS rfl (fun H locs hP hD hS => ?_)
  refine lv_icmp_eq (tgt := 1152) hx hb dL_law_415 (by decide) (fun c9 => ?_) (fun c9 => absurd (show (Z9.1) = (M9.1) from he.1) c9)
  exact K ls H locs ⟨(nI Z9.2.1), (nI Z9.2.2.1), fi, it, la, sz, (nI t), tf, tat, tw, bt, st, (Z9.2.2.2.2.1), ln, (nI n), kd, (Z9.2.2.2.2.2.1), nt, (Z9.2.2.2.2.2.2), yd, co, wy, (nI z), zn, gi, (Z9.2.2.2.1), fi, (nI t), tf, mfp, map, msp, mtk, mvl, (nI M9.2.1), (nI z), mla, mma, mit, msr, mbt, (M9.2.2.2), mdr, (M9.2.2.1), mim, mkp, mtc, ⟨hRw, hTp, ⟨n, rfl, he.2.1⟩, he.2.2, hIm, hTr, rfl, rfl⟩, hP, hD, hS⟩ hl
