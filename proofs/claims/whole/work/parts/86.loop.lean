/-! The law's loop, whole -/
theorem LInv.S {D : va_G} {cI cZ cT : ClassId} {A : Nat → Prop} {s : State} {nx : Nat} {ra pa ta da : Nat → Nat} {ia xa : Nat} {fa za : Nat → Nat} {gb ga : Nat → Nat → Nat} {A0 : Nat → Nat} {H : Heap} {locs : List Loc} (h : LInv D cI cZ cT A s nx ra pa ta da ia xa fa za gb ga A0 H locs) : va_S A s.heap H locs := by
  obtain ⟨un, na, fi, it, la, sz, tl, tf, tat, tw, bt, st, dy, ln, rd, kd, dd, nt, lf, yd, co, wy, zl, zn, gi, gs, mss, mtp, mfk, mfp, map, msp, mtk, mvl, mac, mtr, mla, mma, mit, msr, mbt, mnw, mdr, mpa, mim, mkp, mtc, ⟨hRw, hTp, hTl, hAc, hIm, hTr, hfi, htf⟩, hP, hD, hS⟩ := h
  exact hS
theorem lw_head {i L : Nat} (hi : i ≤ 3072) (hL : L ≤ 3072) (h : ¬ (nI L - nI 6) < nI i) : i + 5 < L := by
  rw [Int32.lt_iff_toInt_lt, pk_sub_toInt (by omega) (by omega), nI_toInt (by omega)] at h
  omega
theorem lw_32 : ∀ k, k < 32 → k = 0 ∨ k = 1 ∨ k = 2 ∨ k = 3 ∨ k = 4 ∨ k = 5 ∨ k = 6 ∨ k = 7 ∨ k = 8 ∨ k = 9 ∨ k = 10 ∨ k = 11 ∨ k = 12 ∨ k = 13 ∨ k = 14 ∨ k = 15 ∨ k = 16 ∨ k = 17 ∨ k = 18 ∨ k = 19 ∨ k = 20 ∨ k = 21 ∨ k = 22 ∨ k = 23 ∨ k = 24 ∨ k = 25 ∨ k = 26 ∨ k = 27 ∨ k = 28 ∨ k = 29 ∨ k = 30 ∨ k = 31 := by decide +kernel
theorem lw_o0 : (#[143, 186, 229, 292, 315, 338, 351, 364, 387, 420, 453, 486, 499, 532, 565, 598, 621, 644, 667, 710, 743, 766, 819, 882, 925, 948, 971, 994, 1027, 1060, 1083, 1106] : Array Int)[((nI 0).toInt - 0).toNat]? = some 143 := by decide +kernel
theorem lw_o1 : (#[143, 186, 229, 292, 315, 338, 351, 364, 387, 420, 453, 486, 499, 532, 565, 598, 621, 644, 667, 710, 743, 766, 819, 882, 925, 948, 971, 994, 1027, 1060, 1083, 1106] : Array Int)[((nI 1).toInt - 0).toNat]? = some 186 := by decide +kernel
theorem lw_o2 : (#[143, 186, 229, 292, 315, 338, 351, 364, 387, 420, 453, 486, 499, 532, 565, 598, 621, 644, 667, 710, 743, 766, 819, 882, 925, 948, 971, 994, 1027, 1060, 1083, 1106] : Array Int)[((nI 2).toInt - 0).toNat]? = some 229 := by decide +kernel
theorem lw_o3 : (#[143, 186, 229, 292, 315, 338, 351, 364, 387, 420, 453, 486, 499, 532, 565, 598, 621, 644, 667, 710, 743, 766, 819, 882, 925, 948, 971, 994, 1027, 1060, 1083, 1106] : Array Int)[((nI 3).toInt - 0).toNat]? = some 292 := by decide +kernel
theorem lw_o4 : (#[143, 186, 229, 292, 315, 338, 351, 364, 387, 420, 453, 486, 499, 532, 565, 598, 621, 644, 667, 710, 743, 766, 819, 882, 925, 948, 971, 994, 1027, 1060, 1083, 1106] : Array Int)[((nI 4).toInt - 0).toNat]? = some 315 := by decide +kernel
theorem lw_o5 : (#[143, 186, 229, 292, 315, 338, 351, 364, 387, 420, 453, 486, 499, 532, 565, 598, 621, 644, 667, 710, 743, 766, 819, 882, 925, 948, 971, 994, 1027, 1060, 1083, 1106] : Array Int)[((nI 5).toInt - 0).toNat]? = some 338 := by decide +kernel
theorem lw_o6 : (#[143, 186, 229, 292, 315, 338, 351, 364, 387, 420, 453, 486, 499, 532, 565, 598, 621, 644, 667, 710, 743, 766, 819, 882, 925, 948, 971, 994, 1027, 1060, 1083, 1106] : Array Int)[((nI 6).toInt - 0).toNat]? = some 351 := by decide +kernel
theorem lw_o7 : (#[143, 186, 229, 292, 315, 338, 351, 364, 387, 420, 453, 486, 499, 532, 565, 598, 621, 644, 667, 710, 743, 766, 819, 882, 925, 948, 971, 994, 1027, 1060, 1083, 1106] : Array Int)[((nI 7).toInt - 0).toNat]? = some 364 := by decide +kernel
theorem lw_o8 : (#[143, 186, 229, 292, 315, 338, 351, 364, 387, 420, 453, 486, 499, 532, 565, 598, 621, 644, 667, 710, 743, 766, 819, 882, 925, 948, 971, 994, 1027, 1060, 1083, 1106] : Array Int)[((nI 8).toInt - 0).toNat]? = some 387 := by decide +kernel
theorem lw_o9 : (#[143, 186, 229, 292, 315, 338, 351, 364, 387, 420, 453, 486, 499, 532, 565, 598, 621, 644, 667, 710, 743, 766, 819, 882, 925, 948, 971, 994, 1027, 1060, 1083, 1106] : Array Int)[((nI 9).toInt - 0).toNat]? = some 420 := by decide +kernel
theorem lw_o10 : (#[143, 186, 229, 292, 315, 338, 351, 364, 387, 420, 453, 486, 499, 532, 565, 598, 621, 644, 667, 710, 743, 766, 819, 882, 925, 948, 971, 994, 1027, 1060, 1083, 1106] : Array Int)[((nI 10).toInt - 0).toNat]? = some 453 := by decide +kernel
theorem lw_o11 : (#[143, 186, 229, 292, 315, 338, 351, 364, 387, 420, 453, 486, 499, 532, 565, 598, 621, 644, 667, 710, 743, 766, 819, 882, 925, 948, 971, 994, 1027, 1060, 1083, 1106] : Array Int)[((nI 11).toInt - 0).toNat]? = some 486 := by decide +kernel
theorem lw_o12 : (#[143, 186, 229, 292, 315, 338, 351, 364, 387, 420, 453, 486, 499, 532, 565, 598, 621, 644, 667, 710, 743, 766, 819, 882, 925, 948, 971, 994, 1027, 1060, 1083, 1106] : Array Int)[((nI 12).toInt - 0).toNat]? = some 499 := by decide +kernel
theorem lw_o13 : (#[143, 186, 229, 292, 315, 338, 351, 364, 387, 420, 453, 486, 499, 532, 565, 598, 621, 644, 667, 710, 743, 766, 819, 882, 925, 948, 971, 994, 1027, 1060, 1083, 1106] : Array Int)[((nI 13).toInt - 0).toNat]? = some 532 := by decide +kernel
theorem lw_o14 : (#[143, 186, 229, 292, 315, 338, 351, 364, 387, 420, 453, 486, 499, 532, 565, 598, 621, 644, 667, 710, 743, 766, 819, 882, 925, 948, 971, 994, 1027, 1060, 1083, 1106] : Array Int)[((nI 14).toInt - 0).toNat]? = some 565 := by decide +kernel
theorem lw_o15 : (#[143, 186, 229, 292, 315, 338, 351, 364, 387, 420, 453, 486, 499, 532, 565, 598, 621, 644, 667, 710, 743, 766, 819, 882, 925, 948, 971, 994, 1027, 1060, 1083, 1106] : Array Int)[((nI 15).toInt - 0).toNat]? = some 598 := by decide +kernel
theorem lw_o16 : (#[143, 186, 229, 292, 315, 338, 351, 364, 387, 420, 453, 486, 499, 532, 565, 598, 621, 644, 667, 710, 743, 766, 819, 882, 925, 948, 971, 994, 1027, 1060, 1083, 1106] : Array Int)[((nI 16).toInt - 0).toNat]? = some 621 := by decide +kernel
theorem lw_o17 : (#[143, 186, 229, 292, 315, 338, 351, 364, 387, 420, 453, 486, 499, 532, 565, 598, 621, 644, 667, 710, 743, 766, 819, 882, 925, 948, 971, 994, 1027, 1060, 1083, 1106] : Array Int)[((nI 17).toInt - 0).toNat]? = some 644 := by decide +kernel
theorem lw_o18 : (#[143, 186, 229, 292, 315, 338, 351, 364, 387, 420, 453, 486, 499, 532, 565, 598, 621, 644, 667, 710, 743, 766, 819, 882, 925, 948, 971, 994, 1027, 1060, 1083, 1106] : Array Int)[((nI 18).toInt - 0).toNat]? = some 667 := by decide +kernel
theorem lw_o19 : (#[143, 186, 229, 292, 315, 338, 351, 364, 387, 420, 453, 486, 499, 532, 565, 598, 621, 644, 667, 710, 743, 766, 819, 882, 925, 948, 971, 994, 1027, 1060, 1083, 1106] : Array Int)[((nI 19).toInt - 0).toNat]? = some 710 := by decide +kernel
theorem lw_o20 : (#[143, 186, 229, 292, 315, 338, 351, 364, 387, 420, 453, 486, 499, 532, 565, 598, 621, 644, 667, 710, 743, 766, 819, 882, 925, 948, 971, 994, 1027, 1060, 1083, 1106] : Array Int)[((nI 20).toInt - 0).toNat]? = some 743 := by decide +kernel
theorem lw_o21 : (#[143, 186, 229, 292, 315, 338, 351, 364, 387, 420, 453, 486, 499, 532, 565, 598, 621, 644, 667, 710, 743, 766, 819, 882, 925, 948, 971, 994, 1027, 1060, 1083, 1106] : Array Int)[((nI 21).toInt - 0).toNat]? = some 766 := by decide +kernel
theorem lw_o22 : (#[143, 186, 229, 292, 315, 338, 351, 364, 387, 420, 453, 486, 499, 532, 565, 598, 621, 644, 667, 710, 743, 766, 819, 882, 925, 948, 971, 994, 1027, 1060, 1083, 1106] : Array Int)[((nI 22).toInt - 0).toNat]? = some 819 := by decide +kernel
theorem lw_o23 : (#[143, 186, 229, 292, 315, 338, 351, 364, 387, 420, 453, 486, 499, 532, 565, 598, 621, 644, 667, 710, 743, 766, 819, 882, 925, 948, 971, 994, 1027, 1060, 1083, 1106] : Array Int)[((nI 23).toInt - 0).toNat]? = some 882 := by decide +kernel
theorem lw_o24 : (#[143, 186, 229, 292, 315, 338, 351, 364, 387, 420, 453, 486, 499, 532, 565, 598, 621, 644, 667, 710, 743, 766, 819, 882, 925, 948, 971, 994, 1027, 1060, 1083, 1106] : Array Int)[((nI 24).toInt - 0).toNat]? = some 925 := by decide +kernel
theorem lw_o25 : (#[143, 186, 229, 292, 315, 338, 351, 364, 387, 420, 453, 486, 499, 532, 565, 598, 621, 644, 667, 710, 743, 766, 819, 882, 925, 948, 971, 994, 1027, 1060, 1083, 1106] : Array Int)[((nI 25).toInt - 0).toNat]? = some 948 := by decide +kernel
theorem lw_o26 : (#[143, 186, 229, 292, 315, 338, 351, 364, 387, 420, 453, 486, 499, 532, 565, 598, 621, 644, 667, 710, 743, 766, 819, 882, 925, 948, 971, 994, 1027, 1060, 1083, 1106] : Array Int)[((nI 26).toInt - 0).toNat]? = some 971 := by decide +kernel
theorem lw_o27 : (#[143, 186, 229, 292, 315, 338, 351, 364, 387, 420, 453, 486, 499, 532, 565, 598, 621, 644, 667, 710, 743, 766, 819, 882, 925, 948, 971, 994, 1027, 1060, 1083, 1106] : Array Int)[((nI 27).toInt - 0).toNat]? = some 994 := by decide +kernel
theorem lw_o28 : (#[143, 186, 229, 292, 315, 338, 351, 364, 387, 420, 453, 486, 499, 532, 565, 598, 621, 644, 667, 710, 743, 766, 819, 882, 925, 948, 971, 994, 1027, 1060, 1083, 1106] : Array Int)[((nI 28).toInt - 0).toNat]? = some 1027 := by decide +kernel
theorem lw_o29 : (#[143, 186, 229, 292, 315, 338, 351, 364, 387, 420, 453, 486, 499, 532, 565, 598, 621, 644, 667, 710, 743, 766, 819, 882, 925, 948, 971, 994, 1027, 1060, 1083, 1106] : Array Int)[((nI 29).toInt - 0).toNat]? = some 1060 := by decide +kernel
theorem lw_o30 : (#[143, 186, 229, 292, 315, 338, 351, 364, 387, 420, 453, 486, 499, 532, 565, 598, 621, 644, 667, 710, 743, 766, 819, 882, 925, 948, 971, 994, 1027, 1060, 1083, 1106] : Array Int)[((nI 30).toInt - 0).toNat]? = some 1083 := by decide +kernel
theorem lw_o31 : (#[143, 186, 229, 292, 315, 338, 351, 364, 387, 420, 453, 486, 499, 532, 565, 598, 621, 644, 667, 710, 743, 766, 819, 882, 925, 948, 971, 994, 1027, 1060, 1083, 1106] : Array Int)[((nI 31).toInt - 0).toNat]? = some 1106 := by decide +kernel
set_option maxHeartbeats 4000000 in
set_option maxRecDepth 100000 in
theorem law_sw {p : Program} {l : Launch} {e : Env} {s : State} {m : MethodId} {args : Array Value} {below : List Frame} {meth : Method} {c : Code} {cells slots : Nat} {Q : State → Prop} {D : va_G} {cI cZ cT : ClassId} {A : Nat → Prop} {nx : Nat} {ra pa ta da : Nat → Nat} {ia xa : Nat} {fa za : Nat → Nat} {gb ga : Nat → Nat → Nat} {A0 : Nat → Nat} {b L : Nat} {xs : Nat → Int32} {i : Nat} {H : Heap} {locs : List Loc} {ls : Array Slot} (hx : p.tables.exec = Jvm.exec) (hb : c.code = cL_law) (hml : c.maxLocals = 4) (hown : s.vm.findClass RL = some m.cls) (hts : ∀ w ∈ wsL_law, w.before args s = true) (hX : va_X b L xs s s.heap) (hbl : b < s.heap.size) (hbA : ¬ A b) (hK : KX D cI cZ cT s) (hL : L ≤ 3072) (hC : cells + 0 ≤ room_1.cells) (hSl : slots + 0 ≤ room_1.slots) (hi : i + 5 < L) (hl : lv_has ls 4 [(0, .ref b), (1, .ref nx), (2, .ref (A0 0)), (3, .int (nI i))]) (hI : LInv D cI cZ cT A s nx ra pa ta da ia xa fa za gb ga A0 H locs) (K : ∀ (ls : Array Slot) (H : Heap) (locs : List Loc), LInv D cI cZ cT A s nx ra pa ta da ia xa fa za gb ga A0 H locs → lv_has ls 4 [(0, .ref b), (1, .ref nx), (2, .ref (A0 0)), (3, .int (nI i))] → W p l e room_1 s m args below meth c H locs cells slots Q (F0 m 1152 ls [])) (k : Nat) (hk : k < 32) : W p l e room_1 s m args below meth c H locs cells slots Q (F0 m 33 ls [.int (nI k)]) := by
  rcases lw_32 k hk with rfl | rfl | rfl | rfl | rfl | rfl | rfl | rfl | rfl | rfl | rfl | rfl | rfl | rfl | rfl | rfl | rfl | rfl | rfl | rfl | rfl | rfl | rfl | rfl | rfl | rfl | rfl | rfl | rfl | rfl | rfl | rfl
  · exact lv_tableIn (tgt := 176) (off := 143) hx hb dL_law_33 (by decide +kernel) (by decide +kernel) lw_o0 (by decide) (lc_row hx hb hml hown hts hX hbl hbA hK hL hi rfl hC hSl hl hI K)
  · exact lv_tableIn (tgt := 219) (off := 186) hx hb dL_law_33 (by decide +kernel) (by decide +kernel) lw_o1 (by decide) (lc_set hx hb hml hown hts hX hbl hbA hK hL hi rfl hC hSl hl hI K)
  · exact lv_tableIn (tgt := 262) (off := 229) hx hb dL_law_33 (by decide +kernel) (by decide +kernel) lw_o2 (by decide) (lc_copy hx hb hml hown hts hX hbl hbA hK hL hi rfl hC hSl hl hI K)
  · exact lv_tableIn (tgt := 325) (off := 292) hx hb dL_law_33 (by decide +kernel) (by decide +kernel) lw_o3 (by decide) (lc_drop hx hb hml hown hts hX hbl hbA hK hL hi rfl hC hSl hl hI K)
  · exact lv_tableIn (tgt := 348) (off := 315) hx hb dL_law_33 (by decide +kernel) (by decide +kernel) lw_o4 (by decide) (lc_feed hx hb hml hown hts hX hbl hbA hK hL hi rfl hC hSl hl hI K)
  · exact lv_tableIn (tgt := 371) (off := 338) hx hb dL_law_33 (by decide +kernel) (by decide +kernel) lw_o5 (by decide) (lc_town hx hb hml hown hts hX hbl hbA hK hL hi rfl hC hSl hl hI K)
  · exact lv_tableIn (tgt := 384) (off := 351) hx hb dL_law_33 (by decide +kernel) (by decide +kernel) lw_o6 (by decide) (lc_fault hx hb hml hown hts hX hbl hbA hK hL hi rfl hC hSl hl hI K)
  · exact lv_tableIn (tgt := 397) (off := 364) hx hb dL_law_33 (by decide +kernel) (by decide +kernel) lw_o7 (by decide) (lc_days hx hb hml hown hts hX hbl hbA hK hL hi rfl hC hSl hl hI K)
  · exact lv_tableIn (tgt := 420) (off := 387) hx hb dL_law_33 (by decide +kernel) (by decide +kernel) lw_o8 (by decide) (lc_write hx hb hml hown hts hX hbl hbA hK hL hi rfl hC hSl hl hI K)
  · exact lv_tableIn (tgt := 453) (off := 420) hx hb dL_law_33 (by decide +kernel) (by decide +kernel) lw_o9 (by decide) (lc_deny hx hb hml hown hts hX hbl hbA hK hL hi rfl hC hSl hl hI K)
  · exact lv_tableIn (tgt := 486) (off := 453) hx hb dL_law_33 (by decide +kernel) (by decide +kernel) lw_o10 (by decide) (lc_spare hx hb hml hown hts hX hbl hbA hK hL hi rfl hC hSl hl hI K)
  · exact lv_tableIn (tgt := 519) (off := 486) hx hb dL_law_33 (by decide +kernel) (by decide +kernel) lw_o11 (by decide) (lc_undo hx hb hml hown hts hX hbl hbA hK hL hi rfl hC hSl hl hI K)
  · exact lv_tableIn (tgt := 532) (off := 499) hx hb dL_law_33 (by decide +kernel) (by decide +kernel) lw_o12 (by decide) (lc_reader hx hb hml hown hts hX hbl hbA hK hL hi rfl hC hSl hl hI K)
  · exact lv_tableIn (tgt := 565) (off := 532) hx hb dL_law_33 (by decide +kernel) (by decide +kernel) lw_o13 (by decide) (lc_deeds hx hb hml hown hts hX hbl hbA hK hL hi rfl hC hSl hl hI K)
  · exact lv_tableIn (tgt := 598) (off := 565) hx hb dL_law_33 (by decide +kernel) (by decide +kernel) lw_o14 (by decide) (lc_lines hx hb hml hown hts hX hbl hbA hK hL hi rfl hC hSl hl hI K)
  · exact lv_tableIn (tgt := 631) (off := 598) hx hb dL_law_33 (by decide +kernel) (by decide +kernel) lw_o15 (by decide) (lc_dead hx hb hml hown hts hX hbl hbA hK hL hi rfl hC hSl hl hI K)
  · exact lv_tableIn (tgt := 654) (off := 621) hx hb dL_law_33 (by decide +kernel) (by decide +kernel) lw_o16 (by decide) (lc_ends hx hb hml hown hts hX hbl hbA hK hL hi rfl hC hSl hl hI K)
  · exact lv_tableIn (tgt := 677) (off := 644) hx hb dL_law_33 (by decide +kernel) (by decide +kernel) lw_o17 (by decide) (lc_first hx hb hml hown hts hX hbl hbA hK hL hi rfl hC hSl hl hI K)
  · exact lv_tableIn (tgt := 700) (off := 667) hx hb dL_law_33 (by decide +kernel) (by decide +kernel) lw_o18 (by decide) (lc_toWrite hx hb hml hown hts hX hbl hbA hK hL hi rfl hC hSl hl hI K)
  · exact lv_tableIn (tgt := 743) (off := 710) hx hb dL_law_33 (by decide +kernel) (by decide +kernel) lw_o19 (by decide) (lc_toDeny hx hb hml hown hts hX hbl hbA hK hL hi rfl hC hSl hl hI K)
  · exact lv_tableIn (tgt := 776) (off := 743) hx hb dL_law_33 (by decide +kernel) (by decide +kernel) lw_o20 (by decide) (lc_print hx hb hml hown hts hX hbl hbA hK hL hi rfl hC hSl hl hI K)
  · exact lv_tableIn (tgt := 799) (off := 766) hx hb dL_law_33 (by decide +kernel) (by decide +kernel) lw_o21 (by decide) (lc_temper hx hb hml hown hts hX hbl hbA hK hL hi rfl hC hSl hl hI K)
  · exact lv_tableIn (tgt := 852) (off := 819) hx hb dL_law_33 (by decide +kernel) (by decide +kernel) lw_o22 (by decide) (lc_told hx hb hml hown hts hX hbl hbA hK hL hi rfl hC hSl hl hI K)
  · exact lv_tableIn (tgt := 915) (off := 882) hx hb dL_law_33 (by decide +kernel) (by decide +kernel) lw_o23 (by decide) (lc_odds hx hb hml hown hts hX hbl hbA hK hL hi rfl hC hSl hl hI K)
  · exact lv_tableIn (tgt := 958) (off := 925) hx hb dL_law_33 (by decide +kernel) (by decide +kernel) lw_o24 (by decide) (lc_image hx hb hml hown hts hX hbl hbA hK hL hi rfl hC hSl hl hI K)
  · exact lv_tableIn (tgt := 981) (off := 948) hx hb dL_law_33 (by decide +kernel) (by decide +kernel) lw_o25 (by decide) (lc_restore hx hb hml hown hts hX hbl hbA hK hL hi rfl hC hSl hl hI K)
  · exact lv_tableIn (tgt := 1004) (off := 971) hx hb dL_law_33 (by decide +kernel) (by decide +kernel) lw_o26 (by decide) (lc_kind hx hb hml hown hts hX hbl hbA hK hL hi rfl hC hSl hl hI K)
  · exact lv_tableIn (tgt := 1027) (off := 994) hx hb dL_law_33 (by decide +kernel) (by decide +kernel) lw_o27 (by decide) (lc_as hx hb hml hown hts hX hbl hbA hK hL hi rfl hC hSl hl hI K)
  · exact lv_tableIn (tgt := 1060) (off := 1027) hx hb dL_law_33 (by decide +kernel) (by decide +kernel) lw_o28 (by decide) (lc_ask hx hb hml hown hts hX hbl hbA hK hL hi rfl hC hSl hl hI K)
  · exact lv_tableIn (tgt := 1093) (off := 1060) hx hb dL_law_33 (by decide +kernel) (by decide +kernel) lw_o29 (by decide) (lc_trace hx hb hml hown hts hX hbl hbA hK hL hi rfl hC hSl hl hI K)
  · exact lv_tableIn (tgt := 1116) (off := 1083) hx hb dL_law_33 (by decide +kernel) (by decide +kernel) lw_o30 (by decide) (lc_count hx hb hml hown hts hX hbl hbA hK hL hi rfl hC hSl hl hI K)
  · exact lv_tableIn (tgt := 1139) (off := 1106) hx hb dL_law_33 (by decide +kernel) (by decide +kernel) lw_o31 (by decide) (lc_status hx hb hml hown hts hX hbl hbA hK hL hi rfl hC hSl hl hI K)
set_option maxHeartbeats 4000000 in
set_option maxRecDepth 100000 in
theorem law_loop {p : Program} {l : Launch} {e : Env} {s : State} {m : MethodId} {args : Array Value} {below : List Frame} {meth : Method} {c : Code} {cells slots : Nat} {Q : State → Prop} {D : va_G} {cI cZ cT : ClassId} {A : Nat → Prop} {nx : Nat} {ra pa ta da : Nat → Nat} {ia xa : Nat} {fa za : Nat → Nat} {gb ga : Nat → Nat → Nat} {A0 : Nat → Nat} {b L : Nat} {xs : Nat → Int32} (hx : p.tables.exec = Jvm.exec) (hb : c.code = cL_law) (hml : c.maxLocals = 4) (hown : s.vm.findClass RL = some m.cls) (hts : ∀ w ∈ wsL_law, w.before args s = true) (hX : va_X b L xs s s.heap) (hbl : b < s.heap.size) (hbA : ¬ A b) (hK : KX D cI cZ cT s) (hL : L ≤ 3072) (hC : cells + 0 ≤ room_1.cells) (hSl : slots + 0 ≤ room_1.slots) (hE : ∀ (ls : Array Slot) (H : Heap) (locs : List Loc), LInv D cI cZ cT A s nx ra pa ta da ia xa fa za gb ga A0 H locs → W p l e room_1 s m args below meth c H locs cells slots Q (F0 m 1158 ls [])) : ∀ (n i : Nat), i ≤ L → L + 1 ≤ i + n → ∀ (ls : Array Slot) (H : Heap) (locs : List Loc), LInv D cI cZ cT A s nx ra pa ta da ia xa fa za gb ga A0 H locs → lv_has ls 4 [(0, .ref b), (1, .ref nx), (2, .ref (A0 0)), (3, .int (nI i))] → W p l e room_1 s m args below meth c H locs cells slots Q (F0 m 18 ls []) := by
  intro n
  induction n with
  | zero => intro i h1 h2; exact absurd h2 (by omega)
  | succ n ih =>
    intro i hi hin ls H locs hI hl
    have hS := hI.S
    refine lv_iload_n hx hb dL_law_18 rfl (lv_at hl 3 rfl) ?_
    refine lv_aload_n hx hb dL_law_19 rfl (lv_at hl 0 rfl) ?_
    refine va_slen hx hb hX hbl hbA hS dL_law_20 ?_
    refine lv_bipush (v := nI 6) hx hb dL_law_21 (by decide) ?_
    refine lv_isub hx hb dL_law_23 ?_
    refine lv_icmp_gt (tgt := 1158) hx hb dL_law_24 (by decide) (fun c1 => hE ls H locs hI) (fun c1 => ?_)
    have hi5 : i + 5 < L := lw_head (by omega) hL c1
    refine lv_aload_n hx hb dL_law_27 rfl (lv_at hl 0 rfl) ?_
    refine lv_iload_n hx hb dL_law_28 rfl (lv_at hl 3 rfl) ?_
    refine b_sld hx hb hX hbl hbA hS (show i < L by omega) hL dL_law_29 ?_
    refine lv_bipush (v := 31) hx hb dL_law_30 (by decide) ?_
    refine lv_iand hx hb dL_law_32 ?_
    obtain ⟨k, hk, ek⟩ := pk_andE (xs i) (m := 31) 5 (by decide)
    rw [ek]
    refine law_sw hx hb hml hown hts hX hbl hbA hK hL hC hSl hi5 hl hI (fun ls H locs hI hl => ?_) k hk
    refine lv_iinc (v := nI (i + 6)) (lv' := [(3, .int (nI (i + 6))), (0, .ref b), (1, .ref nx), (2, .ref (A0 0))]) hx hb dL_law_1152 hl (k := 3) rfl (nI_add i 6) (by decide) rfl (fun ls hl => ?_)
    refine lv_goto (tgt := 18) hx hb dL_law_1155 (by decide) ?_
    exact ih (i + 6) (by omega) (by omega) ls H locs hI (lv_sub hl [1, 2, 3, 0] rfl)
