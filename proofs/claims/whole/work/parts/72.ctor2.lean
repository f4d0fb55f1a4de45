/-! Constructors, second -/
theorem u_X4_init_X4 : ∀ w ∈ wsX40, w ∈ wsX4_init := fun _ h => List.mem_cons_of_mem _ (List.mem_append_right _ h)
set_option maxHeartbeats 2000000 in
set_option maxRecDepth 100000 in
theorem i_X4 (l : Launch) (D : va_G) (cI cZ cT : ClassId) (h0 sz : Nat) : Met l yX4_init wsX4_init ({ frames := 1, cells := 3, slots := 336, locals := 12 }) (pI D cI cZ cT [.ref h0] [(h0, .inr (4, [.null, .null, .null]))] sz) (qI D (fun w => ∃ a : Nat → Nat, a 0 = h0 ∧ w = wRows cI a zf (lm (-1) 8) zf) (va_A [(h0, .inr (4, [.null, .null, .null]))] sz)) 3 336 (va_A [(h0, .inr (4, [.null, .null, .null]))] sz) := by
  refine Met.ofW (cc := cX4_init) (maxL := 2) (ret := none) (by decide) rfl ?_
  intro p e s m args below meth c s₁ B hml hv
  obtain ⟨rfl, hsz, hP, hD0, hK⟩ := hv
  have hx := B.exec
  have hb := B.bytes
  have hr := B.returns
  have hts := atoms_spec (ws := wsX4_init) B.pre
  have hown : s.vm.findClass RX4 = some m.cls := findClass_of_methodNamed B.named
  have hlocks := B.notSynchronized
  have hin : meth.name = "<init>" := (name_of_methodNamed B.named B.method).1
  subst hsz
  have hD := hD0.self (sz := s.heap.size)
  generalize hAe : va_A [(h0, .inr (4, [.null, .null, .null]))] s.heap.size = A at hD ⊢
  have hA : ∀ q : Nat, s.heap.size ≤ q → A q := fun q h => by rw [← hAe]; exact Or.inr h
  have hS : va_S A s.heap s.heap [] := va_S.rf
  have hl := lv_entry ([.ref h0]) (n := 2) (Nat.le_of_ble_eq_true rfl)
  rw [lg_entry_eq]
  generalize (lg_sl ([.ref h0]) ++ List.replicate (2 - (lg_sl ([.ref h0])).length) Slot.unset).toArray = ls at hl ⊢
  have hl : lv_has ls 2 [(0, .ref h0)] := hl
  refine lv_aload_n hx hb dX4_init_0 rfl (lv_at hl 0 rfl) ?_
  refine W.objInit hx hb hown (hts (.methodLink RX4 1 objectInit) (List.mem_of_getElem? (i := 1) rfl)) (hts (.instanceMethod objectInit) (List.mem_of_getElem? (i := 2) rfl)) (hts _ (List.mem_of_getElem? (i := 3) rfl)) rfl (by rw [hml]; exact hl.1) rfl dX4_init_1 (Nat.le_of_ble_eq_true rfl) (Nat.le_of_ble_eq_true rfl) ?_
  refine W.eq (g2 := F0 m 4 ls []) rfl ?_
  refine lv_aload_n hx hb dX4_init_4 rfl (lv_at hl 0 rfl) ?_
  refine lv_sipush (v := (nI 320)) hx hb dX4_init_5 (by decide) ?_
  refine b_newI (N := 320) hx hb (hts (.arrayClass .int) (List.mem_of_getElem? (i := 4) rfl)) hK hP hD hS hA (by decide) (by decide) (Nat.le_of_ble_eq_true rfl) (Nat.le_of_ble_eq_true rfl) dX4_init_8 (fun q8 H hP hD hS => ?_)
  have hP : va_P D vwCl ([(h0, .inr (4, [.null, .null, .null]))] ++ [(q8, .inl (cI, 320, .inl zf))]) H := hP
  have hD : va_D A ([(h0, .inr (4, [.null, .null, .null]))] ++ [(q8, .inl (cI, 320, .inl zf))]) := hD
  refine W.widen (k := 1) (n := 320) (by omega) (by omega) ?_
  refine va_putF (D := D) (ci := 4) (v := .ref q8) (ty := tyX4 0) (C := RX4) (T := TX4) (N := 3) hx hb hts u_X4_init_X4 tyX4 tyX4_ok nmX4 hown hK.1 hP hD hS 0 rfl rfl 0 (by decide) (hts (.fieldLink RX4 9 "NoticeWeek$Rows" "items" "[I") (List.mem_of_getElem? (i := 5) rfl)) (fun _ h9 => h9) rfl hin rfl (tyX4_ok 0 (by decide)) rfl rfl (Nat.le_of_ble_eq_true rfl) dX4_init_10 (fun H locs hP hD hS => ?_)
  have hP : va_P D vwCl ([(h0, .inr (4, [.ref q8, .null, .null]))] ++ [(q8, .inl (cI, 320, .inl zf))]) H := hP
  have hD : va_D A ([(h0, .inr (4, [.ref q8, .null, .null]))] ++ [(q8, .inl (cI, 320, .inl zf))]) := hD
  refine lv_aload_n hx hb dX4_init_13 rfl (lv_at hl 0 rfl) ?_
  refine lv_bipush (v := (nI 8)) hx hb dX4_init_14 (by decide) ?_
  refine b_newI (N := 8) hx hb (hts (.arrayClass .int) (List.mem_of_getElem? (i := 4) rfl)) hK hP hD hS hA (by decide) (by decide) (Nat.le_of_ble_eq_true rfl) (Nat.le_of_ble_eq_true rfl) dX4_init_16 (fun q16 H hP hD hS => ?_)
  have hP : va_P D vwCl ([(h0, .inr (4, [.ref q8, .null, .null]))] ++ [(q8, .inl (cI, 320, .inl zf))] ++ [(q16, .inl (cI, 8, .inl zf))]) H := hP
  have hD : va_D A ([(h0, .inr (4, [.ref q8, .null, .null]))] ++ [(q8, .inl (cI, 320, .inl zf))] ++ [(q16, .inl (cI, 8, .inl zf))]) := hD
  refine W.widen (k := 2) (n := 328) (by omega) (by omega) ?_
  refine va_putF (D := D) (ci := 4) (v := .ref q16) (ty := tyX4 1) (C := RX4) (T := TX4) (N := 3) hx hb hts u_X4_init_X4 tyX4 tyX4_ok nmX4 hown hK.1 hP hD hS 0 rfl rfl 1 (by decide) (hts (.fieldLink RX4 13 "NoticeWeek$Rows" "lanes" "[I") (List.mem_of_getElem? (i := 6) rfl)) (fun _ h9 => h9) rfl hin rfl (tyX4_ok 1 (by decide)) rfl rfl (Nat.le_of_ble_eq_true rfl) dX4_init_18 (fun H locs hP hD hS => ?_)
  have hP : va_P D vwCl ([(h0, .inr (4, [.ref q8, .ref q16, .null]))] ++ [(q8, .inl (cI, 320, .inl zf))] ++ [(q16, .inl (cI, 8, .inl zf))]) H := hP
  have hD : va_D A ([(h0, .inr (4, [.ref q8, .ref q16, .null]))] ++ [(q8, .inl (cI, 320, .inl zf))] ++ [(q16, .inl (cI, 8, .inl zf))]) := hD
  refine lv_aload_n hx hb dX4_init_21 rfl (lv_at hl 0 rfl) ?_
  refine lv_bipush (v := (nI 8)) hx hb dX4_init_22 (by decide) ?_
  refine b_newI (N := 8) hx hb (hts (.arrayClass .int) (List.mem_of_getElem? (i := 4) rfl)) hK hP hD hS hA (by decide) (by decide) (Nat.le_of_ble_eq_true rfl) (Nat.le_of_ble_eq_true rfl) dX4_init_24 (fun q24 H hP hD hS => ?_)
  have hP : va_P D vwCl ([(h0, .inr (4, [.ref q8, .ref q16, .null]))] ++ [(q8, .inl (cI, 320, .inl zf))] ++ [(q16, .inl (cI, 8, .inl zf))] ++ [(q24, .inl (cI, 8, .inl zf))]) H := hP
  have hD : va_D A ([(h0, .inr (4, [.ref q8, .ref q16, .null]))] ++ [(q8, .inl (cI, 320, .inl zf))] ++ [(q16, .inl (cI, 8, .inl zf))] ++ [(q24, .inl (cI, 8, .inl zf))]) := hD
  refine W.widen (k := 3) (n := 336) (by omega) (by omega) ?_
  refine va_putF (D := D) (ci := 4) (v := .ref q24) (ty := tyX4 2) (C := RX4) (T := TX4) (N := 3) hx hb hts u_X4_init_X4 tyX4 tyX4_ok nmX4 hown hK.1 hP hD hS 0 rfl rfl 2 (by decide) (hts (.fieldLink RX4 16 "NoticeWeek$Rows" "sizes" "[I") (List.mem_of_getElem? (i := 7) rfl)) (fun _ h9 => h9) rfl hin rfl (tyX4_ok 2 (by decide)) rfl rfl (Nat.le_of_ble_eq_true rfl) dX4_init_26 (fun H locs hP hD hS => ?_)
  have hP : va_P D vwCl ([(h0, .inr (4, [.ref q8, .ref q16, .ref q24]))] ++ [(q8, .inl (cI, 320, .inl zf))] ++ [(q16, .inl (cI, 8, .inl zf))] ++ [(q24, .inl (cI, 8, .inl zf))]) H := hP
  have hD : va_D A ([(h0, .inr (4, [.ref q8, .ref q16, .ref q24]))] ++ [(q8, .inl (cI, 320, .inl zf))] ++ [(q16, .inl (cI, 8, .inl zf))] ++ [(q24, .inl (cI, 8, .inl zf))]) := hD
  refine lv_iconst (v := nI 0) hx hb dX4_init_29 (by decide) ?_
  refine lv_istore_n (lv' := [(1, .int (nI 0)), (0, .ref h0)]) hx hb dX4_init_30 rfl hl (by decide) rfl (fun ls hl => ?_)
  refine b_loopM (N := 8) (I := fun k ls H locs => lv_has ls 2 [(1, .int (nI k)), (0, .ref h0)] ∧ va_P D vwCl ([(h0, .inr (4, [.ref q8, .ref q16, .ref q24]))] ++ [(q8, .inl (cI, 320, .inl zf))] ++ [(q16, .inl (cI, 8, .inl (lm ((-1)) k)))] ++ [(q24, .inl (cI, 8, .inl zf))]) H ∧ va_S A s.heap H locs) (fun k hk ih ls H locs hI => ?_) 0 (by omega) ⟨lv_sub hl [0, 1] rfl, hP, hS⟩
  obtain ⟨hl, hP, hS⟩ := hI
  have hl : lv_has ls 2 [(1, .int (nI k)), (0, .ref h0)] := hl
  have hP : va_P D vwCl ([(h0, .inr (4, [.ref q8, .ref q16, .ref q24]))] ++ [(q8, .inl (cI, 320, .inl zf))] ++ [(q16, .inl (cI, 8, .inl (lm ((-1)) k)))] ++ [(q24, .inl (cI, 8, .inl zf))]) H := hP
  have hD : va_D A ([(h0, .inr (4, [.ref q8, .ref q16, .ref q24]))] ++ [(q8, .inl (cI, 320, .inl zf))] ++ [(q16, .inl (cI, 8, .inl (lm ((-1)) k)))] ++ [(q24, .inl (cI, 8, .inl zf))]) := hD.same rfl
  refine lv_iload_n hx hb dX4_init_31 rfl (lv_at hl 0 rfl) ?_
  refine lv_bipush (v := nI 8) hx hb dX4_init_32 (by decide) ?_
  refine b_ge (tgt := 50) hx hb (by omega) (by omega) dX4_init_34 (by decide) (fun c1 => ?_) (fun c1 => ?_)
  · have hk8 : k = 8 := by omega
    subst hk8
    exact b_vretI (ws := [(h0, .inr (4, [.ref q8, .ref q16, .ref q24]))] ++ [(q8, .inl (cI, 320, .inl zf))] ++ [(q16, .inl (cI, 8, .inl (lm ((-1)) 8)))] ++ [(q24, .inl (cI, 8, .inl zf))]) hx hb hr ⟨(fun k => [h0, q8, q16, q24].getD k 0), rfl, rfl⟩ hP hD hS dX4_init_50 hlocks
  · refine lv_aload_n hx hb dX4_init_37 rfl (lv_at hl 1 rfl) ?_
    refine va_get (D := D) (ci := 4) (v := .ref q16) (C := RX4) (T := TX4) (N := 3) hx hb hts u_X4_init_X4 hown hK.1 hP 0 rfl rfl 1 (by decide) (hts (.fieldLink RX4 13 "NoticeWeek$Rows" "lanes" "[I") (List.mem_of_getElem? (i := 6) rfl)) (fun _ h9 => h9) rfl dX4_init_38 ?_
    refine lv_iload_n hx hb dX4_init_41 rfl (lv_at hl 0 rfl) ?_
    refine lv_iconst (v := (-1)) hx hb dX4_init_42 (by decide) ?_
    refine b_ast hx hb hK hP hD hS 2 rfl (by omega) (by decide) dX4_init_43 (fun H locs hP hS => ?_)
    have hP : va_P D vwCl ([(h0, .inr (4, [.ref q8, .ref q16, .ref q24]))] ++ [(q8, .inl (cI, 320, .inl zf))] ++ [(q16, .inl (cI, 8, .inl (lm ((-1)) (k + 1))))] ++ [(q24, .inl (cI, 8, .inl zf))]) H := hP
    refine lv_iinc (v := (nI (k + 1))) (lv' := [(1, .int (nI (k + 1))), (0, .ref h0)]) hx hb dX4_init_44 hl (k := 0) rfl (nI_add _ _) (by decide) rfl (fun ls hl => ?_)
    refine lv_goto (tgt := 31) hx hb dX4_init_47 (by decide) ?_
    exact ih (by omega) ls H locs ⟨lv_sub hl [0, 1] rfl, hP, hS⟩
