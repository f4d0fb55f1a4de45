/-! Constructors, third -/
theorem u_X2_init_X2 : ∀ w ∈ wsX20, w ∈ wsX2_init := fun _ h => List.mem_cons_of_mem _ (List.mem_append_left _ (List.mem_append_left _ (List.mem_append_left _ (List.mem_append_left _ (List.mem_append_right _ h)))))
set_option maxHeartbeats 2000000 in
set_option maxRecDepth 100000 in
theorem i_X2 (l : Launch) (D : va_G) (cI cZ cT : ClassId) (h0 sz : Nat) : Met l yX2_init wsX2_init ({ frames := 4, cells := 7, slots := 23, locals := 72 }) (pI D cI cZ cT [.ref h0] [(h0, .inr (2, [.null, .null, .null, .null, .null, .null, .null]))] sz) (qI D (fun w => ∃ a : Nat → Nat, a 0 = h0 ∧ w = wFore cI a zf zf) (va_A [(h0, .inr (2, [.null, .null, .null, .null, .null, .null, .null]))] sz)) 7 23 (va_A [(h0, .inr (2, [.null, .null, .null, .null, .null, .null, .null]))] sz) := by
  refine Met.ofW (cc := cX2_init) (maxL := 1) (ret := none) (by decide) rfl ?_
  intro p e s m args below meth c s₁ B hml hv
  obtain ⟨rfl, hsz, hP, hD0, hK⟩ := hv
  have hx := B.exec
  have hb := B.bytes
  have hr := B.returns
  have hts := atoms_spec (ws := wsX2_init) B.pre
  have hown : s.vm.findClass RX2 = some m.cls := findClass_of_methodNamed B.named
  have hlocks := B.notSynchronized
  have hin : meth.name = "<init>" := (name_of_methodNamed B.named B.method).1
  subst hsz
  have hD := hD0.self (sz := s.heap.size)
  generalize hAe : va_A [(h0, .inr (2, [.null, .null, .null, .null, .null, .null, .null]))] s.heap.size = A at hD ⊢
  have hA : ∀ q : Nat, s.heap.size ≤ q → A q := fun q h => by rw [← hAe]; exact Or.inr h
  have hS : va_S A s.heap s.heap [] := va_S.rf
  have hl := lv_entry ([.ref h0]) (n := 1) (Nat.le_of_ble_eq_true rfl)
  rw [lg_entry_eq]
  generalize (lg_sl ([.ref h0]) ++ List.replicate (1 - (lg_sl ([.ref h0])).length) Slot.unset).toArray = ls at hl ⊢
  have hl : lv_has ls 1 [(0, .ref h0)] := hl
  refine lv_aload_n hx hb dX2_init_0 rfl (lv_at hl 0 rfl) ?_
  refine W.objInit hx hb hown (hts (.methodLink RX2 3 objectInit) (List.mem_of_getElem? (i := 1) rfl)) (hts (.instanceMethod objectInit) (List.mem_of_getElem? (i := 2) rfl)) (hts _ (List.mem_of_getElem? (i := 3) rfl)) rfl (by rw [hml]; exact hl.1) rfl dX2_init_1 (Nat.le_of_ble_eq_true rfl) (Nat.le_of_ble_eq_true rfl) ?_
  refine W.eq (g2 := F0 m 4 ls []) rfl ?_
  refine lv_aload_n hx hb dX2_init_4 rfl (lv_at hl 0 rfl) ?_
  refine va_new (ci := 3) (fs := []) (C := RX3) (T := TX3) (N := 0) hx hb hts (fun w h => absurd (show w ∈ ([] : List Cond) from h) List.not_mem_nil) tyX3 tyX3_ok hown (hts (.classLink RX2 9 RX3) (List.mem_of_getElem? (i := 4) rfl)) (hts (.instantiable RX3 0) (List.mem_of_getElem? (i := 5) rfl)) (hts (.initialized RX3) (List.mem_of_getElem? (i := 6) rfl)) hK.1 hP hD hS hA rfl (fun j hj => absurd hj (by omega)) (Nat.le_of_ble_eq_true rfl) (Nat.le_of_ble_eq_true rfl) dX2_init_5 (fun q5 H hP hD hS => ?_)
  have hP : va_P D vwCl ([(h0, .inr (2, [.null, .null, .null, .null, .null, .null, .null]))] ++ [(q5, .inr (3, []))]) H := hP
  have hD : va_D A ([(h0, .inr (2, [.null, .null, .null, .null, .null, .null, .null]))] ++ [(q5, .inr (3, []))]) := hD
  refine W.widen (k := 1) (n := 0) (by omega) (by omega) ?_
  refine lv_dup hx hb dX2_init_8 rfl ?_
  refine b_callI (wr := [(h0, .inr (2, [.null, .null, .null, .null, .null, .null, .null]))]) (wc := [(q5, .inr (3, []))]) (va_runIN (As := []) (rest := [.ref q5, .ref h0]) ⟨hx, hb, hml, hown, hts⟩ (i_X3 l D cI cZ cT q5 H.size 3) ⟨va_cnB (host := RX11) 0 hts gX2_init_X3_init_n11 rfl rfl rfl (hK.2.1 _ (List.mem_of_getElem? (i := 3) rfl)) (hts (.initialized RX3) (List.mem_of_getElem? (i := 6) rfl)) (by decide +kernel) ⟨(Nat.le_of_ble_eq_true rfl), (Nat.le_of_ble_eq_true rfl)⟩, rfl, hts (.instanceMethod yX3_init) (List.mem_of_getElem? (i := 27) rfl)⟩ (b_pI (wr := [(h0, .inr (2, [.null, .null, .null, .null, .null, .null, .null]))]) (wc := [(q5, .inr (3, []))]) hK hP hD) rfl rfl hl.1 rfl (lv_room (Nat.le_of_ble_eq_true rfl)) dX2_init_9 ⟨(Nat.le_of_ble_eq_true rfl), (Nat.le_of_ble_eq_true rfl)⟩).run hP hD hS hA (fun wc9 H locs hw9 hP hD hS => ?_)
  subst hw9
  have hP : va_P D vwCl ([(h0, .inr (2, [.null, .null, .null, .null, .null, .null, .null]))] ++ [(q5, .inr (3, []))]) H := hP
  have hD : va_D A ([(h0, .inr (2, [.null, .null, .null, .null, .null, .null, .null]))] ++ [(q5, .inr (3, []))]) := hD
  refine W.widen (k := 1) (n := 0) (by omega) (by omega) ?_
  refine va_putF (D := D) (ci := 2) (v := .ref q5) (ty := tyX2 0) (C := RX2) (T := TX2) (N := 7) hx hb hts u_X2_init_X2 tyX2 tyX2_ok nmX2 hown hK.1 hP hD hS 0 rfl rfl 0 (by decide) (hts (.fieldLink RX2 12 "NoticeWeek$Foresight" "proud" "LNoticeWeek$Temper;") (List.mem_of_getElem? (i := 7) rfl)) (fun _ h9 => h9) rfl hin rfl (tyX2_ok 0 (by decide)) rfl rfl (Nat.le_of_ble_eq_true rfl) dX2_init_12 (fun H locs hP hD hS => ?_)
  have hP : va_P D vwCl ([(h0, .inr (2, [.ref q5, .null, .null, .null, .null, .null, .null]))] ++ [(q5, .inr (3, []))]) H := hP
  have hD : va_D A ([(h0, .inr (2, [.ref q5, .null, .null, .null, .null, .null, .null]))] ++ [(q5, .inr (3, []))]) := hD
  refine lv_aload_n hx hb dX2_init_15 rfl (lv_at hl 0 rfl) ?_
  refine va_new (ci := 9) (fs := []) (C := RX10) (T := TX10) (N := 0) hx hb hts (fun w h => absurd (show w ∈ ([] : List Cond) from h) List.not_mem_nil) tyX10 tyX10_ok hown (hts (.classLink RX2 18 RX10) (List.mem_of_getElem? (i := 8) rfl)) (hts (.instantiable RX10 0) (List.mem_of_getElem? (i := 9) rfl)) (hts (.initialized RX10) (List.mem_of_getElem? (i := 10) rfl)) hK.1 hP hD hS hA rfl (fun j hj => absurd hj (by omega)) (Nat.le_of_ble_eq_true rfl) (Nat.le_of_ble_eq_true rfl) dX2_init_16 (fun q16 H hP hD hS => ?_)
  have hP : va_P D vwCl ([(h0, .inr (2, [.ref q5, .null, .null, .null, .null, .null, .null]))] ++ [(q5, .inr (3, []))] ++ [(q16, .inr (9, []))]) H := hP
  have hD : va_D A ([(h0, .inr (2, [.ref q5, .null, .null, .null, .null, .null, .null]))] ++ [(q5, .inr (3, []))] ++ [(q16, .inr (9, []))]) := hD
  refine W.widen (k := 2) (n := 0) (by omega) (by omega) ?_
  refine lv_dup hx hb dX2_init_19 rfl ?_
  refine b_callI (wr := [(h0, .inr (2, [.ref q5, .null, .null, .null, .null, .null, .null]))] ++ [(q5, .inr (3, []))]) (wc := [(q16, .inr (9, []))]) (va_runIN (As := []) (rest := [.ref q16, .ref h0]) ⟨hx, hb, hml, hown, hts⟩ (i_X10 l D cI cZ cT q16 H.size 9) ⟨va_cnB (host := RX11) 0 hts gX2_init_X10_init_n20 rfl rfl rfl (hK.2.1 _ (List.mem_of_getElem? (i := 5) rfl)) (hts (.initialized RX10) (List.mem_of_getElem? (i := 10) rfl)) (by decide +kernel) ⟨(Nat.le_of_ble_eq_true rfl), (Nat.le_of_ble_eq_true rfl)⟩, rfl, hts (.instanceMethod yX10_init) (List.mem_of_getElem? (i := 33) rfl)⟩ (b_pI (wr := [(h0, .inr (2, [.ref q5, .null, .null, .null, .null, .null, .null]))] ++ [(q5, .inr (3, []))]) (wc := [(q16, .inr (9, []))]) hK hP hD) rfl rfl hl.1 rfl (lv_room (Nat.le_of_ble_eq_true rfl)) dX2_init_20 ⟨(Nat.le_of_ble_eq_true rfl), (Nat.le_of_ble_eq_true rfl)⟩).run hP hD hS hA (fun wc9 H locs hw9 hP hD hS => ?_)
  subst hw9
  have hP : va_P D vwCl ([(h0, .inr (2, [.ref q5, .null, .null, .null, .null, .null, .null]))] ++ [(q5, .inr (3, []))] ++ [(q16, .inr (9, []))]) H := hP
  have hD : va_D A ([(h0, .inr (2, [.ref q5, .null, .null, .null, .null, .null, .null]))] ++ [(q5, .inr (3, []))] ++ [(q16, .inr (9, []))]) := hD
  refine W.widen (k := 2) (n := 0) (by omega) (by omega) ?_
  refine va_putF (D := D) (ci := 2) (v := .ref q16) (ty := tyX2 1) (C := RX2) (T := TX2) (N := 7) hx hb hts u_X2_init_X2 tyX2 tyX2_ok nmX2 hown hK.1 hP hD hS 0 rfl rfl 1 (by decide) (hts (.fieldLink RX2 21 "NoticeWeek$Foresight" "vain" "LNoticeWeek$Temper;") (List.mem_of_getElem? (i := 11) rfl)) (fun _ h9 => h9) rfl hin rfl (tyX2_ok 1 (by decide)) rfl rfl (Nat.le_of_ble_eq_true rfl) dX2_init_23 (fun H locs hP hD hS => ?_)
  have hP : va_P D vwCl ([(h0, .inr (2, [.ref q5, .ref q16, .null, .null, .null, .null, .null]))] ++ [(q5, .inr (3, []))] ++ [(q16, .inr (9, []))]) H := hP
  have hD : va_D A ([(h0, .inr (2, [.ref q5, .ref q16, .null, .null, .null, .null, .null]))] ++ [(q5, .inr (3, []))] ++ [(q16, .inr (9, []))]) := hD
  refine lv_aload_n hx hb dX2_init_26 rfl (lv_at hl 0 rfl) ?_
  refine va_new (ci := 5) (fs := []) (C := RX5) (T := TX5) (N := 0) hx hb hts (fun w h => absurd (show w ∈ ([] : List Cond) from h) List.not_mem_nil) tyX5 tyX5_ok hown (hts (.classLink RX2 24 RX5) (List.mem_of_getElem? (i := 12) rfl)) (hts (.instantiable RX5 0) (List.mem_of_getElem? (i := 13) rfl)) (hts (.initialized RX5) (List.mem_of_getElem? (i := 14) rfl)) hK.1 hP hD hS hA rfl (fun j hj => absurd hj (by omega)) (Nat.le_of_ble_eq_true rfl) (Nat.le_of_ble_eq_true rfl) dX2_init_27 (fun q27 H hP hD hS => ?_)
  have hP : va_P D vwCl ([(h0, .inr (2, [.ref q5, .ref q16, .null, .null, .null, .null, .null]))] ++ [(q5, .inr (3, []))] ++ [(q16, .inr (9, []))] ++ [(q27, .inr (5, []))]) H := hP
  have hD : va_D A ([(h0, .inr (2, [.ref q5, .ref q16, .null, .null, .null, .null, .null]))] ++ [(q5, .inr (3, []))] ++ [(q16, .inr (9, []))] ++ [(q27, .inr (5, []))]) := hD
  refine W.widen (k := 3) (n := 0) (by omega) (by omega) ?_
  refine lv_dup hx hb dX2_init_30 rfl ?_
  refine b_callI (wr := [(h0, .inr (2, [.ref q5, .ref q16, .null, .null, .null, .null, .null]))] ++ [(q5, .inr (3, []))] ++ [(q16, .inr (9, []))]) (wc := [(q27, .inr (5, []))]) (va_runIN (As := []) (rest := [.ref q27, .ref h0]) ⟨hx, hb, hml, hown, hts⟩ (i_X5 l D cI cZ cT q27 H.size 5) ⟨va_cnB (host := RX11) 0 hts gX2_init_X5_init_n26 rfl rfl rfl (hK.2.1 _ (List.mem_of_getElem? (i := 7) rfl)) (hts (.initialized RX5) (List.mem_of_getElem? (i := 14) rfl)) (by decide +kernel) ⟨(Nat.le_of_ble_eq_true rfl), (Nat.le_of_ble_eq_true rfl)⟩, rfl, hts (.instanceMethod yX5_init) (List.mem_of_getElem? (i := 35) rfl)⟩ (b_pI (wr := [(h0, .inr (2, [.ref q5, .ref q16, .null, .null, .null, .null, .null]))] ++ [(q5, .inr (3, []))] ++ [(q16, .inr (9, []))]) (wc := [(q27, .inr (5, []))]) hK hP hD) rfl rfl hl.1 rfl (lv_room (Nat.le_of_ble_eq_true rfl)) dX2_init_31 ⟨(Nat.le_of_ble_eq_true rfl), (Nat.le_of_ble_eq_true rfl)⟩).run hP hD hS hA (fun wc9 H locs hw9 hP hD hS => ?_)
  subst hw9
  have hP : va_P D vwCl ([(h0, .inr (2, [.ref q5, .ref q16, .null, .null, .null, .null, .null]))] ++ [(q5, .inr (3, []))] ++ [(q16, .inr (9, []))] ++ [(q27, .inr (5, []))]) H := hP
  have hD : va_D A ([(h0, .inr (2, [.ref q5, .ref q16, .null, .null, .null, .null, .null]))] ++ [(q5, .inr (3, []))] ++ [(q16, .inr (9, []))] ++ [(q27, .inr (5, []))]) := hD
  refine W.widen (k := 3) (n := 0) (by omega) (by omega) ?_
  refine va_putF (D := D) (ci := 2) (v := .ref q27) (ty := tyX2 2) (C := RX2) (T := TX2) (N := 7) hx hb hts u_X2_init_X2 tyX2 tyX2_ok nmX2 hown hK.1 hP hD hS 0 rfl rfl 2 (by decide) (hts (.fieldLink RX2 27 "NoticeWeek$Foresight" "shy" "LNoticeWeek$Temper;") (List.mem_of_getElem? (i := 15) rfl)) (fun _ h9 => h9) rfl hin rfl (tyX2_ok 2 (by decide)) rfl rfl (Nat.le_of_ble_eq_true rfl) dX2_init_34 (fun H locs hP hD hS => ?_)
  have hP : va_P D vwCl ([(h0, .inr (2, [.ref q5, .ref q16, .ref q27, .null, .null, .null, .null]))] ++ [(q5, .inr (3, []))] ++ [(q16, .inr (9, []))] ++ [(q27, .inr (5, []))]) H := hP
  have hD : va_D A ([(h0, .inr (2, [.ref q5, .ref q16, .ref q27, .null, .null, .null, .null]))] ++ [(q5, .inr (3, []))] ++ [(q16, .inr (9, []))] ++ [(q27, .inr (5, []))]) := hD
  refine lv_aload_n hx hb dX2_init_37 rfl (lv_at hl 0 rfl) ?_
  refine va_new (ci := 1) (fs := []) (C := RX1) (T := TX1) (N := 0) hx hb hts (fun w h => absurd (show w ∈ ([] : List Cond) from h) List.not_mem_nil) tyX1 tyX1_ok hown (hts (.classLink RX2 30 RX1) (List.mem_of_getElem? (i := 16) rfl)) (hts (.instantiable RX1 0) (List.mem_of_getElem? (i := 17) rfl)) (hts (.initialized RX1) (List.mem_of_getElem? (i := 18) rfl)) hK.1 hP hD hS hA rfl (fun j hj => absurd hj (by omega)) (Nat.le_of_ble_eq_true rfl) (Nat.le_of_ble_eq_true rfl) dX2_init_38 (fun q38 H hP hD hS => ?_)
  have hP : va_P D vwCl ([(h0, .inr (2, [.ref q5, .ref q16, .ref q27, .null, .null, .null, .null]))] ++ [(q5, .inr (3, []))] ++ [(q16, .inr (9, []))] ++ [(q27, .inr (5, []))] ++ [(q38, .inr (1, []))]) H := hP
  have hD : va_D A ([(h0, .inr (2, [.ref q5, .ref q16, .ref q27, .null, .null, .null, .null]))] ++ [(q5, .inr (3, []))] ++ [(q16, .inr (9, []))] ++ [(q27, .inr (5, []))] ++ [(q38, .inr (1, []))]) := hD
  refine W.widen (k := 4) (n := 0) (by omega) (by omega) ?_
  refine lv_dup hx hb dX2_init_41 rfl ?_
  refine b_callI (wr := [(h0, .inr (2, [.ref q5, .ref q16, .ref q27, .null, .null, .null, .null]))] ++ [(q5, .inr (3, []))] ++ [(q16, .inr (9, []))] ++ [(q27, .inr (5, []))]) (wc := [(q38, .inr (1, []))]) (va_runIN (As := []) (rest := [.ref q38, .ref h0]) ⟨hx, hb, hml, hown, hts⟩ (i_X1 l D cI cZ cT q38 H.size 1) ⟨va_cnB (host := RX11) 0 hts gX2_init_X1_init_n32 rfl rfl rfl (hK.2.1 _ (List.mem_of_getElem? (i := 9) rfl)) (hts (.initialized RX1) (List.mem_of_getElem? (i := 18) rfl)) (by decide +kernel) ⟨(Nat.le_of_ble_eq_true rfl), (Nat.le_of_ble_eq_true rfl)⟩, rfl, hts (.instanceMethod yX1_init) (List.mem_of_getElem? (i := 37) rfl)⟩ (b_pI (wr := [(h0, .inr (2, [.ref q5, .ref q16, .ref q27, .null, .null, .null, .null]))] ++ [(q5, .inr (3, []))] ++ [(q16, .inr (9, []))] ++ [(q27, .inr (5, []))]) (wc := [(q38, .inr (1, []))]) hK hP hD) rfl rfl hl.1 rfl (lv_room (Nat.le_of_ble_eq_true rfl)) dX2_init_42 ⟨(Nat.le_of_ble_eq_true rfl), (Nat.le_of_ble_eq_true rfl)⟩).run hP hD hS hA (fun wc9 H locs hw9 hP hD hS => ?_)
  subst hw9
  have hP : va_P D vwCl ([(h0, .inr (2, [.ref q5, .ref q16, .ref q27, .null, .null, .null, .null]))] ++ [(q5, .inr (3, []))] ++ [(q16, .inr (9, []))] ++ [(q27, .inr (5, []))] ++ [(q38, .inr (1, []))]) H := hP
  have hD : va_D A ([(h0, .inr (2, [.ref q5, .ref q16, .ref q27, .null, .null, .null, .null]))] ++ [(q5, .inr (3, []))] ++ [(q16, .inr (9, []))] ++ [(q27, .inr (5, []))] ++ [(q38, .inr (1, []))]) := hD
  refine W.widen (k := 4) (n := 0) (by omega) (by omega) ?_
  refine va_putF (D := D) (ci := 2) (v := .ref q38) (ty := tyX2 3) (C := RX2) (T := TX2) (N := 7) hx hb hts u_X2_init_X2 tyX2 tyX2_ok nmX2 hown hK.1 hP hD hS 0 rfl rfl 3 (by decide) (hts (.fieldLink RX2 33 "NoticeWeek$Foresight" "cross" "LNoticeWeek$Temper;") (List.mem_of_getElem? (i := 19) rfl)) (fun _ h9 => h9) rfl hin rfl (tyX2_ok 3 (by decide)) rfl rfl (Nat.le_of_ble_eq_true rfl) dX2_init_45 (fun H locs hP hD hS => ?_)
  have hP : va_P D vwCl ([(h0, .inr (2, [.ref q5, .ref q16, .ref q27, .ref q38, .null, .null, .null]))] ++ [(q5, .inr (3, []))] ++ [(q16, .inr (9, []))] ++ [(q27, .inr (5, []))] ++ [(q38, .inr (1, []))]) H := hP
  have hD : va_D A ([(h0, .inr (2, [.ref q5, .ref q16, .ref q27, .ref q38, .null, .null, .null]))] ++ [(q5, .inr (3, []))] ++ [(q16, .inr (9, []))] ++ [(q27, .inr (5, []))] ++ [(q38, .inr (1, []))]) := hD
  refine lv_aload_n hx hb dX2_init_48 rfl (lv_at hl 0 rfl) ?_
  refine va_new (ci := 0) (fs := []) (C := RX0) (T := TX0) (N := 0) hx hb hts (fun w h => absurd (show w ∈ ([] : List Cond) from h) List.not_mem_nil) tyX0 tyX0_ok hown (hts (.classLink RX2 36 RX0) (List.mem_of_getElem? (i := 20) rfl)) (hts (.instantiable RX0 0) (List.mem_of_getElem? (i := 21) rfl)) (hts (.initialized RX0) (List.mem_of_getElem? (i := 22) rfl)) hK.1 hP hD hS hA rfl (fun j hj => absurd hj (by omega)) (Nat.le_of_ble_eq_true rfl) (Nat.le_of_ble_eq_true rfl) dX2_init_49 (fun q49 H hP hD hS => ?_)
  have hP : va_P D vwCl ([(h0, .inr (2, [.ref q5, .ref q16, .ref q27, .ref q38, .null, .null, .null]))] ++ [(q5, .inr (3, []))] ++ [(q16, .inr (9, []))] ++ [(q27, .inr (5, []))] ++ [(q38, .inr (1, []))] ++ [(q49, .inr (0, []))]) H := hP
  have hD : va_D A ([(h0, .inr (2, [.ref q5, .ref q16, .ref q27, .ref q38, .null, .null, .null]))] ++ [(q5, .inr (3, []))] ++ [(q16, .inr (9, []))] ++ [(q27, .inr (5, []))] ++ [(q38, .inr (1, []))] ++ [(q49, .inr (0, []))]) := hD
  refine W.widen (k := 5) (n := 0) (by omega) (by omega) ?_
  refine lv_dup hx hb dX2_init_52 rfl ?_
  refine b_callI (wr := [(h0, .inr (2, [.ref q5, .ref q16, .ref q27, .ref q38, .null, .null, .null]))] ++ [(q5, .inr (3, []))] ++ [(q16, .inr (9, []))] ++ [(q27, .inr (5, []))] ++ [(q38, .inr (1, []))]) (wc := [(q49, .inr (0, []))]) (va_runIN (As := []) (rest := [.ref q49, .ref h0]) ⟨hx, hb, hml, hown, hts⟩ (i_X0 l D cI cZ cT q49 H.size 0) ⟨va_cnB (host := RX11) 0 hts gX2_init_X0_init_n38 rfl rfl rfl (hK.2.1 _ (List.mem_of_getElem? (i := 11) rfl)) (hts (.initialized RX0) (List.mem_of_getElem? (i := 22) rfl)) (by decide +kernel) ⟨(Nat.le_of_ble_eq_true rfl), (Nat.le_of_ble_eq_true rfl)⟩, rfl, hts (.instanceMethod yX0_init) (List.mem_of_getElem? (i := 39) rfl)⟩ (b_pI (wr := [(h0, .inr (2, [.ref q5, .ref q16, .ref q27, .ref q38, .null, .null, .null]))] ++ [(q5, .inr (3, []))] ++ [(q16, .inr (9, []))] ++ [(q27, .inr (5, []))] ++ [(q38, .inr (1, []))]) (wc := [(q49, .inr (0, []))]) hK hP hD) rfl rfl hl.1 rfl (lv_room (Nat.le_of_ble_eq_true rfl)) dX2_init_53 ⟨(Nat.le_of_ble_eq_true rfl), (Nat.le_of_ble_eq_true rfl)⟩).run hP hD hS hA (fun wc9 H locs hw9 hP hD hS => ?_)
  subst hw9
  have hP : va_P D vwCl ([(h0, .inr (2, [.ref q5, .ref q16, .ref q27, .ref q38, .null, .null, .null]))] ++ [(q5, .inr (3, []))] ++ [(q16, .inr (9, []))] ++ [(q27, .inr (5, []))] ++ [(q38, .inr (1, []))] ++ [(q49, .inr (0, []))]) H := hP
  have hD : va_D A ([(h0, .inr (2, [.ref q5, .ref q16, .ref q27, .ref q38, .null, .null, .null]))] ++ [(q5, .inr (3, []))] ++ [(q16, .inr (9, []))] ++ [(q27, .inr (5, []))] ++ [(q38, .inr (1, []))] ++ [(q49, .inr (0, []))]) := hD
  refine W.widen (k := 5) (n := 0) (by omega) (by omega) ?_
  refine va_putF (D := D) (ci := 2) (v := .ref q49) (ty := tyX2 4) (C := RX2) (T := TX2) (N := 7) hx hb hts u_X2_init_X2 tyX2 tyX2_ok nmX2 hown hK.1 hP hD hS 0 rfl rfl 4 (by decide) (hts (.fieldLink RX2 39 "NoticeWeek$Foresight" "calm" "LNoticeWeek$Temper;") (List.mem_of_getElem? (i := 23) rfl)) (fun _ h9 => h9) rfl hin rfl (tyX2_ok 4 (by decide)) rfl rfl (Nat.le_of_ble_eq_true rfl) dX2_init_56 (fun H locs hP hD hS => ?_)
  have hP : va_P D vwCl ([(h0, .inr (2, [.ref q5, .ref q16, .ref q27, .ref q38, .ref q49, .null, .null]))] ++ [(q5, .inr (3, []))] ++ [(q16, .inr (9, []))] ++ [(q27, .inr (5, []))] ++ [(q38, .inr (1, []))] ++ [(q49, .inr (0, []))]) H := hP
  have hD : va_D A ([(h0, .inr (2, [.ref q5, .ref q16, .ref q27, .ref q38, .ref q49, .null, .null]))] ++ [(q5, .inr (3, []))] ++ [(q16, .inr (9, []))] ++ [(q27, .inr (5, []))] ++ [(q38, .inr (1, []))] ++ [(q49, .inr (0, []))]) := hD
  refine lv_aload_n hx hb dX2_init_59 rfl (lv_at hl 0 rfl) ?_
  refine lv_bipush (v := (nI 16)) hx hb dX2_init_60 (by decide) ?_
  refine b_newI (N := 16) hx hb (hts (.arrayClass .int) (List.mem_of_getElem? (i := 24) rfl)) hK hP hD hS hA (by decide) (by decide) (Nat.le_of_ble_eq_true rfl) (Nat.le_of_ble_eq_true rfl) dX2_init_62 (fun q62 H hP hD hS => ?_)
  have hP : va_P D vwCl ([(h0, .inr (2, [.ref q5, .ref q16, .ref q27, .ref q38, .ref q49, .null, .null]))] ++ [(q5, .inr (3, []))] ++ [(q16, .inr (9, []))] ++ [(q27, .inr (5, []))] ++ [(q38, .inr (1, []))] ++ [(q49, .inr (0, []))] ++ [(q62, .inl (cI, 16, .inl zf))]) H := hP
  have hD : va_D A ([(h0, .inr (2, [.ref q5, .ref q16, .ref q27, .ref q38, .ref q49, .null, .null]))] ++ [(q5, .inr (3, []))] ++ [(q16, .inr (9, []))] ++ [(q27, .inr (5, []))] ++ [(q38, .inr (1, []))] ++ [(q49, .inr (0, []))] ++ [(q62, .inl (cI, 16, .inl zf))]) := hD
  refine W.widen (k := 6) (n := 16) (by omega) (by omega) ?_
  refine va_putF (D := D) (ci := 2) (v := .ref q62) (ty := tyX2 5) (C := RX2) (T := TX2) (N := 7) hx hb hts u_X2_init_X2 tyX2 tyX2_ok nmX2 hown hK.1 hP hD hS 0 rfl rfl 5 (by decide) (hts (.fieldLink RX2 42 "NoticeWeek$Foresight" "course" "[I") (List.mem_of_getElem? (i := 25) rfl)) (fun _ h9 => h9) rfl hin rfl (tyX2_ok 5 (by decide)) rfl rfl (Nat.le_of_ble_eq_true rfl) dX2_init_64 (fun H locs hP hD hS => ?_)
  have hP : va_P D vwCl ([(h0, .inr (2, [.ref q5, .ref q16, .ref q27, .ref q38, .ref q49, .ref q62, .null]))] ++ [(q5, .inr (3, []))] ++ [(q16, .inr (9, []))] ++ [(q27, .inr (5, []))] ++ [(q38, .inr (1, []))] ++ [(q49, .inr (0, []))] ++ [(q62, .inl (cI, 16, .inl zf))]) H := hP
  have hD : va_D A ([(h0, .inr (2, [.ref q5, .ref q16, .ref q27, .ref q38, .ref q49, .ref q62, .null]))] ++ [(q5, .inr (3, []))] ++ [(q16, .inr (9, []))] ++ [(q27, .inr (5, []))] ++ [(q38, .inr (1, []))] ++ [(q49, .inr (0, []))] ++ [(q62, .inl (cI, 16, .inl zf))]) := hD
  refine lv_aload_n hx hb dX2_init_67 rfl (lv_at hl 0 rfl) ?_
  refine lv_bipush (v := (nI 7)) hx hb dX2_init_68 (by decide) ?_
  refine b_newI (N := 7) hx hb (hts (.arrayClass .int) (List.mem_of_getElem? (i := 24) rfl)) hK hP hD hS hA (by decide) (by decide) (Nat.le_of_ble_eq_true rfl) (Nat.le_of_ble_eq_true rfl) dX2_init_70 (fun q70 H hP hD hS => ?_)
  have hP : va_P D vwCl ([(h0, .inr (2, [.ref q5, .ref q16, .ref q27, .ref q38, .ref q49, .ref q62, .null]))] ++ [(q5, .inr (3, []))] ++ [(q16, .inr (9, []))] ++ [(q27, .inr (5, []))] ++ [(q38, .inr (1, []))] ++ [(q49, .inr (0, []))] ++ [(q62, .inl (cI, 16, .inl zf))] ++ [(q70, .inl (cI, 7, .inl zf))]) H := hP
  have hD : va_D A ([(h0, .inr (2, [.ref q5, .ref q16, .ref q27, .ref q38, .ref q49, .ref q62, .null]))] ++ [(q5, .inr (3, []))] ++ [(q16, .inr (9, []))] ++ [(q27, .inr (5, []))] ++ [(q38, .inr (1, []))] ++ [(q49, .inr (0, []))] ++ [(q62, .inl (cI, 16, .inl zf))] ++ [(q70, .inl (cI, 7, .inl zf))]) := hD
  refine W.widen (k := 7) (n := 23) (by omega) (by omega) ?_
  refine va_putF (D := D) (ci := 2) (v := .ref q70) (ty := tyX2 6) (C := RX2) (T := TX2) (N := 7) hx hb hts u_X2_init_X2 tyX2 tyX2_ok nmX2 hown hK.1 hP hD hS 0 rfl rfl 6 (by decide) (hts (.fieldLink RX2 46 "NoticeWeek$Foresight" "ways" "[I") (List.mem_of_getElem? (i := 26) rfl)) (fun _ h9 => h9) rfl hin rfl (tyX2_ok 6 (by decide)) rfl rfl (Nat.le_of_ble_eq_true rfl) dX2_init_72 (fun H locs hP hD hS => ?_)
  have hP : va_P D vwCl ([(h0, .inr (2, [.ref q5, .ref q16, .ref q27, .ref q38, .ref q49, .ref q62, .ref q70]))] ++ [(q5, .inr (3, []))] ++ [(q16, .inr (9, []))] ++ [(q27, .inr (5, []))] ++ [(q38, .inr (1, []))] ++ [(q49, .inr (0, []))] ++ [(q62, .inl (cI, 16, .inl zf))] ++ [(q70, .inl (cI, 7, .inl zf))]) H := hP
  have hD : va_D A ([(h0, .inr (2, [.ref q5, .ref q16, .ref q27, .ref q38, .ref q49, .ref q62, .ref q70]))] ++ [(q5, .inr (3, []))] ++ [(q16, .inr (9, []))] ++ [(q27, .inr (5, []))] ++ [(q38, .inr (1, []))] ++ [(q49, .inr (0, []))] ++ [(q62, .inl (cI, 16, .inl zf))] ++ [(q70, .inl (cI, 7, .inl zf))]) := hD
  exact b_vretI (ws := [(h0, .inr (2, [.ref q5, .ref q16, .ref q27, .ref q38, .ref q49, .ref q62, .ref q70]))] ++ [(q5, .inr (3, []))] ++ [(q16, .inr (9, []))] ++ [(q27, .inr (5, []))] ++ [(q38, .inr (1, []))] ++ [(q49, .inr (0, []))] ++ [(q62, .inl (cI, 16, .inl zf))] ++ [(q70, .inl (cI, 7, .inl zf))]) hx hb hr ⟨(fun k => [h0, q5, q16, q27, q38, q49, q62, q70].getD k 0), rfl, rfl⟩ hP hD hS dX2_init_75 hlocks
