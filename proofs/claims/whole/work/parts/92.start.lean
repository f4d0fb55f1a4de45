/-! The start -/
theorem lm_m1 : ∀ r, r < 8 → lm (-1) 8 r = -1 := by decide +kernel
theorem lm_m6 : ∀ r, r < 8 → lm (-1000000) 8 r = -1000000 := by decide +kernel
theorem st_row : RRw (lm (-1) 8) zf zf (lm (-1000000) 8) zf zf := fun r hr => ⟨⟨0, by omega, nI_0.symm⟩, ⟨0, by omega, nI_0.symm⟩, Or.inl ⟨lm_m1 r (by omega), lm_m6 r (by omega)⟩⟩
theorem st_tr : TRl T0 zf := ⟨0, nI_0.symm, Or.inl rfl, rfl, rfl, rfl, ⟨0, by omega, nI_0.symm⟩, ⟨by omega, nI_0.symm, fun r _ => ⟨0, by omega, nI_0.symm⟩⟩, fun r h => absurd h (by omega)⟩
theorem st_ac : RAc 0 0 (fun _ => T0) 0 zf := ⟨0, 0, nI_0.symm, nI_0.symm, nI_0.symm, by omega, by omega, fun j h => absurd h (by omega), fun k _ => Or.inl rfl⟩
theorem st_im : RIm (fun _ => T0) zf zf := fun k _ => ⟨Or.inl rfl, ⟨fun _ => rfl, fun _ => rfl⟩, fun h => absurd rfl h⟩
theorem st_tp : RTp 0 zf 0 zf := ⟨0, by omega, nI_0.symm, nI_0.symm, fun k h => absurd h (by omega)⟩
theorem st_rt : RTr 0 zf 0 zf := ⟨0, by omega, nI_0.symm, nI_0.symm, fun k h => absurd h (by omega)⟩
theorem sw_c11 : Cond.classLink RL 7 RX11 ∈ wsL_law := by decide +kernel
theorem sw_n11 : Cond.instantiable RX11 11 ∈ wsL_law := by decide +kernel
theorem sw_i11 : Cond.initialized RX11 ∈ wsL_law := by decide +kernel
theorem sw_m11 : Cond.methodLink RL 9 yX11_init ∈ wsL_law := by decide +kernel
theorem sw_y11 : Cond.instanceMethod yX11_init ∈ wsL_law := by decide +kernel
theorem sw_c12 : Cond.classLink RL 10 RX12 ∈ wsL_law := by decide +kernel
theorem sw_n12 : Cond.instantiable RX12 21 ∈ wsL_law := by decide +kernel
theorem sw_i12 : Cond.initialized RX12 ∈ wsL_law := by decide +kernel
theorem sw_m12 : Cond.methodLink RL 12 yX12_init ∈ wsL_law := by decide +kernel
theorem sw_y12 : Cond.instanceMethod yX12_init ∈ wsL_law := by decide +kernel
set_option maxHeartbeats 4000000 in
set_option maxRecDepth 100000 in
theorem whole_start {p : Program} {e : Env} {s : State} {m : MethodId} {below : List Frame} {meth : Method} {c : Code} (l : Launch) {b L : Nat} {xs : Nat → Int32} (hL : L ≤ 3072) (C0 : lw_At p s m meth c b L xs) : W p l e room_1 s m #[Value.ref b] below meth c s.heap [] 0 0 (lw_Z below #[Value.ref b] s) (entryFrame m ([Value.ref b] : List Value).toArray 4) := by
  obtain ⟨hx, hb, hr, hml, hown, hts0, hX, hbl, hlocks, hgv⟩ := C0
  have hts : ∀ w ∈ wsL_law, w.before #[Value.ref b] s = true := fun w h => hts0 w (wsL_law_in w h)
  have hown : s.vm.findClass RL = some m.cls := hown
  have hb : c.code = cL_law := hb
  obtain ⟨D, cI, cZ, cT, hK⟩ := kx_start hts0 hgv
  obtain ⟨A, eA⟩ : ∃ A : Nat → Prop, A = fun q : Nat => s.heap.size ≤ q := ⟨_, rfl⟩
  have hA : ∀ q : Nat, s.heap.size ≤ q → A q := fun q h => by rw [eA]; exact h
  have hbA : ¬ A b := by rw [eA]; exact Nat.not_le.mpr hbl
  have hS : va_S A s.heap s.heap [] := va_S.rf
  have hP : va_P D vwCl [] s.heap := fun k q h => by simp at h
  have hD : va_D A [] := ⟨fun i j p q h => by simp at h, fun k q h => by simp at h⟩
  have hl := lv_entry ([.ref b]) (n := 4) (Nat.le_of_ble_eq_true rfl)
  rw [lg_entry_eq]
  generalize (lg_sl ([.ref b]) ++ List.replicate (4 - (lg_sl ([.ref b])).length) Slot.unset).toArray = ls at hl ⊢
  have hl : lv_has ls 4 [(0, .ref b)] := hl
  refine va_new (ci := 10) (fs := [.null, .null, .null, .null, .null, .null, .int 0, .int 0, .null, .null, .int 0]) (C := RX11) (T := TX11) (N := 11) hx hb hts inlX11 tyX11 tyX11_ok hown (hts _ sw_c11) (hts _ sw_n11) (hts _ sw_i11) hK.1 hP hD hS hA rfl (fun j hj => by rcases (show j = 0 ∨ j = 1 ∨ j = 2 ∨ j = 3 ∨ j = 4 ∨ j = 5 ∨ j = 6 ∨ j = 7 ∨ j = 8 ∨ j = 9 ∨ j = 10 by omega) with rfl | rfl | rfl | rfl | rfl | rfl | rfl | rfl | rfl | rfl | rfl <;> rfl) (Nat.le_of_ble_eq_true rfl) (Nat.le_of_ble_eq_true rfl) dL_law_0 (fun q0 H hP hD hS => ?_)
  refine W.widen (k := 1) (n := 11) (by omega) (by omega) ?_
  refine lv_dup hx hb dL_law_3 rfl ?_
  refine b_callI (wr := ([] : va_W)) (wc := [(q0, .inr (10, [.null, .null, .null, .null, .null, .null, .int 0, .int 0, .null, .null, .int 0]))]) (va_runI (As := []) (rest := [.ref q0]) ⟨hx, hb, hml, hown, hts⟩ (i_X11 l D cI cZ cT q0 H.size) (cwI 0 hts gL_law_X11_init rfl rfl rfl (hts _ sw_i11) (hts _ sw_m11) (hts _ sw_y11) rfl (by decide +kernel) ⟨(Nat.le_of_ble_eq_true rfl), (Nat.le_of_ble_eq_true rfl)⟩) (b_pI (wr := ([] : va_W)) (wc := [(q0, .inr (10, [.null, .null, .null, .null, .null, .null, .int 0, .int 0, .null, .null, .int 0]))]) hK hP hD) rfl rfl hl.1 rfl (lv_room (Nat.le_of_ble_eq_true rfl)) dL_law_4 ⟨(Nat.le_of_ble_eq_true rfl), (Nat.le_of_ble_eq_true rfl)⟩).run hP hD hS hA (fun w11 H locs hw11 hP hD hS => ?_)
  refine W.widen (k := 159) (n := 1445) (by omega) (by omega) ?_
  have hP : va_P D vwCl w11 H := hP
  have hD : va_D A w11 := hD
  refine lv_astore_n (lv' := [(1, .ref q0), (0, .ref b)]) hx hb dL_law_7 rfl hl (by decide) rfl (fun ls hl => ?_)
  refine va_new (ci := 11) (fs := [.null, .null, .null, .null, .int 0, .null, .int 0, .int 0, .int 0, .int 0, .int 0, .int 0, .int 0, .null, .null, .null, .int 0, .null, .null, .null, .int 0]) (C := RX12) (T := TX12) (N := 21) hx hb hts inlX12 tyX12 tyX12_ok hown (hts _ sw_c12) (hts _ sw_n12) (hts _ sw_i12) hK.1 hP hD hS hA rfl (fun j hj => by rcases (show j = 0 ∨ j = 1 ∨ j = 2 ∨ j = 3 ∨ j = 4 ∨ j = 5 ∨ j = 6 ∨ j = 7 ∨ j = 8 ∨ j = 9 ∨ j = 10 ∨ j = 11 ∨ j = 12 ∨ j = 13 ∨ j = 14 ∨ j = 15 ∨ j = 16 ∨ j = 17 ∨ j = 18 ∨ j = 19 ∨ j = 20 by omega) with rfl | rfl | rfl | rfl | rfl | rfl | rfl | rfl | rfl | rfl | rfl | rfl | rfl | rfl | rfl | rfl | rfl | rfl | rfl | rfl | rfl <;> rfl) (Nat.le_of_ble_eq_true rfl) (Nat.le_of_ble_eq_true rfl) dL_law_8 (fun q8 H hP hD hS => ?_)
  refine W.widen (k := 160) (n := 1466) (by omega) (by omega) ?_
  refine lv_dup hx hb dL_law_11 rfl ?_
  refine b_callI (wr := w11) (wc := [(q8, .inr (11, [.null, .null, .null, .null, .int 0, .null, .int 0, .int 0, .int 0, .int 0, .int 0, .int 0, .int 0, .null, .null, .null, .int 0, .null, .null, .null, .int 0]))]) (va_runI (As := []) (rest := [.ref q8]) ⟨hx, hb, hml, hown, hts⟩ (i_X12 l D cI cZ cT q8 H.size) (cwI 0 hts gL_law_X12_init rfl rfl rfl (hts _ sw_i12) (hts _ sw_m12) (hts _ sw_y12) rfl (by decide +kernel) ⟨(Nat.le_of_ble_eq_true rfl), (Nat.le_of_ble_eq_true rfl)⟩) (b_pI (wr := w11) (wc := [(q8, .inr (11, [.null, .null, .null, .null, .int 0, .null, .int 0, .int 0, .int 0, .int 0, .int 0, .int 0, .int 0, .null, .null, .null, .int 0, .null, .null, .null, .int 0]))]) hK hP hD) rfl rfl hl.1 rfl (lv_room (Nat.le_of_ble_eq_true rfl)) dL_law_12 ⟨(Nat.le_of_ble_eq_true rfl), (Nat.le_of_ble_eq_true rfl)⟩).run hP hD hS hA (fun w12 H locs hw12 hP hD hS => ?_)
  refine W.widen (k := 171) (n := 2764) (by omega) (by omega) ?_
  refine lv_astore_n (lv' := [(2, .ref q8), (1, .ref q0), (0, .ref b)]) hx hb dL_law_15 rfl hl (by decide) rfl (fun ls hl => ?_)
  refine lv_iconst (v := nI 0) hx hb dL_law_16 (by decide) ?_
  refine lv_istore_n (lv' := [(3, .int (nI 0)), (2, .ref q8), (1, .ref q0), (0, .ref b)]) hx hb dL_law_17 rfl hl (by decide) rfl (fun ls hl => ?_)
  obtain ⟨ra, pa, ta, da, ia, xa, fa, za, gb, ga, rfl⟩ := hw11
  obtain ⟨A0, hA0, rfl⟩ := hw12
  have hPz := hP
  have hDz := hD
  have hSz := hS
  have hA0 : q8 = A0 0 := hA0.symm
  subst hA0
  refine law_loop hx hb hml hown hts hX hbl hbA hK hL (cells := 171) (slots := 2764) (Nat.le_of_ble_eq_true rfl) (Nat.le_of_ble_eq_true rfl) (fun ls H locs hI => ?_) (L + 1) 0 (Nat.zero_le L) (by omega) ls H locs (?_ : LInv D cI cZ cT A s q0 ra pa ta da ia xa fa za gb ga A0 H locs) (lv_sub hl [3, 2, 1, 0] rfl)
  · have hS := hI.S
    refine lv_iconst (v := 1) hx hb dL_law_1158 (by decide) ?_
    refine va_forget (fun q hq => by have h9 := hS.2.2 q hq; rw [eA] at h9; exact h9) ?_
    refine W.widen (k := 600000) (n := 7302250) (Nat.le_of_ble_eq_true rfl) (Nat.le_of_ble_eq_true rfl) ?_
    exact lw_ret hx hb hr hlocks dL_law_1159
  · exact ⟨0, 0, 0, zf, (lm (-1) 8), zf, 0, 0, 0, 0, zf, 0, 0, 0, 0, zf, zf, zf, zf, T0, zf, zf, 0, zf, (fun _ => T0), (fun _ => T0), 0, 0, 0, 0, 0, 0, 0, 0, 0, 0, (lm (-1000000) 8), zf, zf, zf, zf, zf, zf, zf, zf, zf, zf, ⟨st_row, st_tp, st_tr, st_ac, st_im, st_rt, rfl, rfl⟩, hPz, hDz, hSz⟩
