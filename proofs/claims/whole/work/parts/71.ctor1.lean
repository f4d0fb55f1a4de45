/-! Constructors -/
abbrev lm (v : Int32) (k : Nat) : Nat → Int32 := itr (fun j f => upd f j v) k zf
set_option maxHeartbeats 2000000 in
set_option maxRecDepth 100000 in
theorem i_X7 (l : Launch) (D : va_G) (cI cZ cT : ClassId) (h0 sz : Nat) (ci : Nat) : Met l yX7_init wsX7_init ({ frames := 1, cells := 0, slots := 0, locals := 12 }) (pI D cI cZ cT [.ref h0] [(h0, .inr (ci, []))] sz) (qI D (fun w => w = [(h0, .inr (ci, []))]) (va_A [(h0, .inr (ci, []))] sz)) 0 0 (va_A [(h0, .inr (ci, []))] sz) := by
  refine Met.ofW (cc := cX7_init) (maxL := 1) (ret := none) (by decide) rfl ?_
  intro p e s m args below meth c s₁ B hml hv
  obtain ⟨rfl, hsz, hP, hD0, hK⟩ := hv
  have hx := B.exec
  have hb := B.bytes
  have hr := B.returns
  have hts := atoms_spec (ws := wsX7_init) B.pre
  have hown : s.vm.findClass RX7 = some m.cls := findClass_of_methodNamed B.named
  have hlocks := B.notSynchronized
  have hin : meth.name = "<init>" := (name_of_methodNamed B.named B.method).1
  subst hsz
  have hD := hD0.self (sz := s.heap.size)
  generalize hAe : va_A [(h0, .inr (ci, []))] s.heap.size = A at hD ⊢
  have hA : ∀ q : Nat, s.heap.size ≤ q → A q := fun q h => by rw [← hAe]; exact Or.inr h
  have hS : va_S A s.heap s.heap [] := va_S.rf
  have hl := lv_entry ([.ref h0]) (n := 1) (Nat.le_of_ble_eq_true rfl)
  rw [lg_entry_eq]
  generalize (lg_sl ([.ref h0]) ++ List.replicate (1 - (lg_sl ([.ref h0])).length) Slot.unset).toArray = ls at hl ⊢
  have hl : lv_has ls 1 [(0, .ref h0)] := hl
  refine lv_aload_n hx hb dX7_init_0 rfl (lv_at hl 0 rfl) ?_
  refine W.objInit hx hb hown (hts (.methodLink RX7 1 objectInit) (List.mem_of_getElem? (i := 1) rfl)) (hts (.instanceMethod objectInit) (List.mem_of_getElem? (i := 2) rfl)) (hts _ (List.mem_of_getElem? (i := 3) rfl)) rfl (by rw [hml]; exact hl.1) rfl dX7_init_1 (Nat.le_of_ble_eq_true rfl) (Nat.le_of_ble_eq_true rfl) ?_
  refine W.eq (g2 := F0 m 4 ls []) rfl ?_
  exact b_vretI (ws := [(h0, .inr (ci, []))]) hx hb hr rfl hP hD hS dX7_init_4 hlocks
set_option maxHeartbeats 2000000 in
set_option maxRecDepth 100000 in
theorem i_X3 (l : Launch) (D : va_G) (cI cZ cT : ClassId) (h0 sz : Nat) (ci : Nat) : Met l yX3_init wsX3_init ({ frames := 2, cells := 0, slots := 0, locals := 32 }) (pI D cI cZ cT [.ref h0] [(h0, .inr (ci, []))] sz) (qI D (fun w => w = [(h0, .inr (ci, []))]) (va_A [(h0, .inr (ci, []))] sz)) 0 0 (va_A [(h0, .inr (ci, []))] sz) := by
  refine Met.ofW (cc := cX3_init) (maxL := 1) (ret := none) (by decide) rfl ?_
  intro p e s m args below meth c s₁ B hml hv
  obtain ⟨rfl, hsz, hP, hD0, hK⟩ := hv
  have hx := B.exec
  have hb := B.bytes
  have hr := B.returns
  have hts := atoms_spec (ws := wsX3_init) B.pre
  have hown : s.vm.findClass RX3 = some m.cls := findClass_of_methodNamed B.named
  have hlocks := B.notSynchronized
  have hin : meth.name = "<init>" := (name_of_methodNamed B.named B.method).1
  subst hsz
  have hD := hD0.self (sz := s.heap.size)
  generalize hAe : va_A [(h0, .inr (ci, []))] s.heap.size = A at hD ⊢
  have hA : ∀ q : Nat, s.heap.size ≤ q → A q := fun q h => by rw [← hAe]; exact Or.inr h
  have hS : va_S A s.heap s.heap [] := va_S.rf
  have hl := lv_entry ([.ref h0]) (n := 1) (Nat.le_of_ble_eq_true rfl)
  rw [lg_entry_eq]
  generalize (lg_sl ([.ref h0]) ++ List.replicate (1 - (lg_sl ([.ref h0])).length) Slot.unset).toArray = ls at hl ⊢
  have hl : lv_has ls 1 [(0, .ref h0)] := hl
  refine lv_aload_n hx hb dX3_init_0 rfl (lv_at hl 0 rfl) ?_
  refine b_callI (wr := ([] : va_W)) (wc := [(h0, .inr (ci, []))]) (va_runIN (As := []) (rest := []) ⟨hx, hb, hml, hown, hts⟩ (i_X7 l D cI cZ cT h0 _ ci) ⟨va_cnB (host := RX11) 0 hts gX3_init_X7_init_n1 rfl rfl rfl (hK.2.1 _ (List.mem_of_getElem? (i := 4) rfl)) (hts (.initialized RX7) (List.mem_of_getElem? (i := 2) rfl)) (by decide +kernel) ⟨(Nat.le_of_ble_eq_true rfl), (Nat.le_of_ble_eq_true rfl)⟩, rfl, hts (.instanceMethod yX7_init) (List.mem_of_getElem? (i := 1) rfl)⟩ (b_pI (wr := ([] : va_W)) (wc := [(h0, .inr (ci, []))]) hK hP hD) rfl rfl hl.1 rfl (lv_room (Nat.le_of_ble_eq_true rfl)) dX3_init_1 ⟨(Nat.le_of_ble_eq_true rfl), (Nat.le_of_ble_eq_true rfl)⟩).run hP hD hS hA (fun wc9 H locs hw9 hP hD hS => ?_)
  subst hw9
  have hP : va_P D vwCl ([(h0, .inr (ci, []))]) H := hP
  have hD : va_D A ([(h0, .inr (ci, []))]) := hD
  refine W.widen (k := 0) (n := 0) (by omega) (by omega) ?_
  exact b_vretI (ws := [(h0, .inr (ci, []))]) hx hb hr rfl hP hD hS dX3_init_4 hlocks
set_option maxHeartbeats 2000000 in
set_option maxRecDepth 100000 in
theorem i_X10 (l : Launch) (D : va_G) (cI cZ cT : ClassId) (h0 sz : Nat) (ci : Nat) : Met l yX10_init wsX10_init ({ frames := 3, cells := 0, slots := 0, locals := 52 }) (pI D cI cZ cT [.ref h0] [(h0, .inr (ci, []))] sz) (qI D (fun w => w = [(h0, .inr (ci, []))]) (va_A [(h0, .inr (ci, []))] sz)) 0 0 (va_A [(h0, .inr (ci, []))] sz) := by
  refine Met.ofW (cc := cX10_init) (maxL := 1) (ret := none) (by decide) rfl ?_
  intro p e s m args below meth c s₁ B hml hv
  obtain ⟨rfl, hsz, hP, hD0, hK⟩ := hv
  have hx := B.exec
  have hb := B.bytes
  have hr := B.returns
  have hts := atoms_spec (ws := wsX10_init) B.pre
  have hown : s.vm.findClass RX10 = some m.cls := findClass_of_methodNamed B.named
  have hlocks := B.notSynchronized
  have hin : meth.name = "<init>" := (name_of_methodNamed B.named B.method).1
  subst hsz
  have hD := hD0.self (sz := s.heap.size)
  generalize hAe : va_A [(h0, .inr (ci, []))] s.heap.size = A at hD ⊢
  have hA : ∀ q : Nat, s.heap.size ≤ q → A q := fun q h => by rw [← hAe]; exact Or.inr h
  have hS : va_S A s.heap s.heap [] := va_S.rf
  have hl := lv_entry ([.ref h0]) (n := 1) (Nat.le_of_ble_eq_true rfl)
  rw [lg_entry_eq]
  generalize (lg_sl ([.ref h0]) ++ List.replicate (1 - (lg_sl ([.ref h0])).length) Slot.unset).toArray = ls at hl ⊢
  have hl : lv_has ls 1 [(0, .ref h0)] := hl
  refine lv_aload_n hx hb dX10_init_0 rfl (lv_at hl 0 rfl) ?_
  refine b_callI (wr := ([] : va_W)) (wc := [(h0, .inr (ci, []))]) (va_runIN (As := []) (rest := []) ⟨hx, hb, hml, hown, hts⟩ (i_X3 l D cI cZ cT h0 _ ci) ⟨va_cnB (host := RX11) 0 hts gX10_init_X3_init_n1 rfl rfl rfl (hK.2.1 _ (List.mem_of_getElem? (i := 6) rfl)) (hts (.initialized RX3) (List.mem_of_getElem? (i := 2) rfl)) (by decide +kernel) ⟨(Nat.le_of_ble_eq_true rfl), (Nat.le_of_ble_eq_true rfl)⟩, rfl, hts (.instanceMethod yX3_init) (List.mem_of_getElem? (i := 1) rfl)⟩ (b_pI (wr := ([] : va_W)) (wc := [(h0, .inr (ci, []))]) hK hP hD) rfl rfl hl.1 rfl (lv_room (Nat.le_of_ble_eq_true rfl)) dX10_init_1 ⟨(Nat.le_of_ble_eq_true rfl), (Nat.le_of_ble_eq_true rfl)⟩).run hP hD hS hA (fun wc9 H locs hw9 hP hD hS => ?_)
  subst hw9
  have hP : va_P D vwCl ([(h0, .inr (ci, []))]) H := hP
  have hD : va_D A ([(h0, .inr (ci, []))]) := hD
  refine W.widen (k := 0) (n := 0) (by omega) (by omega) ?_
  exact b_vretI (ws := [(h0, .inr (ci, []))]) hx hb hr rfl hP hD hS dX10_init_4 hlocks
set_option maxHeartbeats 2000000 in
set_option maxRecDepth 100000 in
theorem i_X5 (l : Launch) (D : va_G) (cI cZ cT : ClassId) (h0 sz : Nat) (ci : Nat) : Met l yX5_init wsX5_init ({ frames := 3, cells := 0, slots := 0, locals := 52 }) (pI D cI cZ cT [.ref h0] [(h0, .inr (ci, []))] sz) (qI D (fun w => w = [(h0, .inr (ci, []))]) (va_A [(h0, .inr (ci, []))] sz)) 0 0 (va_A [(h0, .inr (ci, []))] sz) := by
  refine Met.ofW (cc := cX5_init) (maxL := 1) (ret := none) (by decide) rfl ?_
  intro p e s m args below meth c s₁ B hml hv
  obtain ⟨rfl, hsz, hP, hD0, hK⟩ := hv
  have hx := B.exec
  have hb := B.bytes
  have hr := B.returns
  have hts := atoms_spec (ws := wsX5_init) B.pre
  have hown : s.vm.findClass RX5 = some m.cls := findClass_of_methodNamed B.named
  have hlocks := B.notSynchronized
  have hin : meth.name = "<init>" := (name_of_methodNamed B.named B.method).1
  subst hsz
  have hD := hD0.self (sz := s.heap.size)
  generalize hAe : va_A [(h0, .inr (ci, []))] s.heap.size = A at hD ⊢
  have hA : ∀ q : Nat, s.heap.size ≤ q → A q := fun q h => by rw [← hAe]; exact Or.inr h
  have hS : va_S A s.heap s.heap [] := va_S.rf
  have hl := lv_entry ([.ref h0]) (n := 1) (Nat.le_of_ble_eq_true rfl)
  rw [lg_entry_eq]
  generalize (lg_sl ([.ref h0]) ++ List.replicate (1 - (lg_sl ([.ref h0])).length) Slot.unset).toArray = ls at hl ⊢
  have hl : lv_has ls 1 [(0, .ref h0)] := hl
  refine lv_aload_n hx hb dX5_init_0 rfl (lv_at hl 0 rfl) ?_
  refine b_callI (wr := ([] : va_W)) (wc := [(h0, .inr (ci, []))]) (va_runIN (As := []) (rest := []) ⟨hx, hb, hml, hown, hts⟩ (i_X3 l D cI cZ cT h0 _ ci) ⟨va_cnB (host := RX11) 0 hts gX5_init_X3_init_n1 rfl rfl rfl (hK.2.1 _ (List.mem_of_getElem? (i := 8) rfl)) (hts (.initialized RX3) (List.mem_of_getElem? (i := 2) rfl)) (by decide +kernel) ⟨(Nat.le_of_ble_eq_true rfl), (Nat.le_of_ble_eq_true rfl)⟩, rfl, hts (.instanceMethod yX3_init) (List.mem_of_getElem? (i := 1) rfl)⟩ (b_pI (wr := ([] : va_W)) (wc := [(h0, .inr (ci, []))]) hK hP hD) rfl rfl hl.1 rfl (lv_room (Nat.le_of_ble_eq_true rfl)) dX5_init_1 ⟨(Nat.le_of_ble_eq_true rfl), (Nat.le_of_ble_eq_true rfl)⟩).run hP hD hS hA (fun wc9 H locs hw9 hP hD hS => ?_)
  subst hw9
  have hP : va_P D vwCl ([(h0, .inr (ci, []))]) H := hP
  have hD : va_D A ([(h0, .inr (ci, []))]) := hD
  refine W.widen (k := 0) (n := 0) (by omega) (by omega) ?_
  exact b_vretI (ws := [(h0, .inr (ci, []))]) hx hb hr rfl hP hD hS dX5_init_4 hlocks
set_option maxHeartbeats 2000000 in
set_option maxRecDepth 100000 in
theorem i_X1 (l : Launch) (D : va_G) (cI cZ cT : ClassId) (h0 sz : Nat) (ci : Nat) : Met l yX1_init wsX1_init ({ frames := 2, cells := 0, slots := 0, locals := 32 }) (pI D cI cZ cT [.ref h0] [(h0, .inr (ci, []))] sz) (qI D (fun w => w = [(h0, .inr (ci, []))]) (va_A [(h0, .inr (ci, []))] sz)) 0 0 (va_A [(h0, .inr (ci, []))] sz) := by
  refine Met.ofW (cc := cX1_init) (maxL := 1) (ret := none) (by decide) rfl ?_
  intro p e s m args below meth c s₁ B hml hv
  obtain ⟨rfl, hsz, hP, hD0, hK⟩ := hv
  have hx := B.exec
  have hb := B.bytes
  have hr := B.returns
  have hts := atoms_spec (ws := wsX1_init) B.pre
  have hown : s.vm.findClass RX1 = some m.cls := findClass_of_methodNamed B.named
  have hlocks := B.notSynchronized
  have hin : meth.name = "<init>" := (name_of_methodNamed B.named B.method).1
  subst hsz
  have hD := hD0.self (sz := s.heap.size)
  generalize hAe : va_A [(h0, .inr (ci, []))] s.heap.size = A at hD ⊢
  have hA : ∀ q : Nat, s.heap.size ≤ q → A q := fun q h => by rw [← hAe]; exact Or.inr h
  have hS : va_S A s.heap s.heap [] := va_S.rf
  have hl := lv_entry ([.ref h0]) (n := 1) (Nat.le_of_ble_eq_true rfl)
  rw [lg_entry_eq]
  generalize (lg_sl ([.ref h0]) ++ List.replicate (1 - (lg_sl ([.ref h0])).length) Slot.unset).toArray = ls at hl ⊢
  have hl : lv_has ls 1 [(0, .ref h0)] := hl
  refine lv_aload_n hx hb dX1_init_0 rfl (lv_at hl 0 rfl) ?_
  refine b_callI (wr := ([] : va_W)) (wc := [(h0, .inr (ci, []))]) (va_runIN (As := []) (rest := []) ⟨hx, hb, hml, hown, hts⟩ (i_X7 l D cI cZ cT h0 _ ci) ⟨va_cnB (host := RX11) 0 hts gX1_init_X7_init_n3 rfl rfl rfl (hK.2.1 _ (List.mem_of_getElem? (i := 10) rfl)) (hts (.initialized RX7) (List.mem_of_getElem? (i := 2) rfl)) (by decide +kernel) ⟨(Nat.le_of_ble_eq_true rfl), (Nat.le_of_ble_eq_true rfl)⟩, rfl, hts (.instanceMethod yX7_init) (List.mem_of_getElem? (i := 1) rfl)⟩ (b_pI (wr := ([] : va_W)) (wc := [(h0, .inr (ci, []))]) hK hP hD) rfl rfl hl.1 rfl (lv_room (Nat.le_of_ble_eq_true rfl)) dX1_init_1 ⟨(Nat.le_of_ble_eq_true rfl), (Nat.le_of_ble_eq_true rfl)⟩).run hP hD hS hA (fun wc9 H locs hw9 hP hD hS => ?_)
  subst hw9
  have hP : va_P D vwCl ([(h0, .inr (ci, []))]) H := hP
  have hD : va_D A ([(h0, .inr (ci, []))]) := hD
  refine W.widen (k := 0) (n := 0) (by omega) (by omega) ?_
  exact b_vretI (ws := [(h0, .inr (ci, []))]) hx hb hr rfl hP hD hS dX1_init_4 hlocks
set_option maxHeartbeats 2000000 in
set_option maxRecDepth 100000 in
theorem i_X0 (l : Launch) (D : va_G) (cI cZ cT : ClassId) (h0 sz : Nat) (ci : Nat) : Met l yX0_init wsX0_init ({ frames := 3, cells := 0, slots := 0, locals := 52 }) (pI D cI cZ cT [.ref h0] [(h0, .inr (ci, []))] sz) (qI D (fun w => w = [(h0, .inr (ci, []))]) (va_A [(h0, .inr (ci, []))] sz)) 0 0 (va_A [(h0, .inr (ci, []))] sz) := by
  refine Met.ofW (cc := cX0_init) (maxL := 1) (ret := none) (by decide) rfl ?_
  intro p e s m args below meth c s₁ B hml hv
  obtain ⟨rfl, hsz, hP, hD0, hK⟩ := hv
  have hx := B.exec
  have hb := B.bytes
  have hr := B.returns
  have hts := atoms_spec (ws := wsX0_init) B.pre
  have hown : s.vm.findClass RX0 = some m.cls := findClass_of_methodNamed B.named
  have hlocks := B.notSynchronized
  have hin : meth.name = "<init>" := (name_of_methodNamed B.named B.method).1
  subst hsz
  have hD := hD0.self (sz := s.heap.size)
  generalize hAe : va_A [(h0, .inr (ci, []))] s.heap.size = A at hD ⊢
  have hA : ∀ q : Nat, s.heap.size ≤ q → A q := fun q h => by rw [← hAe]; exact Or.inr h
  have hS : va_S A s.heap s.heap [] := va_S.rf
  have hl := lv_entry ([.ref h0]) (n := 1) (Nat.le_of_ble_eq_true rfl)
  rw [lg_entry_eq]
  generalize (lg_sl ([.ref h0]) ++ List.replicate (1 - (lg_sl ([.ref h0])).length) Slot.unset).toArray = ls at hl ⊢
  have hl : lv_has ls 1 [(0, .ref h0)] := hl
  refine lv_aload_n hx hb dX0_init_0 rfl (lv_at hl 0 rfl) ?_
  refine b_callI (wr := ([] : va_W)) (wc := [(h0, .inr (ci, []))]) (va_runIN (As := []) (rest := []) ⟨hx, hb, hml, hown, hts⟩ (i_X1 l D cI cZ cT h0 _ ci) ⟨va_cnB (host := RX11) 0 hts gX0_init_X1_init_n1 rfl rfl rfl (hK.2.1 _ (List.mem_of_getElem? (i := 12) rfl)) (hts (.initialized RX1) (List.mem_of_getElem? (i := 2) rfl)) (by decide +kernel) ⟨(Nat.le_of_ble_eq_true rfl), (Nat.le_of_ble_eq_true rfl)⟩, rfl, hts (.instanceMethod yX1_init) (List.mem_of_getElem? (i := 1) rfl)⟩ (b_pI (wr := ([] : va_W)) (wc := [(h0, .inr (ci, []))]) hK hP hD) rfl rfl hl.1 rfl (lv_room (Nat.le_of_ble_eq_true rfl)) dX0_init_1 ⟨(Nat.le_of_ble_eq_true rfl), (Nat.le_of_ble_eq_true rfl)⟩).run hP hD hS hA (fun wc9 H locs hw9 hP hD hS => ?_)
  subst hw9
  have hP : va_P D vwCl ([(h0, .inr (ci, []))]) H := hP
  have hD : va_D A ([(h0, .inr (ci, []))]) := hD
  refine W.widen (k := 0) (n := 0) (by omega) (by omega) ?_
  exact b_vretI (ws := [(h0, .inr (ci, []))]) hx hb hr rfl hP hD hS dX0_init_4 hlocks
theorem u_X6_init_X6 : ∀ w ∈ wsX60, w ∈ wsX6_init := fun _ h => List.mem_cons_of_mem _ (List.mem_append_right _ h)
set_option maxHeartbeats 2000000 in
set_option maxRecDepth 100000 in
theorem i_X6 (l : Launch) (D : va_G) (cI cZ cT : ClassId) (h0 sz : Nat) : Met l yX6_init wsX6_init ({ frames := 1, cells := 1, slots := 120, locals := 12 }) (pI D cI cZ cT [.ref h0] [(h0, .inr (6, [.null, .int 0, .int 0, .int 0, .int 0]))] sz) (qI D (fun w => ∃ a : Nat → Nat, a 0 = h0 ∧ w = wTape cI a 0 0 0 0 zf) (va_A [(h0, .inr (6, [.null, .int 0, .int 0, .int 0, .int 0]))] sz)) 1 120 (va_A [(h0, .inr (6, [.null, .int 0, .int 0, .int 0, .int 0]))] sz) := by
  refine Met.ofW (cc := cX6_init) (maxL := 1) (ret := none) (by decide) rfl ?_
  intro p e s m args below meth c s₁ B hml hv
  obtain ⟨rfl, hsz, hP, hD0, hK⟩ := hv
  have hx := B.exec
  have hb := B.bytes
  have hr := B.returns
  have hts := atoms_spec (ws := wsX6_init) B.pre
  have hown : s.vm.findClass RX6 = some m.cls := findClass_of_methodNamed B.named
  have hlocks := B.notSynchronized
  have hin : meth.name = "<init>" := (name_of_methodNamed B.named B.method).1
  subst hsz
  have hD := hD0.self (sz := s.heap.size)
  generalize hAe : va_A [(h0, .inr (6, [.null, .int 0, .int 0, .int 0, .int 0]))] s.heap.size = A at hD ⊢
  have hA : ∀ q : Nat, s.heap.size ≤ q → A q := fun q h => by rw [← hAe]; exact Or.inr h
  have hS : va_S A s.heap s.heap [] := va_S.rf
  have hl := lv_entry ([.ref h0]) (n := 1) (Nat.le_of_ble_eq_true rfl)
  rw [lg_entry_eq]
  generalize (lg_sl ([.ref h0]) ++ List.replicate (1 - (lg_sl ([.ref h0])).length) Slot.unset).toArray = ls at hl ⊢
  have hl : lv_has ls 1 [(0, .ref h0)] := hl
  refine lv_aload_n hx hb dX6_init_0 rfl (lv_at hl 0 rfl) ?_
  refine W.objInit hx hb hown (hts (.methodLink RX6 3 objectInit) (List.mem_of_getElem? (i := 1) rfl)) (hts (.instanceMethod objectInit) (List.mem_of_getElem? (i := 2) rfl)) (hts _ (List.mem_of_getElem? (i := 3) rfl)) rfl (by rw [hml]; exact hl.1) rfl dX6_init_1 (Nat.le_of_ble_eq_true rfl) (Nat.le_of_ble_eq_true rfl) ?_
  refine W.eq (g2 := F0 m 4 ls []) rfl ?_
  refine lv_aload_n hx hb dX6_init_4 rfl (lv_at hl 0 rfl) ?_
  refine lv_bipush (v := (nI 120)) hx hb dX6_init_5 (by decide) ?_
  refine b_newI (N := 120) hx hb (hts (.arrayClass .int) (List.mem_of_getElem? (i := 4) rfl)) hK hP hD hS hA (by decide) (by decide) (Nat.le_of_ble_eq_true rfl) (Nat.le_of_ble_eq_true rfl) dX6_init_7 (fun q7 H hP hD hS => ?_)
  have hP : va_P D vwCl ([(h0, .inr (6, [.null, .int 0, .int 0, .int 0, .int 0]))] ++ [(q7, .inl (cI, 120, .inl zf))]) H := hP
  have hD : va_D A ([(h0, .inr (6, [.null, .int 0, .int 0, .int 0, .int 0]))] ++ [(q7, .inl (cI, 120, .inl zf))]) := hD
  refine W.widen (k := 1) (n := 120) (by omega) (by omega) ?_
  refine va_putF (D := D) (ci := 6) (v := .ref q7) (ty := tyX6 0) (C := RX6) (T := TX6) (N := 5) hx hb hts u_X6_init_X6 tyX6 tyX6_ok nmX6 hown hK.1 hP hD hS 0 rfl rfl 0 (by decide) (hts (.fieldLink RX6 11 "NoticeWeek$Tape" "bytes" "[I") (List.mem_of_getElem? (i := 5) rfl)) (fun _ h9 => h9) rfl hin rfl (tyX6_ok 0 (by decide)) rfl rfl (Nat.le_of_ble_eq_true rfl) dX6_init_9 (fun H locs hP hD hS => ?_)
  have hP : va_P D vwCl ([(h0, .inr (6, [.ref q7, .int 0, .int 0, .int 0, .int 0]))] ++ [(q7, .inl (cI, 120, .inl zf))]) H := hP
  have hD : va_D A ([(h0, .inr (6, [.ref q7, .int 0, .int 0, .int 0, .int 0]))] ++ [(q7, .inl (cI, 120, .inl zf))]) := hD
  refine lv_aload_n hx hb dX6_init_12 rfl (lv_at hl 0 rfl) ?_
  refine lv_iconst (v := 0) hx hb dX6_init_13 (by decide) ?_
  refine va_put (D := D) (ci := 6) (v := .int 0) (ty := tyX6 1) (C := RX6) (T := TX6) (N := 5) hx hb hts u_X6_init_X6 tyX6 tyX6_ok nmX6 hown hK.1 hP hD hS 0 rfl rfl 1 (by decide) (hts (.fieldLink RX6 15 "NoticeWeek$Tape" "length" "I") (List.mem_of_getElem? (i := 6) rfl)) (fun _ h9 => h9) rfl (tyX6_ok 1 (by decide)) rfl rfl (Nat.le_of_ble_eq_true rfl) dX6_init_14 (fun H locs hP hD hS => ?_)
  have hP : va_P D vwCl ([(h0, .inr (6, [.ref q7, .int 0, .int 0, .int 0, .int 0]))] ++ [(q7, .inl (cI, 120, .inl zf))]) H := hP
  have hD : va_D A ([(h0, .inr (6, [.ref q7, .int 0, .int 0, .int 0, .int 0]))] ++ [(q7, .inl (cI, 120, .inl zf))]) := hD
  refine lv_aload_n hx hb dX6_init_17 rfl (lv_at hl 0 rfl) ?_
  refine lv_iconst (v := 0) hx hb dX6_init_18 (by decide) ?_
  refine va_put (D := D) (ci := 6) (v := .int 0) (ty := tyX6 2) (C := RX6) (T := TX6) (N := 5) hx hb hts u_X6_init_X6 tyX6 tyX6_ok nmX6 hown hK.1 hP hD hS 0 rfl rfl 2 (by decide) (hts (.fieldLink RX6 19 "NoticeWeek$Tape" "latestFault" "I") (List.mem_of_getElem? (i := 7) rfl)) (fun _ h9 => h9) rfl (tyX6_ok 2 (by decide)) rfl rfl (Nat.le_of_ble_eq_true rfl) dX6_init_19 (fun H locs hP hD hS => ?_)
  have hP : va_P D vwCl ([(h0, .inr (6, [.ref q7, .int 0, .int 0, .int 0, .int 0]))] ++ [(q7, .inl (cI, 120, .inl zf))]) H := hP
  have hD : va_D A ([(h0, .inr (6, [.ref q7, .int 0, .int 0, .int 0, .int 0]))] ++ [(q7, .inl (cI, 120, .inl zf))]) := hD
  refine lv_aload_n hx hb dX6_init_22 rfl (lv_at hl 0 rfl) ?_
  refine lv_iconst (v := 0) hx hb dX6_init_23 (by decide) ?_
  refine va_put (D := D) (ci := 6) (v := .int 0) (ty := tyX6 3) (C := RX6) (T := TX6) (N := 5) hx hb hts u_X6_init_X6 tyX6 tyX6_ok nmX6 hown hK.1 hP hD hS 0 rfl rfl 3 (by decide) (hts (.fieldLink RX6 22 "NoticeWeek$Tape" "at" "I") (List.mem_of_getElem? (i := 8) rfl)) (fun _ h9 => h9) rfl (tyX6_ok 3 (by decide)) rfl rfl (Nat.le_of_ble_eq_true rfl) dX6_init_24 (fun H locs hP hD hS => ?_)
  have hP : va_P D vwCl ([(h0, .inr (6, [.ref q7, .int 0, .int 0, .int 0, .int 0]))] ++ [(q7, .inl (cI, 120, .inl zf))]) H := hP
  have hD : va_D A ([(h0, .inr (6, [.ref q7, .int 0, .int 0, .int 0, .int 0]))] ++ [(q7, .inl (cI, 120, .inl zf))]) := hD
  refine lv_aload_n hx hb dX6_init_27 rfl (lv_at hl 0 rfl) ?_
  refine lv_iconst (v := 0) hx hb dX6_init_28 (by decide) ?_
  refine va_put (D := D) (ci := 6) (v := .int 0) (ty := tyX6 4) (C := RX6) (T := TX6) (N := 5) hx hb hts u_X6_init_X6 tyX6 tyX6_ok nmX6 hown hK.1 hP hD hS 0 rfl rfl 4 (by decide) (hts (.fieldLink RX6 25 "NoticeWeek$Tape" "flaw" "I") (List.mem_of_getElem? (i := 9) rfl)) (fun _ h9 => h9) rfl (tyX6_ok 4 (by decide)) rfl rfl (Nat.le_of_ble_eq_true rfl) dX6_init_29 (fun H locs hP hD hS => ?_)
  have hP : va_P D vwCl ([(h0, .inr (6, [.ref q7, .int 0, .int 0, .int 0, .int 0]))] ++ [(q7, .inl (cI, 120, .inl zf))]) H := hP
  have hD : va_D A ([(h0, .inr (6, [.ref q7, .int 0, .int 0, .int 0, .int 0]))] ++ [(q7, .inl (cI, 120, .inl zf))]) := hD
  exact b_vretI (ws := [(h0, .inr (6, [.ref q7, .int 0, .int 0, .int 0, .int 0]))] ++ [(q7, .inl (cI, 120, .inl zf))]) hx hb hr ⟨(fun k => [h0, q7].getD k 0), rfl, rfl⟩ hP hD hS dX6_init_32 hlocks
theorem u_X8_init_X8 : ∀ w ∈ wsX80, w ∈ wsX8_init := fun _ h => List.mem_cons_of_mem _ (List.mem_append_right _ h)
set_option maxHeartbeats 2000000 in
set_option maxRecDepth 100000 in
theorem i_X8 (l : Launch) (D : va_G) (cI cZ cT : ClassId) (h0 sz : Nat) : Met l yX8_init wsX8_init ({ frames := 1, cells := 4, slots := 24, locals := 12 }) (pI D cI cZ cT [.ref h0] [(h0, .inr (7, [.int 0, .int 0, .int 0, .int 0, .null, .null, .null, .null]))] sz) (qI D (fun w => ∃ a : Nat → Nat, a 0 = h0 ∧ w = wTown cI a 0 0 0 0 zf zf zf zf) (va_A [(h0, .inr (7, [.int 0, .int 0, .int 0, .int 0, .null, .null, .null, .null]))] sz)) 4 24 (va_A [(h0, .inr (7, [.int 0, .int 0, .int 0, .int 0, .null, .null, .null, .null]))] sz) := by
  refine Met.ofW (cc := cX8_init) (maxL := 1) (ret := none) (by decide) rfl ?_
  intro p e s m args below meth c s₁ B hml hv
  obtain ⟨rfl, hsz, hP, hD0, hK⟩ := hv
  have hx := B.exec
  have hb := B.bytes
  have hr := B.returns
  have hts := atoms_spec (ws := wsX8_init) B.pre
  have hown : s.vm.findClass RX8 = some m.cls := findClass_of_methodNamed B.named
  have hlocks := B.notSynchronized
  have hin : meth.name = "<init>" := (name_of_methodNamed B.named B.method).1
  subst hsz
  have hD := hD0.self (sz := s.heap.size)
  generalize hAe : va_A [(h0, .inr (7, [.int 0, .int 0, .int 0, .int 0, .null, .null, .null, .null]))] s.heap.size = A at hD ⊢
  have hA : ∀ q : Nat, s.heap.size ≤ q → A q := fun q h => by rw [← hAe]; exact Or.inr h
  have hS : va_S A s.heap s.heap [] := va_S.rf
  have hl := lv_entry ([.ref h0]) (n := 1) (Nat.le_of_ble_eq_true rfl)
  rw [lg_entry_eq]
  generalize (lg_sl ([.ref h0]) ++ List.replicate (1 - (lg_sl ([.ref h0])).length) Slot.unset).toArray = ls at hl ⊢
  have hl : lv_has ls 1 [(0, .ref h0)] := hl
  refine lv_aload_n hx hb dX8_init_0 rfl (lv_at hl 0 rfl) ?_
  refine W.objInit hx hb hown (hts (.methodLink RX8 3 objectInit) (List.mem_of_getElem? (i := 1) rfl)) (hts (.instanceMethod objectInit) (List.mem_of_getElem? (i := 2) rfl)) (hts _ (List.mem_of_getElem? (i := 3) rfl)) rfl (by rw [hml]; exact hl.1) rfl dX8_init_1 (Nat.le_of_ble_eq_true rfl) (Nat.le_of_ble_eq_true rfl) ?_
  refine W.eq (g2 := F0 m 4 ls []) rfl ?_
  refine lv_aload_n hx hb dX8_init_4 rfl (lv_at hl 0 rfl) ?_
  refine lv_iconst (v := 0) hx hb dX8_init_5 (by decide) ?_
  refine va_put (D := D) (ci := 7) (v := .int 0) (ty := tyX8 0) (C := RX8) (T := TX8) (N := 8) hx hb hts u_X8_init_X8 tyX8 tyX8_ok nmX8 hown hK.1 hP hD hS 0 rfl rfl 0 (by decide) (hts (.fieldLink RX8 9 "NoticeWeek$Town" "stands" "Z") (List.mem_of_getElem? (i := 4) rfl)) (fun _ h9 => h9) rfl (tyX8_ok 0 (by decide)) rfl rfl (Nat.le_of_ble_eq_true rfl) dX8_init_6 (fun H locs hP hD hS => ?_)
  have hP : va_P D vwCl ([(h0, .inr (7, [.int 0, .int 0, .int 0, .int 0, .null, .null, .null, .null]))]) H := hP
  have hD : va_D A ([(h0, .inr (7, [.int 0, .int 0, .int 0, .int 0, .null, .null, .null, .null]))]) := hD
  refine lv_aload_n hx hb dX8_init_9 rfl (lv_at hl 0 rfl) ?_
  refine lv_iconst (v := 0) hx hb dX8_init_10 (by decide) ?_
  refine va_put (D := D) (ci := 7) (v := .int 0) (ty := tyX8 1) (C := RX8) (T := TX8) (N := 8) hx hb hts u_X8_init_X8 tyX8 tyX8_ok nmX8 hown hK.1 hP hD hS 0 rfl rfl 1 (by decide) (hts (.fieldLink RX8 15 "NoticeWeek$Town" "day" "I") (List.mem_of_getElem? (i := 5) rfl)) (fun _ h9 => h9) rfl (tyX8_ok 1 (by decide)) rfl rfl (Nat.le_of_ble_eq_true rfl) dX8_init_11 (fun H locs hP hD hS => ?_)
  have hP : va_P D vwCl ([(h0, .inr (7, [.int 0, .int 0, .int 0, .int 0, .null, .null, .null, .null]))]) H := hP
  have hD : va_D A ([(h0, .inr (7, [.int 0, .int 0, .int 0, .int 0, .null, .null, .null, .null]))]) := hD
  refine lv_aload_n hx hb dX8_init_14 rfl (lv_at hl 0 rfl) ?_
  refine lv_iconst (v := 0) hx hb dX8_init_15 (by decide) ?_
  refine va_put (D := D) (ci := 7) (v := .int 0) (ty := tyX8 2) (C := RX8) (T := TX8) (N := 8) hx hb hts u_X8_init_X8 tyX8 tyX8_ok nmX8 hown hK.1 hP hD hS 0 rfl rfl 2 (by decide) (hts (.fieldLink RX8 19 "NoticeWeek$Town" "lines" "I") (List.mem_of_getElem? (i := 6) rfl)) (fun _ h9 => h9) rfl (tyX8_ok 2 (by decide)) rfl rfl (Nat.le_of_ble_eq_true rfl) dX8_init_16 (fun H locs hP hD hS => ?_)
  have hP : va_P D vwCl ([(h0, .inr (7, [.int 0, .int 0, .int 0, .int 0, .null, .null, .null, .null]))]) H := hP
  have hD : va_D A ([(h0, .inr (7, [.int 0, .int 0, .int 0, .int 0, .null, .null, .null, .null]))]) := hD
  refine lv_aload_n hx hb dX8_init_19 rfl (lv_at hl 0 rfl) ?_
  refine lv_iconst (v := 0) hx hb dX8_init_20 (by decide) ?_
  refine va_put (D := D) (ci := 7) (v := .int 0) (ty := tyX8 3) (C := RX8) (T := TX8) (N := 8) hx hb hts u_X8_init_X8 tyX8 tyX8_ok nmX8 hown hK.1 hP hD hS 0 rfl rfl 3 (by decide) (hts (.fieldLink RX8 22 "NoticeWeek$Town" "readers" "I") (List.mem_of_getElem? (i := 7) rfl)) (fun _ h9 => h9) rfl (tyX8_ok 3 (by decide)) rfl rfl (Nat.le_of_ble_eq_true rfl) dX8_init_21 (fun H locs hP hD hS => ?_)
  have hP : va_P D vwCl ([(h0, .inr (7, [.int 0, .int 0, .int 0, .int 0, .null, .null, .null, .null]))]) H := hP
  have hD : va_D A ([(h0, .inr (7, [.int 0, .int 0, .int 0, .int 0, .null, .null, .null, .null]))]) := hD
  refine lv_aload_n hx hb dX8_init_24 rfl (lv_at hl 0 rfl) ?_
  refine lv_bipush (v := (nI 6)) hx hb dX8_init_25 (by decide) ?_
  refine b_newI (N := 6) hx hb (hts (.arrayClass .int) (List.mem_of_getElem? (i := 8) rfl)) hK hP hD hS hA (by decide) (by decide) (Nat.le_of_ble_eq_true rfl) (Nat.le_of_ble_eq_true rfl) dX8_init_27 (fun q27 H hP hD hS => ?_)
  have hP : va_P D vwCl ([(h0, .inr (7, [.int 0, .int 0, .int 0, .int 0, .null, .null, .null, .null]))] ++ [(q27, .inl (cI, 6, .inl zf))]) H := hP
  have hD : va_D A ([(h0, .inr (7, [.int 0, .int 0, .int 0, .int 0, .null, .null, .null, .null]))] ++ [(q27, .inl (cI, 6, .inl zf))]) := hD
  refine W.widen (k := 1) (n := 6) (by omega) (by omega) ?_
  refine va_putF (D := D) (ci := 7) (v := .ref q27) (ty := tyX8 4) (C := RX8) (T := TX8) (N := 8) hx hb hts u_X8_init_X8 tyX8 tyX8_ok nmX8 hown hK.1 hP hD hS 0 rfl rfl 4 (by decide) (hts (.fieldLink RX8 25 "NoticeWeek$Town" "kind" "[I") (List.mem_of_getElem? (i := 9) rfl)) (fun _ h9 => h9) rfl hin rfl (tyX8_ok 4 (by decide)) rfl rfl (Nat.le_of_ble_eq_true rfl) dX8_init_29 (fun H locs hP hD hS => ?_)
  have hP : va_P D vwCl ([(h0, .inr (7, [.int 0, .int 0, .int 0, .int 0, .ref q27, .null, .null, .null]))] ++ [(q27, .inl (cI, 6, .inl zf))]) H := hP
  have hD : va_D A ([(h0, .inr (7, [.int 0, .int 0, .int 0, .int 0, .ref q27, .null, .null, .null]))] ++ [(q27, .inl (cI, 6, .inl zf))]) := hD
  refine lv_aload_n hx hb dX8_init_32 rfl (lv_at hl 0 rfl) ?_
  refine lv_bipush (v := (nI 6)) hx hb dX8_init_33 (by decide) ?_
  refine b_newI (N := 6) hx hb (hts (.arrayClass .int) (List.mem_of_getElem? (i := 8) rfl)) hK hP hD hS hA (by decide) (by decide) (Nat.le_of_ble_eq_true rfl) (Nat.le_of_ble_eq_true rfl) dX8_init_35 (fun q35 H hP hD hS => ?_)
  have hP : va_P D vwCl ([(h0, .inr (7, [.int 0, .int 0, .int 0, .int 0, .ref q27, .null, .null, .null]))] ++ [(q27, .inl (cI, 6, .inl zf))] ++ [(q35, .inl (cI, 6, .inl zf))]) H := hP
  have hD : va_D A ([(h0, .inr (7, [.int 0, .int 0, .int 0, .int 0, .ref q27, .null, .null, .null]))] ++ [(q27, .inl (cI, 6, .inl zf))] ++ [(q35, .inl (cI, 6, .inl zf))]) := hD
  refine W.widen (k := 2) (n := 12) (by omega) (by omega) ?_
  refine va_putF (D := D) (ci := 7) (v := .ref q35) (ty := tyX8 5) (C := RX8) (T := TX8) (N := 8) hx hb hts u_X8_init_X8 tyX8 tyX8_ok nmX8 hown hK.1 hP hD hS 0 rfl rfl 5 (by decide) (hts (.fieldLink RX8 29 "NoticeWeek$Town" "did" "[I") (List.mem_of_getElem? (i := 10) rfl)) (fun _ h9 => h9) rfl hin rfl (tyX8_ok 5 (by decide)) rfl rfl (Nat.le_of_ble_eq_true rfl) dX8_init_37 (fun H locs hP hD hS => ?_)
  have hP : va_P D vwCl ([(h0, .inr (7, [.int 0, .int 0, .int 0, .int 0, .ref q27, .ref q35, .null, .null]))] ++ [(q27, .inl (cI, 6, .inl zf))] ++ [(q35, .inl (cI, 6, .inl zf))]) H := hP
  have hD : va_D A ([(h0, .inr (7, [.int 0, .int 0, .int 0, .int 0, .ref q27, .ref q35, .null, .null]))] ++ [(q27, .inl (cI, 6, .inl zf))] ++ [(q35, .inl (cI, 6, .inl zf))]) := hD
  refine lv_aload_n hx hb dX8_init_40 rfl (lv_at hl 0 rfl) ?_
  refine lv_bipush (v := (nI 6)) hx hb dX8_init_41 (by decide) ?_
  refine b_newI (N := 6) hx hb (hts (.arrayClass .int) (List.mem_of_getElem? (i := 8) rfl)) hK hP hD hS hA (by decide) (by decide) (Nat.le_of_ble_eq_true rfl) (Nat.le_of_ble_eq_true rfl) dX8_init_43 (fun q43 H hP hD hS => ?_)
  have hP : va_P D vwCl ([(h0, .inr (7, [.int 0, .int 0, .int 0, .int 0, .ref q27, .ref q35, .null, .null]))] ++ [(q27, .inl (cI, 6, .inl zf))] ++ [(q35, .inl (cI, 6, .inl zf))] ++ [(q43, .inl (cI, 6, .inl zf))]) H := hP
  have hD : va_D A ([(h0, .inr (7, [.int 0, .int 0, .int 0, .int 0, .ref q27, .ref q35, .null, .null]))] ++ [(q27, .inl (cI, 6, .inl zf))] ++ [(q35, .inl (cI, 6, .inl zf))] ++ [(q43, .inl (cI, 6, .inl zf))]) := hD
  refine W.widen (k := 3) (n := 18) (by omega) (by omega) ?_
  refine va_putF (D := D) (ci := 7) (v := .ref q43) (ty := tyX8 6) (C := RX8) (T := TX8) (N := 8) hx hb hts u_X8_init_X8 tyX8 tyX8_ok nmX8 hown hK.1 hP hD hS 0 rfl rfl 6 (by decide) (hts (.fieldLink RX8 32 "NoticeWeek$Town" "notice" "[I") (List.mem_of_getElem? (i := 11) rfl)) (fun _ h9 => h9) rfl hin rfl (tyX8_ok 6 (by decide)) rfl rfl (Nat.le_of_ble_eq_true rfl) dX8_init_45 (fun H locs hP hD hS => ?_)
  have hP : va_P D vwCl ([(h0, .inr (7, [.int 0, .int 0, .int 0, .int 0, .ref q27, .ref q35, .ref q43, .null]))] ++ [(q27, .inl (cI, 6, .inl zf))] ++ [(q35, .inl (cI, 6, .inl zf))] ++ [(q43, .inl (cI, 6, .inl zf))]) H := hP
  have hD : va_D A ([(h0, .inr (7, [.int 0, .int 0, .int 0, .int 0, .ref q27, .ref q35, .ref q43, .null]))] ++ [(q27, .inl (cI, 6, .inl zf))] ++ [(q35, .inl (cI, 6, .inl zf))] ++ [(q43, .inl (cI, 6, .inl zf))]) := hD
  refine lv_aload_n hx hb dX8_init_48 rfl (lv_at hl 0 rfl) ?_
  refine lv_bipush (v := (nI 6)) hx hb dX8_init_49 (by decide) ?_
  refine b_newI (N := 6) hx hb (hts (.arrayClass .int) (List.mem_of_getElem? (i := 8) rfl)) hK hP hD hS hA (by decide) (by decide) (Nat.le_of_ble_eq_true rfl) (Nat.le_of_ble_eq_true rfl) dX8_init_51 (fun q51 H hP hD hS => ?_)
  have hP : va_P D vwCl ([(h0, .inr (7, [.int 0, .int 0, .int 0, .int 0, .ref q27, .ref q35, .ref q43, .null]))] ++ [(q27, .inl (cI, 6, .inl zf))] ++ [(q35, .inl (cI, 6, .inl zf))] ++ [(q43, .inl (cI, 6, .inl zf))] ++ [(q51, .inl (cI, 6, .inl zf))]) H := hP
  have hD : va_D A ([(h0, .inr (7, [.int 0, .int 0, .int 0, .int 0, .ref q27, .ref q35, .ref q43, .null]))] ++ [(q27, .inl (cI, 6, .inl zf))] ++ [(q35, .inl (cI, 6, .inl zf))] ++ [(q43, .inl (cI, 6, .inl zf))] ++ [(q51, .inl (cI, 6, .inl zf))]) := hD
  refine W.widen (k := 4) (n := 24) (by omega) (by omega) ?_
  refine va_putF (D := D) (ci := 7) (v := .ref q51) (ty := tyX8 7) (C := RX8) (T := TX8) (N := 8) hx hb hts u_X8_init_X8 tyX8 tyX8_ok nmX8 hown hK.1 hP hD hS 0 rfl rfl 7 (by decide) (hts (.fieldLink RX8 35 "NoticeWeek$Town" "left" "[I") (List.mem_of_getElem? (i := 12) rfl)) (fun _ h9 => h9) rfl hin rfl (tyX8_ok 7 (by decide)) rfl rfl (Nat.le_of_ble_eq_true rfl) dX8_init_53 (fun H locs hP hD hS => ?_)
  have hP : va_P D vwCl ([(h0, .inr (7, [.int 0, .int 0, .int 0, .int 0, .ref q27, .ref q35, .ref q43, .ref q51]))] ++ [(q27, .inl (cI, 6, .inl zf))] ++ [(q35, .inl (cI, 6, .inl zf))] ++ [(q43, .inl (cI, 6, .inl zf))] ++ [(q51, .inl (cI, 6, .inl zf))]) H := hP
  have hD : va_D A ([(h0, .inr (7, [.int 0, .int 0, .int 0, .int 0, .ref q27, .ref q35, .ref q43, .ref q51]))] ++ [(q27, .inl (cI, 6, .inl zf))] ++ [(q35, .inl (cI, 6, .inl zf))] ++ [(q43, .inl (cI, 6, .inl zf))] ++ [(q51, .inl (cI, 6, .inl zf))]) := hD
  exact b_vretI (ws := [(h0, .inr (7, [.int 0, .int 0, .int 0, .int 0, .ref q27, .ref q35, .ref q43, .ref q51]))] ++ [(q27, .inl (cI, 6, .inl zf))] ++ [(q35, .inl (cI, 6, .inl zf))] ++ [(q43, .inl (cI, 6, .inl zf))] ++ [(q51, .inl (cI, 6, .inl zf))]) hx hb hr ⟨(fun k => [h0, q27, q35, q43, q51].getD k 0), rfl, rfl⟩ hP hD hS dX8_init_56 hlocks
theorem u_X9_init_X9 : ∀ w ∈ wsX90, w ∈ wsX9_init := fun _ h => List.mem_cons_of_mem _ (List.mem_append_right _ h)
set_option maxHeartbeats 2000000 in
set_option maxRecDepth 100000 in
theorem i_X9 (l : Launch) (D : va_G) (cI cZ cT : ClassId) (h0 sz : Nat) : Met l yX9_init wsX9_init ({ frames := 1, cells := 1, slots := 16, locals := 12 }) (pI D cI cZ cT [.ref h0] [(h0, .inr (8, [.null, .int 0]))] sz) (qI D (fun w => ∃ a : Nat → Nat, a 0 = h0 ∧ w = wTrace cI a 0 zf) (va_A [(h0, .inr (8, [.null, .int 0]))] sz)) 1 16 (va_A [(h0, .inr (8, [.null, .int 0]))] sz) := by
  refine Met.ofW (cc := cX9_init) (maxL := 1) (ret := none) (by decide) rfl ?_
  intro p e s m args below meth c s₁ B hml hv
  obtain ⟨rfl, hsz, hP, hD0, hK⟩ := hv
  have hx := B.exec
  have hb := B.bytes
  have hr := B.returns
  have hts := atoms_spec (ws := wsX9_init) B.pre
  have hown : s.vm.findClass RX9 = some m.cls := findClass_of_methodNamed B.named
  have hlocks := B.notSynchronized
  have hin : meth.name = "<init>" := (name_of_methodNamed B.named B.method).1
  subst hsz
  have hD := hD0.self (sz := s.heap.size)
  generalize hAe : va_A [(h0, .inr (8, [.null, .int 0]))] s.heap.size = A at hD ⊢
  have hA : ∀ q : Nat, s.heap.size ≤ q → A q := fun q h => by rw [← hAe]; exact Or.inr h
  have hS : va_S A s.heap s.heap [] := va_S.rf
  have hl := lv_entry ([.ref h0]) (n := 1) (Nat.le_of_ble_eq_true rfl)
  rw [lg_entry_eq]
  generalize (lg_sl ([.ref h0]) ++ List.replicate (1 - (lg_sl ([.ref h0])).length) Slot.unset).toArray = ls at hl ⊢
  have hl : lv_has ls 1 [(0, .ref h0)] := hl
  refine lv_aload_n hx hb dX9_init_0 rfl (lv_at hl 0 rfl) ?_
  refine W.objInit hx hb hown (hts (.methodLink RX9 3 objectInit) (List.mem_of_getElem? (i := 1) rfl)) (hts (.instanceMethod objectInit) (List.mem_of_getElem? (i := 2) rfl)) (hts _ (List.mem_of_getElem? (i := 3) rfl)) rfl (by rw [hml]; exact hl.1) rfl dX9_init_1 (Nat.le_of_ble_eq_true rfl) (Nat.le_of_ble_eq_true rfl) ?_
  refine W.eq (g2 := F0 m 4 ls []) rfl ?_
  refine lv_aload_n hx hb dX9_init_4 rfl (lv_at hl 0 rfl) ?_
  refine lv_bipush (v := (nI 16)) hx hb dX9_init_5 (by decide) ?_
  refine b_newI (N := 16) hx hb (hts (.arrayClass .int) (List.mem_of_getElem? (i := 4) rfl)) hK hP hD hS hA (by decide) (by decide) (Nat.le_of_ble_eq_true rfl) (Nat.le_of_ble_eq_true rfl) dX9_init_7 (fun q7 H hP hD hS => ?_)
  have hP : va_P D vwCl ([(h0, .inr (8, [.null, .int 0]))] ++ [(q7, .inl (cI, 16, .inl zf))]) H := hP
  have hD : va_D A ([(h0, .inr (8, [.null, .int 0]))] ++ [(q7, .inl (cI, 16, .inl zf))]) := hD
  refine W.widen (k := 1) (n := 16) (by omega) (by omega) ?_
  refine va_putF (D := D) (ci := 8) (v := .ref q7) (ty := tyX9 0) (C := RX9) (T := TX9) (N := 2) hx hb hts u_X9_init_X9 tyX9 tyX9_ok nmX9 hown hK.1 hP hD hS 0 rfl rfl 0 (by decide) (hts (.fieldLink RX9 11 "NoticeWeek$Trace" "numbers" "[I") (List.mem_of_getElem? (i := 5) rfl)) (fun _ h9 => h9) rfl hin rfl (tyX9_ok 0 (by decide)) rfl rfl (Nat.le_of_ble_eq_true rfl) dX9_init_9 (fun H locs hP hD hS => ?_)
  have hP : va_P D vwCl ([(h0, .inr (8, [.ref q7, .int 0]))] ++ [(q7, .inl (cI, 16, .inl zf))]) H := hP
  have hD : va_D A ([(h0, .inr (8, [.ref q7, .int 0]))] ++ [(q7, .inl (cI, 16, .inl zf))]) := hD
  refine lv_aload_n hx hb dX9_init_12 rfl (lv_at hl 0 rfl) ?_
  refine lv_iconst (v := 0) hx hb dX9_init_13 (by decide) ?_
  refine va_put (D := D) (ci := 8) (v := .int 0) (ty := tyX9 1) (C := RX9) (T := TX9) (N := 2) hx hb hts u_X9_init_X9 tyX9 tyX9_ok nmX9 hown hK.1 hP hD hS 0 rfl rfl 1 (by decide) (hts (.fieldLink RX9 15 "NoticeWeek$Trace" "length" "I") (List.mem_of_getElem? (i := 6) rfl)) (fun _ h9 => h9) rfl (tyX9_ok 1 (by decide)) rfl rfl (Nat.le_of_ble_eq_true rfl) dX9_init_14 (fun H locs hP hD hS => ?_)
  have hP : va_P D vwCl ([(h0, .inr (8, [.ref q7, .int 0]))] ++ [(q7, .inl (cI, 16, .inl zf))]) H := hP
  have hD : va_D A ([(h0, .inr (8, [.ref q7, .int 0]))] ++ [(q7, .inl (cI, 16, .inl zf))]) := hD
  exact b_vretI (ws := [(h0, .inr (8, [.ref q7, .int 0]))] ++ [(q7, .inl (cI, 16, .inl zf))]) hx hb hr ⟨(fun k => [h0, q7].getD k 0), rfl, rfl⟩ hP hD hS dX9_init_17 hlocks
theorem u_X4_init_X4 : ∀ w ∈ wsX40, w ∈ wsX4_init := fun _ h => List.mem_cons_of_mem _ (List.mem_append_right _ h)
set_option maxHeartbeats 2000000 in
set_option maxRecDepth 100000 in
theorem i_X4 (l : Launch) (D : va_G) (cI cZ cT : ClassId) (h0 sz : Nat) : Met l yX4_init wsX4_init ({ frames := 1, cells := 3, slots := 336, locals := 12 }) (pI D cI cZ cT [.ref h0] [(h0, .inr (4, [.null, .null, .null]))] sz) (qI D (fun w => ∃ a : Nat → Nat, a 0 = h0 ∧ w = wRows cI a zf (lm (-1) 8) zf) (va_A [(h0, .inr (4, [.null, .null, .null]))] sz)) 3 336 (va_A [(h0, .inr (4, [.null, .null, .null]))] sz) := by
  refine Met.ofW (cc := cX4_init) (maxL := 2) (ret := none) (by decide) rfl ?_
  intro p e s m args below meth c s₁ B hml hv
  obtain ⟨rfl, hsz, hP, hD0, hK⟩ := hv
  have hx := B.exec
  have hb := B.bytes
  have hr := B.returns
  have hts := atoms_spec (ws := wsX4_init) B.pre
  have hown : s.vm.findClass RX4 = some m.cls := findClass_of_methodNamed B.named
  have hlocks := B.notSynchronized
  have hin : meth.name = "<init>" := (name_of_methodNamed B.named B.method).1
  subst hsz
  have hD := hD0.self (sz := s.heap.size)
  generalize hAe : va_A [(h0, .inr (4, [.null, .null, .null]))] s.heap.size = A at hD ⊢
  have hA : ∀ q : Nat, s.heap.size ≤ q → A q := fun q h => by rw [← hAe]; exact Or.inr h
  have hS : va_S A s.heap s.heap [] := va_S.rf
  have hl := lv_entry ([.ref h0]) (n := 2) (Nat.le_of_ble_eq_true rfl)
  rw [lg_entry_eq]
  generalize (lg_sl ([.ref h0]) ++ List.replicate (2 - (lg_sl ([.ref h0])).length) Slot.unset).toArray = ls at hl ⊢
  have hl : lv_has ls 2 [(0, .ref h0)] := hl
  refine lv_aload_n hx hb dX4_init_0 rfl (lv_at hl 0 rfl) ?_
  refine W.objInit hx hb hown (hts (.methodLink RX4 1 objectInit) (List.mem_of_getElem? (i := 1) rfl)) (hts (.instanceMethod objectInit) (List.mem_of_getElem? (i := 2) rfl)) (hts _ (List.mem_of_getElem? (i := 3) rfl)) rfl (by rw [hml]; exact hl.1) rfl dX4_init_1 (Nat.le_of_ble_eq_true rfl) (Nat.le_of_ble_eq_true rfl) ?_
  refine W.eq (g2 := F0 m 4 ls []) rfl ?_
  refine lv_aload_n hx hb dX4_init_4 rfl (lv_at hl 0 rfl) ?_
  refine lv_sipush (v := (nI 320)) hx hb dX4_init_5 (by decide) ?_
  refine b_newI (N := 320) hx hb (hts (.arrayClass .int) (List.mem_of_getElem? (i := 4) rfl)) hK hP hD hS hA (by decide) (by decide) (Nat.le_of_ble_eq_true rfl) (Nat.le_of_ble_eq_true rfl) dX4_init_8 (fun q8 H hP hD hS => ?_)
  have hP : va_P D vwCl ([(h0, .inr (4, [.null, .null, .null]))] ++ [(q8, .inl (cI, 320, .inl zf))]) H := hP
  have hD : va_D A ([(h0, .inr (4, [.null, .null, .null]))] ++ [(q8, .inl (cI, 320, .inl zf))]) := hD
  refine W.widen (k := 1) (n := 320) (by omega) (by omega) ?_
  refine va_putF (D := D) (ci := 4) (v := .ref q8) (ty := tyX4 0) (C := RX4) (T := TX4) (N := 3) hx hb hts u_X4_init_X4 tyX4 tyX4_ok nmX4 hown hK.1 hP hD hS 0 rfl rfl 0 (by decide) (hts (.fieldLink RX4 9 "NoticeWeek$Rows" "items" "[I") (List.mem_of_getElem? (i := 5) rfl)) (fun _ h9 => h9) rfl hin rfl (tyX4_ok 0 (by decide)) rfl rfl (Nat.le_of_ble_eq_true rfl) dX4_init_10 (fun H locs hP hD hS => ?_)
  have hP : va_P D vwCl ([(h0, .inr (4, [.ref q8, .null, .null]))] ++ [(q8, .inl (cI, 320, .inl zf))]) H := hP
  have hD : va_D A ([(h0, .inr (4, [.ref q8, .null, .null]))] ++ [(q8, .inl (cI, 320, .inl zf))]) := hD
  refine lv_aload_n hx hb dX4_init_13 rfl (lv_at hl 0 rfl) ?_
  refine lv_bipush (v := (nI 8)) hx hb dX4_init_14 (by decide) ?_
  refine b_newI (N := 8) hx hb (hts (.arrayClass .int) (List.mem_of_getElem? (i := 4) rfl)) hK hP hD hS hA (by decide) (by decide) (Nat.le_of_ble_eq_true rfl) (Nat.le_of_ble_eq_true rfl) dX4_init_16 (fun q16 H hP hD hS => ?_)
  have hP : va_P D vwCl ([(h0, .inr (4, [.ref q8, .null, .null]))] ++ [(q8, .inl (cI, 320, .inl zf))] ++ [(q16, .inl (cI, 8, .inl zf))]) H := hP
  have hD : va_D A ([(h0, .inr (4, [.ref q8, .null, .null]))] ++ [(q8, .inl (cI, 320, .inl zf))] ++ [(q16, .inl (cI, 8, .inl zf))]) := hD
  refine W.widen (k := 2) (n := 328) (by omega) (by omega) ?_
  refine va_putF (D := D) (ci := 4) (v := .ref q16) (ty := tyX4 1) (C := RX4) (T := TX4) (N := 3) hx hb hts u_X4_init_X4 tyX4 tyX4_ok nmX4 hown hK.1 hP hD hS 0 rfl rfl 1 (by decide) (hts (.fieldLink RX4 13 "NoticeWeek$Rows" "lanes" "[I") (List.mem_of_getElem? (i := 6) rfl)) (fun _ h9 => h9) rfl hin rfl (tyX4_ok 1 (by decide)) rfl rfl (Nat.le_of_ble_eq_true rfl) dX4_init_18 (fun H locs hP hD hS => ?_)
  have hP : va_P D vwCl ([(h0, .inr (4, [.ref q8, .ref q16, .null]))] ++ [(q8, .inl (cI, 320, .inl zf))] ++ [(q16, .inl (cI, 8, .inl zf))]) H := hP
  have hD : va_D A ([(h0, .inr (4, [.ref q8, .ref q16, .null]))] ++ [(q8, .inl (cI, 320, .inl zf))] ++ [(q16, .inl (cI, 8, .inl zf))]) := hD
  refine lv_aload_n hx hb dX4_init_21 rfl (lv_at hl 0 rfl) ?_
  refine lv_bipush (v := (nI 8)) hx hb dX4_init_22 (by decide) ?_
  refine b_newI (N := 8) hx hb (hts (.arrayClass .int) (List.mem_of_getElem? (i := 4) rfl)) hK hP hD hS hA (by decide) (by decide) (Nat.le_of_ble_eq_true rfl) (Nat.le_of_ble_eq_true rfl) dX4_init_24 (fun q24 H hP hD hS => ?_)
  have hP : va_P D vwCl ([(h0, .inr (4, [.ref q8, .ref q16, .null]))] ++ [(q8, .inl (cI, 320, .inl zf))] ++ [(q16, .inl (cI, 8, .inl zf))] ++ [(q24, .inl (cI, 8, .inl zf))]) H := hP
  have hD : va_D A ([(h0, .inr (4, [.ref q8, .ref q16, .null]))] ++ [(q8, .inl (cI, 320, .inl zf))] ++ [(q16, .inl (cI, 8, .inl zf))] ++ [(q24, .inl (cI, 8, .inl zf))]) := hD
  refine W.widen (k := 3) (n := 336) (by omega) (by omega) ?_
  refine va_putF (D := D) (ci := 4) (v := .ref q24) (ty := tyX4 2) (C := RX4) (T := TX4) (N := 3) hx hb hts u_X4_init_X4 tyX4 tyX4_ok nmX4 hown hK.1 hP hD hS 0 rfl rfl 2 (by decide) (hts (.fieldLink RX4 16 "NoticeWeek$Rows" "sizes" "[I") (List.mem_of_getElem? (i := 7) rfl)) (fun _ h9 => h9) rfl hin rfl (tyX4_ok 2 (by decide)) rfl rfl (Nat.le_of_ble_eq_true rfl) dX4_init_26 (fun H locs hP hD hS => ?_)
  have hP : va_P D vwCl ([(h0, .inr (4, [.ref q8, .ref q16, .ref q24]))] ++ [(q8, .inl (cI, 320, .inl zf))] ++ [(q16, .inl (cI, 8, .inl zf))] ++ [(q24, .inl (cI, 8, .inl zf))]) H := hP
  have hD : va_D A ([(h0, .inr (4, [.ref q8, .ref q16, .ref q24]))] ++ [(q8, .inl (cI, 320, .inl zf))] ++ [(q16, .inl (cI, 8, .inl zf))] ++ [(q24, .inl (cI, 8, .inl zf))]) := hD
  refine lv_iconst (v := nI 0) hx hb dX4_init_29 (by decide) ?_
  refine lv_istore_n (lv' := [(1, .int (nI 0)), (0, .ref h0)]) hx hb dX4_init_30 rfl hl (by decide) rfl (fun ls hl => ?_)
  refine b_loopM (N := 8) (I := fun k ls H locs => lv_has ls 2 [(1, .int (nI k)), (0, .ref h0)] ∧ va_P D vwCl ([(h0, .inr (4, [.ref q8, .ref q16, .ref q24]))] ++ [(q8, .inl (cI, 320, .inl zf))] ++ [(q16, .inl (cI, 8, .inl (lm ((-1)) k)))] ++ [(q24, .inl (cI, 8, .inl zf))]) H ∧ va_S A s.heap H locs) (fun k hk ih ls H locs hI => ?_) 0 (by omega) ⟨lv_sub hl [0, 1] rfl, hP, hS⟩
  obtain ⟨hl, hP, hS⟩ := hI
  have hl : lv_has ls 2 [(1, .int (nI k)), (0, .ref h0)] := hl
  have hP : va_P D vwCl ([(h0, .inr (4, [.ref q8, .ref q16, .ref q24]))] ++ [(q8, .inl (cI, 320, .inl zf))] ++ [(q16, .inl (cI, 8, .inl (lm ((-1)) k)))] ++ [(q24, .inl (cI, 8, .inl zf))]) H := hP
  have hD : va_D A ([(h0, .inr (4, [.ref q8, .ref q16, .ref q24]))] ++ [(q8, .inl (cI, 320, .inl zf))] ++ [(q16, .inl (cI, 8, .inl (lm ((-1)) k)))] ++ [(q24, .inl (cI, 8, .inl zf))]) := hD.same rfl
  refine lv_iload_n hx hb dX4_init_31 rfl (lv_at hl 0 rfl) ?_
  refine lv_bipush (v := nI 8) hx hb dX4_init_32 (by decide) ?_
  refine b_ge (tgt := 50) hx hb (by omega) (by omega) dX4_init_34 (by decide) (fun c1 => ?_) (fun c1 => ?_)
  · have hk8 : k = 8 := by omega
    subst hk8
    exact b_vretI (ws := [(h0, .inr (4, [.ref q8, .ref q16, .ref q24]))] ++ [(q8, .inl (cI, 320, .inl zf))] ++ [(q16, .inl (cI, 8, .inl (lm ((-1)) 8)))] ++ [(q24, .inl (cI, 8, .inl zf))]) hx hb hr ⟨(fun k => [h0, q8, q16, q24].getD k 0), rfl, rfl⟩ hP hD hS dX4_init_50 hlocks
  · refine lv_aload_n hx hb dX4_init_37 rfl (lv_at hl 1 rfl) ?_
    refine va_get (D := D) (ci := 4) (v := .ref q16) (C := RX4) (T := TX4) (N := 3) hx hb hts u_X4_init_X4 hown hK.1 hP 0 rfl rfl 1 (by decide) (hts (.fieldLink RX4 13 "NoticeWeek$Rows" "lanes" "[I") (List.mem_of_getElem? (i := 6) rfl)) (fun _ h9 => h9) rfl dX4_init_38 ?_
    refine lv_iload_n hx hb dX4_init_41 rfl (lv_at hl 0 rfl) ?_
    refine lv_iconst (v := (-1)) hx hb dX4_init_42 (by decide) ?_
    refine b_ast hx hb hK hP hD hS 2 rfl (by omega) (by decide) dX4_init_43 (fun H locs hP hS => ?_)
    have hP : va_P D vwCl ([(h0, .inr (4, [.ref q8, .ref q16, .ref q24]))] ++ [(q8, .inl (cI, 320, .inl zf))] ++ [(q16, .inl (cI, 8, .inl (lm ((-1)) (k + 1))))] ++ [(q24, .inl (cI, 8, .inl zf))]) H := hP
    refine lv_iinc (v := (nI (k + 1))) (lv' := [(1, .int (nI (k + 1))), (0, .ref h0)]) hx hb dX4_init_44 hl (k := 0) rfl (nI_add _ _) (by decide) rfl (fun ls hl => ?_)
    refine lv_goto (tgt := 31) hx hb dX4_init_47 (by decide) ?_
    exact ih (by omega) ls H locs ⟨lv_sub hl [0, 1] rfl, hP, hS⟩
theorem u_X12_init_X12 : ∀ w ∈ wsX120, w ∈ wsX12_init := fun _ h => List.mem_cons_of_mem _ (List.mem_append_right _ h)
set_option maxHeartbeats 2000000 in
set_option maxRecDepth 100000 in
theorem i_X12 (l : Launch) (D : va_G) (cI cZ cT : ClassId) (h0 sz : Nat) : Met l yX12_init wsX12_init ({ frames := 1, cells := 11, slots := 1298, locals := 12 }) (pI D cI cZ cT [.ref h0] [(h0, .inr (11, [.null, .null, .null, .null, .int 0, .null, .int 0, .int 0, .int 0, .int 0, .int 0, .int 0, .int 0, .null, .null, .null, .int 0, .null, .null, .null, .int 0]))] sz) (qI D (fun w => ∃ a : Nat → Nat, a 0 = h0 ∧ w = wM cI cZ a 0 0 0 0 0 0 0 0 0 0 (lm (-1000000) 8) zf zf zf zf zf zf zf zf zf zf) (va_A [(h0, .inr (11, [.null, .null, .null, .null, .int 0, .null, .int 0, .int 0, .int 0, .int 0, .int 0, .int 0, .int 0, .null, .null, .null, .int 0, .null, .null, .null, .int 0]))] sz)) 11 1298 (va_A [(h0, .inr (11, [.null, .null, .null, .null, .int 0, .null, .int 0, .int 0, .int 0, .int 0, .int 0, .int 0, .int 0, .null, .null, .null, .int 0, .null, .null, .null, .int 0]))] sz) := by
  refine Met.ofW (cc := cX12_init) (maxL := 2) (ret := none) (by decide) rfl ?_
  intro p e s m args below meth c s₁ B hml hv
  obtain ⟨rfl, hsz, hP, hD0, hK⟩ := hv
  have hx := B.exec
  have hb := B.bytes
  have hr := B.returns
  have hts := atoms_spec (ws := wsX12_init) B.pre
  have hown : s.vm.findClass RX12 = some m.cls := findClass_of_methodNamed B.named
  have hlocks := B.notSynchronized
  have hin : meth.name = "<init>" := (name_of_methodNamed B.named B.method).1
  subst hsz
  have hD := hD0.self (sz := s.heap.size)
  generalize hAe : va_A [(h0, .inr (11, [.null, .null, .null, .null, .int 0, .null, .int 0, .int 0, .int 0, .int 0, .int 0, .int 0, .int 0, .null, .null, .null, .int 0, .null, .null, .null, .int 0]))] s.heap.size = A at hD ⊢
  have hA : ∀ q : Nat, s.heap.size ≤ q → A q := fun q h => by rw [← hAe]; exact Or.inr h
  have hS : va_S A s.heap s.heap [] := va_S.rf
  have hl := lv_entry ([.ref h0]) (n := 2) (Nat.le_of_ble_eq_true rfl)
  rw [lg_entry_eq]
  generalize (lg_sl ([.ref h0]) ++ List.replicate (2 - (lg_sl ([.ref h0])).length) Slot.unset).toArray = ls at hl ⊢
  have hl : lv_has ls 2 [(0, .ref h0)] := hl
  refine lv_aload_n hx hb dX12_init_0 rfl (lv_at hl 0 rfl) ?_
  refine W.objInit hx hb hown (hts (.methodLink RX12 1 objectInit) (List.mem_of_getElem? (i := 1) rfl)) (hts (.instanceMethod objectInit) (List.mem_of_getElem? (i := 2) rfl)) (hts _ (List.mem_of_getElem? (i := 3) rfl)) rfl (by rw [hml]; exact hl.1) rfl dX12_init_1 (Nat.le_of_ble_eq_true rfl) (Nat.le_of_ble_eq_true rfl) ?_
  refine W.eq (g2 := F0 m 4 ls []) rfl ?_
  refine lv_aload_n hx hb dX12_init_4 rfl (lv_at hl 0 rfl) ?_
  refine lv_bipush (v := (nI 8)) hx hb dX12_init_5 (by decide) ?_
  refine b_newI (N := 8) hx hb (hts (.arrayClass .int) (List.mem_of_getElem? (i := 4) rfl)) hK hP hD hS hA (by decide) (by decide) (Nat.le_of_ble_eq_true rfl) (Nat.le_of_ble_eq_true rfl) dX12_init_7 (fun q7 H hP hD hS => ?_)
  have hP : va_P D vwCl ([(h0, .inr (11, [.null, .null, .null, .null, .int 0, .null, .int 0, .int 0, .int 0, .int 0, .int 0, .int 0, .int 0, .null, .null, .null, .int 0, .null, .null, .null, .int 0]))] ++ [(q7, .inl (cI, 8, .inl zf))]) H := hP
  have hD : va_D A ([(h0, .inr (11, [.null, .null, .null, .null, .int 0, .null, .int 0, .int 0, .int 0, .int 0, .int 0, .int 0, .int 0, .null, .null, .null, .int 0, .null, .null, .null, .int 0]))] ++ [(q7, .inl (cI, 8, .inl zf))]) := hD
  refine W.widen (k := 1) (n := 8) (by omega) (by omega) ?_
  refine va_putF (D := D) (ci := 11) (v := .ref q7) (ty := tyX12 0) (C := RX12) (T := TX12) (N := 21) hx hb hts u_X12_init_X12 tyX12 tyX12_ok nmX12 hown hK.1 hP hD hS 0 rfl rfl 0 (by decide) (hts (.fieldLink RX12 7 "NoticeWeekModel" "lane" "[I") (List.mem_of_getElem? (i := 5) rfl)) (fun _ h9 => h9) rfl hin rfl (tyX12_ok 0 (by decide)) rfl rfl (Nat.le_of_ble_eq_true rfl) dX12_init_9 (fun H locs hP hD hS => ?_)
  have hP : va_P D vwCl ([(h0, .inr (11, [.ref q7, .null, .null, .null, .int 0, .null, .int 0, .int 0, .int 0, .int 0, .int 0, .int 0, .int 0, .null, .null, .null, .int 0, .null, .null, .null, .int 0]))] ++ [(q7, .inl (cI, 8, .inl zf))]) H := hP
  have hD : va_D A ([(h0, .inr (11, [.ref q7, .null, .null, .null, .int 0, .null, .int 0, .int 0, .int 0, .int 0, .int 0, .int 0, .int 0, .null, .null, .null, .int 0, .null, .null, .null, .int 0]))] ++ [(q7, .inl (cI, 8, .inl zf))]) := hD
  refine lv_aload_n hx hb dX12_init_12 rfl (lv_at hl 0 rfl) ?_
  refine lv_bipush (v := (nI 8)) hx hb dX12_init_13 (by decide) ?_
  refine b_newI (N := 8) hx hb (hts (.arrayClass .int) (List.mem_of_getElem? (i := 4) rfl)) hK hP hD hS hA (by decide) (by decide) (Nat.le_of_ble_eq_true rfl) (Nat.le_of_ble_eq_true rfl) dX12_init_15 (fun q15 H hP hD hS => ?_)
  have hP : va_P D vwCl ([(h0, .inr (11, [.ref q7, .null, .null, .null, .int 0, .null, .int 0, .int 0, .int 0, .int 0, .int 0, .int 0, .int 0, .null, .null, .null, .int 0, .null, .null, .null, .int 0]))] ++ [(q7, .inl (cI, 8, .inl zf))] ++ [(q15, .inl (cI, 8, .inl zf))]) H := hP
  have hD : va_D A ([(h0, .inr (11, [.ref q7, .null, .null, .null, .int 0, .null, .int 0, .int 0, .int 0, .int 0, .int 0, .int 0, .int 0, .null, .null, .null, .int 0, .null, .null, .null, .int 0]))] ++ [(q7, .inl (cI, 8, .inl zf))] ++ [(q15, .inl (cI, 8, .inl zf))]) := hD
  refine W.widen (k := 2) (n := 16) (by omega) (by omega) ?_
  refine va_putF (D := D) (ci := 11) (v := .ref q15) (ty := tyX12 1) (C := RX12) (T := TX12) (N := 21) hx hb hts u_X12_init_X12 tyX12 tyX12_ok nmX12 hown hK.1 hP hD hS 0 rfl rfl 1 (by decide) (hts (.fieldLink RX12 13 "NoticeWeekModel" "many" "[I") (List.mem_of_getElem? (i := 6) rfl)) (fun _ h9 => h9) rfl hin rfl (tyX12_ok 1 (by decide)) rfl rfl (Nat.le_of_ble_eq_true rfl) dX12_init_17 (fun H locs hP hD hS => ?_)
  have hP : va_P D vwCl ([(h0, .inr (11, [.ref q7, .ref q15, .null, .null, .int 0, .null, .int 0, .int 0, .int 0, .int 0, .int 0, .int 0, .int 0, .null, .null, .null, .int 0, .null, .null, .null, .int 0]))] ++ [(q7, .inl (cI, 8, .inl zf))] ++ [(q15, .inl (cI, 8, .inl zf))]) H := hP
  have hD : va_D A ([(h0, .inr (11, [.ref q7, .ref q15, .null, .null, .int 0, .null, .int 0, .int 0, .int 0, .int 0, .int 0, .int 0, .int 0, .null, .null, .null, .int 0, .null, .null, .null, .int 0]))] ++ [(q7, .inl (cI, 8, .inl zf))] ++ [(q15, .inl (cI, 8, .inl zf))]) := hD
  refine lv_aload_n hx hb dX12_init_20 rfl (lv_at hl 0 rfl) ?_
  refine lv_sipush (v := (nI 320)) hx hb dX12_init_21 (by decide) ?_
  refine b_newI (N := 320) hx hb (hts (.arrayClass .int) (List.mem_of_getElem? (i := 4) rfl)) hK hP hD hS hA (by decide) (by decide) (Nat.le_of_ble_eq_true rfl) (Nat.le_of_ble_eq_true rfl) dX12_init_24 (fun q24 H hP hD hS => ?_)
  have hP : va_P D vwCl ([(h0, .inr (11, [.ref q7, .ref q15, .null, .null, .int 0, .null, .int 0, .int 0, .int 0, .int 0, .int 0, .int 0, .int 0, .null, .null, .null, .int 0, .null, .null, .null, .int 0]))] ++ [(q7, .inl (cI, 8, .inl zf))] ++ [(q15, .inl (cI, 8, .inl zf))] ++ [(q24, .inl (cI, 320, .inl zf))]) H := hP
  have hD : va_D A ([(h0, .inr (11, [.ref q7, .ref q15, .null, .null, .int 0, .null, .int 0, .int 0, .int 0, .int 0, .int 0, .int 0, .int 0, .null, .null, .null, .int 0, .null, .null, .null, .int 0]))] ++ [(q7, .inl (cI, 8, .inl zf))] ++ [(q15, .inl (cI, 8, .inl zf))] ++ [(q24, .inl (cI, 320, .inl zf))]) := hD
  refine W.widen (k := 3) (n := 336) (by omega) (by omega) ?_
  refine va_putF (D := D) (ci := 11) (v := .ref q24) (ty := tyX12 2) (C := RX12) (T := TX12) (N := 21) hx hb hts u_X12_init_X12 tyX12 tyX12_ok nmX12 hown hK.1 hP hD hS 0 rfl rfl 2 (by decide) (hts (.fieldLink RX12 16 "NoticeWeekModel" "items" "[I") (List.mem_of_getElem? (i := 7) rfl)) (fun _ h9 => h9) rfl hin rfl (tyX12_ok 2 (by decide)) rfl rfl (Nat.le_of_ble_eq_true rfl) dX12_init_26 (fun H locs hP hD hS => ?_)
  have hP : va_P D vwCl ([(h0, .inr (11, [.ref q7, .ref q15, .ref q24, .null, .int 0, .null, .int 0, .int 0, .int 0, .int 0, .int 0, .int 0, .int 0, .null, .null, .null, .int 0, .null, .null, .null, .int 0]))] ++ [(q7, .inl (cI, 8, .inl zf))] ++ [(q15, .inl (cI, 8, .inl zf))] ++ [(q24, .inl (cI, 320, .inl zf))]) H := hP
  have hD : va_D A ([(h0, .inr (11, [.ref q7, .ref q15, .ref q24, .null, .int 0, .null, .int 0, .int 0, .int 0, .int 0, .int 0, .int 0, .int 0, .null, .null, .null, .int 0, .null, .null, .null, .int 0]))] ++ [(q7, .inl (cI, 8, .inl zf))] ++ [(q15, .inl (cI, 8, .inl zf))] ++ [(q24, .inl (cI, 320, .inl zf))]) := hD
  refine lv_aload_n hx hb dX12_init_29 rfl (lv_at hl 0 rfl) ?_
  refine lv_bipush (v := (nI 40)) hx hb dX12_init_30 (by decide) ?_
  refine b_newI (N := 40) hx hb (hts (.arrayClass .int) (List.mem_of_getElem? (i := 4) rfl)) hK hP hD hS hA (by decide) (by decide) (Nat.le_of_ble_eq_true rfl) (Nat.le_of_ble_eq_true rfl) dX12_init_32 (fun q32 H hP hD hS => ?_)
  have hP : va_P D vwCl ([(h0, .inr (11, [.ref q7, .ref q15, .ref q24, .null, .int 0, .null, .int 0, .int 0, .int 0, .int 0, .int 0, .int 0, .int 0, .null, .null, .null, .int 0, .null, .null, .null, .int 0]))] ++ [(q7, .inl (cI, 8, .inl zf))] ++ [(q15, .inl (cI, 8, .inl zf))] ++ [(q24, .inl (cI, 320, .inl zf))] ++ [(q32, .inl (cI, 40, .inl zf))]) H := hP
  have hD : va_D A ([(h0, .inr (11, [.ref q7, .ref q15, .ref q24, .null, .int 0, .null, .int 0, .int 0, .int 0, .int 0, .int 0, .int 0, .int 0, .null, .null, .null, .int 0, .null, .null, .null, .int 0]))] ++ [(q7, .inl (cI, 8, .inl zf))] ++ [(q15, .inl (cI, 8, .inl zf))] ++ [(q24, .inl (cI, 320, .inl zf))] ++ [(q32, .inl (cI, 40, .inl zf))]) := hD
  refine W.widen (k := 4) (n := 376) (by omega) (by omega) ?_
  refine va_putF (D := D) (ci := 11) (v := .ref q32) (ty := tyX12 3) (C := RX12) (T := TX12) (N := 21) hx hb hts u_X12_init_X12 tyX12 tyX12_ok nmX12 hown hK.1 hP hD hS 0 rfl rfl 3 (by decide) (hts (.fieldLink RX12 19 "NoticeWeekModel" "spare" "[I") (List.mem_of_getElem? (i := 8) rfl)) (fun _ h9 => h9) rfl hin rfl (tyX12_ok 3 (by decide)) rfl rfl (Nat.le_of_ble_eq_true rfl) dX12_init_34 (fun H locs hP hD hS => ?_)
  have hP : va_P D vwCl ([(h0, .inr (11, [.ref q7, .ref q15, .ref q24, .ref q32, .int 0, .null, .int 0, .int 0, .int 0, .int 0, .int 0, .int 0, .int 0, .null, .null, .null, .int 0, .null, .null, .null, .int 0]))] ++ [(q7, .inl (cI, 8, .inl zf))] ++ [(q15, .inl (cI, 8, .inl zf))] ++ [(q24, .inl (cI, 320, .inl zf))] ++ [(q32, .inl (cI, 40, .inl zf))]) H := hP
  have hD : va_D A ([(h0, .inr (11, [.ref q7, .ref q15, .ref q24, .ref q32, .int 0, .null, .int 0, .int 0, .int 0, .int 0, .int 0, .int 0, .int 0, .null, .null, .null, .int 0, .null, .null, .null, .int 0]))] ++ [(q7, .inl (cI, 8, .inl zf))] ++ [(q15, .inl (cI, 8, .inl zf))] ++ [(q24, .inl (cI, 320, .inl zf))] ++ [(q32, .inl (cI, 40, .inl zf))]) := hD
  refine lv_aload_n hx hb dX12_init_37 rfl (lv_at hl 0 rfl) ?_
  refine lv_bipush (v := (nI 120)) hx hb dX12_init_38 (by decide) ?_
  refine b_newI (N := 120) hx hb (hts (.arrayClass .int) (List.mem_of_getElem? (i := 4) rfl)) hK hP hD hS hA (by decide) (by decide) (Nat.le_of_ble_eq_true rfl) (Nat.le_of_ble_eq_true rfl) dX12_init_40 (fun q40 H hP hD hS => ?_)
  have hP : va_P D vwCl ([(h0, .inr (11, [.ref q7, .ref q15, .ref q24, .ref q32, .int 0, .null, .int 0, .int 0, .int 0, .int 0, .int 0, .int 0, .int 0, .null, .null, .null, .int 0, .null, .null, .null, .int 0]))] ++ [(q7, .inl (cI, 8, .inl zf))] ++ [(q15, .inl (cI, 8, .inl zf))] ++ [(q24, .inl (cI, 320, .inl zf))] ++ [(q32, .inl (cI, 40, .inl zf))] ++ [(q40, .inl (cI, 120, .inl zf))]) H := hP
  have hD : va_D A ([(h0, .inr (11, [.ref q7, .ref q15, .ref q24, .ref q32, .int 0, .null, .int 0, .int 0, .int 0, .int 0, .int 0, .int 0, .int 0, .null, .null, .null, .int 0, .null, .null, .null, .int 0]))] ++ [(q7, .inl (cI, 8, .inl zf))] ++ [(q15, .inl (cI, 8, .inl zf))] ++ [(q24, .inl (cI, 320, .inl zf))] ++ [(q32, .inl (cI, 40, .inl zf))] ++ [(q40, .inl (cI, 120, .inl zf))]) := hD
  refine W.widen (k := 5) (n := 496) (by omega) (by omega) ?_
  refine va_putF (D := D) (ci := 11) (v := .ref q40) (ty := tyX12 5) (C := RX12) (T := TX12) (N := 21) hx hb hts u_X12_init_X12 tyX12 tyX12_ok nmX12 hown hK.1 hP hD hS 0 rfl rfl 5 (by decide) (hts (.fieldLink RX12 22 "NoticeWeekModel" "tape" "[I") (List.mem_of_getElem? (i := 9) rfl)) (fun _ h9 => h9) rfl hin rfl (tyX12_ok 5 (by decide)) rfl rfl (Nat.le_of_ble_eq_true rfl) dX12_init_42 (fun H locs hP hD hS => ?_)
  have hP : va_P D vwCl ([(h0, .inr (11, [.ref q7, .ref q15, .ref q24, .ref q32, .int 0, .ref q40, .int 0, .int 0, .int 0, .int 0, .int 0, .int 0, .int 0, .null, .null, .null, .int 0, .null, .null, .null, .int 0]))] ++ [(q7, .inl (cI, 8, .inl zf))] ++ [(q15, .inl (cI, 8, .inl zf))] ++ [(q24, .inl (cI, 320, .inl zf))] ++ [(q32, .inl (cI, 40, .inl zf))] ++ [(q40, .inl (cI, 120, .inl zf))]) H := hP
  have hD : va_D A ([(h0, .inr (11, [.ref q7, .ref q15, .ref q24, .ref q32, .int 0, .ref q40, .int 0, .int 0, .int 0, .int 0, .int 0, .int 0, .int 0, .null, .null, .null, .int 0, .null, .null, .null, .int 0]))] ++ [(q7, .inl (cI, 8, .inl zf))] ++ [(q15, .inl (cI, 8, .inl zf))] ++ [(q24, .inl (cI, 320, .inl zf))] ++ [(q32, .inl (cI, 40, .inl zf))] ++ [(q40, .inl (cI, 120, .inl zf))]) := hD
  refine lv_aload_n hx hb dX12_init_45 rfl (lv_at hl 0 rfl) ?_
  refine lv_bipush (v := (nI 28)) hx hb dX12_init_46 (by decide) ?_
  refine b_newI (N := 28) hx hb (hts (.arrayClass .int) (List.mem_of_getElem? (i := 4) rfl)) hK hP hD hS hA (by decide) (by decide) (Nat.le_of_ble_eq_true rfl) (Nat.le_of_ble_eq_true rfl) dX12_init_48 (fun q48 H hP hD hS => ?_)
  have hP : va_P D vwCl ([(h0, .inr (11, [.ref q7, .ref q15, .ref q24, .ref q32, .int 0, .ref q40, .int 0, .int 0, .int 0, .int 0, .int 0, .int 0, .int 0, .null, .null, .null, .int 0, .null, .null, .null, .int 0]))] ++ [(q7, .inl (cI, 8, .inl zf))] ++ [(q15, .inl (cI, 8, .inl zf))] ++ [(q24, .inl (cI, 320, .inl zf))] ++ [(q32, .inl (cI, 40, .inl zf))] ++ [(q40, .inl (cI, 120, .inl zf))] ++ [(q48, .inl (cI, 28, .inl zf))]) H := hP
  have hD : va_D A ([(h0, .inr (11, [.ref q7, .ref q15, .ref q24, .ref q32, .int 0, .ref q40, .int 0, .int 0, .int 0, .int 0, .int 0, .int 0, .int 0, .null, .null, .null, .int 0, .null, .null, .null, .int 0]))] ++ [(q7, .inl (cI, 8, .inl zf))] ++ [(q15, .inl (cI, 8, .inl zf))] ++ [(q24, .inl (cI, 320, .inl zf))] ++ [(q32, .inl (cI, 40, .inl zf))] ++ [(q40, .inl (cI, 120, .inl zf))] ++ [(q48, .inl (cI, 28, .inl zf))]) := hD
  refine W.widen (k := 6) (n := 524) (by omega) (by omega) ?_
  refine va_putF (D := D) (ci := 11) (v := .ref q48) (ty := tyX12 13) (C := RX12) (T := TX12) (N := 21) hx hb hts u_X12_init_X12 tyX12 tyX12_ok nmX12 hown hK.1 hP hD hS 0 rfl rfl 13 (by decide) (hts (.fieldLink RX12 25 "NoticeWeekModel" "now" "[I") (List.mem_of_getElem? (i := 10) rfl)) (fun _ h9 => h9) rfl hin rfl (tyX12_ok 13 (by decide)) rfl rfl (Nat.le_of_ble_eq_true rfl) dX12_init_50 (fun H locs hP hD hS => ?_)
  have hP : va_P D vwCl ([(h0, .inr (11, [.ref q7, .ref q15, .ref q24, .ref q32, .int 0, .ref q40, .int 0, .int 0, .int 0, .int 0, .int 0, .int 0, .int 0, .ref q48, .null, .null, .int 0, .null, .null, .null, .int 0]))] ++ [(q7, .inl (cI, 8, .inl zf))] ++ [(q15, .inl (cI, 8, .inl zf))] ++ [(q24, .inl (cI, 320, .inl zf))] ++ [(q32, .inl (cI, 40, .inl zf))] ++ [(q40, .inl (cI, 120, .inl zf))] ++ [(q48, .inl (cI, 28, .inl zf))]) H := hP
  have hD : va_D A ([(h0, .inr (11, [.ref q7, .ref q15, .ref q24, .ref q32, .int 0, .ref q40, .int 0, .int 0, .int 0, .int 0, .int 0, .int 0, .int 0, .ref q48, .null, .null, .int 0, .null, .null, .null, .int 0]))] ++ [(q7, .inl (cI, 8, .inl zf))] ++ [(q15, .inl (cI, 8, .inl zf))] ++ [(q24, .inl (cI, 320, .inl zf))] ++ [(q32, .inl (cI, 40, .inl zf))] ++ [(q40, .inl (cI, 120, .inl zf))] ++ [(q48, .inl (cI, 28, .inl zf))]) := hD
  refine lv_aload_n hx hb dX12_init_53 rfl (lv_at hl 0 rfl) ?_
  refine lv_bipush (v := (nI 28)) hx hb dX12_init_54 (by decide) ?_
  refine b_newI (N := 28) hx hb (hts (.arrayClass .int) (List.mem_of_getElem? (i := 4) rfl)) hK hP hD hS hA (by decide) (by decide) (Nat.le_of_ble_eq_true rfl) (Nat.le_of_ble_eq_true rfl) dX12_init_56 (fun q56 H hP hD hS => ?_)
  have hP : va_P D vwCl ([(h0, .inr (11, [.ref q7, .ref q15, .ref q24, .ref q32, .int 0, .ref q40, .int 0, .int 0, .int 0, .int 0, .int 0, .int 0, .int 0, .ref q48, .null, .null, .int 0, .null, .null, .null, .int 0]))] ++ [(q7, .inl (cI, 8, .inl zf))] ++ [(q15, .inl (cI, 8, .inl zf))] ++ [(q24, .inl (cI, 320, .inl zf))] ++ [(q32, .inl (cI, 40, .inl zf))] ++ [(q40, .inl (cI, 120, .inl zf))] ++ [(q48, .inl (cI, 28, .inl zf))] ++ [(q56, .inl (cI, 28, .inl zf))]) H := hP
  have hD : va_D A ([(h0, .inr (11, [.ref q7, .ref q15, .ref q24, .ref q32, .int 0, .ref q40, .int 0, .int 0, .int 0, .int 0, .int 0, .int 0, .int 0, .ref q48, .null, .null, .int 0, .null, .null, .null, .int 0]))] ++ [(q7, .inl (cI, 8, .inl zf))] ++ [(q15, .inl (cI, 8, .inl zf))] ++ [(q24, .inl (cI, 320, .inl zf))] ++ [(q32, .inl (cI, 40, .inl zf))] ++ [(q40, .inl (cI, 120, .inl zf))] ++ [(q48, .inl (cI, 28, .inl zf))] ++ [(q56, .inl (cI, 28, .inl zf))]) := hD
  refine W.widen (k := 7) (n := 552) (by omega) (by omega) ?_
  refine va_putF (D := D) (ci := 11) (v := .ref q56) (ty := tyX12 14) (C := RX12) (T := TX12) (N := 21) hx hb hts u_X12_init_X12 tyX12 tyX12_ok nmX12 hown hK.1 hP hD hS 0 rfl rfl 14 (by decide) (hts (.fieldLink RX12 28 "NoticeWeekModel" "draft" "[I") (List.mem_of_getElem? (i := 11) rfl)) (fun _ h9 => h9) rfl hin rfl (tyX12_ok 14 (by decide)) rfl rfl (Nat.le_of_ble_eq_true rfl) dX12_init_58 (fun H locs hP hD hS => ?_)
  have hP : va_P D vwCl ([(h0, .inr (11, [.ref q7, .ref q15, .ref q24, .ref q32, .int 0, .ref q40, .int 0, .int 0, .int 0, .int 0, .int 0, .int 0, .int 0, .ref q48, .ref q56, .null, .int 0, .null, .null, .null, .int 0]))] ++ [(q7, .inl (cI, 8, .inl zf))] ++ [(q15, .inl (cI, 8, .inl zf))] ++ [(q24, .inl (cI, 320, .inl zf))] ++ [(q32, .inl (cI, 40, .inl zf))] ++ [(q40, .inl (cI, 120, .inl zf))] ++ [(q48, .inl (cI, 28, .inl zf))] ++ [(q56, .inl (cI, 28, .inl zf))]) H := hP
  have hD : va_D A ([(h0, .inr (11, [.ref q7, .ref q15, .ref q24, .ref q32, .int 0, .ref q40, .int 0, .int 0, .int 0, .int 0, .int 0, .int 0, .int 0, .ref q48, .ref q56, .null, .int 0, .null, .null, .null, .int 0]))] ++ [(q7, .inl (cI, 8, .inl zf))] ++ [(q15, .inl (cI, 8, .inl zf))] ++ [(q24, .inl (cI, 320, .inl zf))] ++ [(q32, .inl (cI, 40, .inl zf))] ++ [(q40, .inl (cI, 120, .inl zf))] ++ [(q48, .inl (cI, 28, .inl zf))] ++ [(q56, .inl (cI, 28, .inl zf))]) := hD
  refine lv_aload_n hx hb dX12_init_61 rfl (lv_at hl 0 rfl) ?_
  refine lv_sipush (v := (nI 672)) hx hb dX12_init_62 (by decide) ?_
  refine b_newI (N := 672) hx hb (hts (.arrayClass .int) (List.mem_of_getElem? (i := 4) rfl)) hK hP hD hS hA (by decide) (by decide) (Nat.le_of_ble_eq_true rfl) (Nat.le_of_ble_eq_true rfl) dX12_init_65 (fun q65 H hP hD hS => ?_)
  have hP : va_P D vwCl ([(h0, .inr (11, [.ref q7, .ref q15, .ref q24, .ref q32, .int 0, .ref q40, .int 0, .int 0, .int 0, .int 0, .int 0, .int 0, .int 0, .ref q48, .ref q56, .null, .int 0, .null, .null, .null, .int 0]))] ++ [(q7, .inl (cI, 8, .inl zf))] ++ [(q15, .inl (cI, 8, .inl zf))] ++ [(q24, .inl (cI, 320, .inl zf))] ++ [(q32, .inl (cI, 40, .inl zf))] ++ [(q40, .inl (cI, 120, .inl zf))] ++ [(q48, .inl (cI, 28, .inl zf))] ++ [(q56, .inl (cI, 28, .inl zf))] ++ [(q65, .inl (cI, 672, .inl zf))]) H := hP
  have hD : va_D A ([(h0, .inr (11, [.ref q7, .ref q15, .ref q24, .ref q32, .int 0, .ref q40, .int 0, .int 0, .int 0, .int 0, .int 0, .int 0, .int 0, .ref q48, .ref q56, .null, .int 0, .null, .null, .null, .int 0]))] ++ [(q7, .inl (cI, 8, .inl zf))] ++ [(q15, .inl (cI, 8, .inl zf))] ++ [(q24, .inl (cI, 320, .inl zf))] ++ [(q32, .inl (cI, 40, .inl zf))] ++ [(q40, .inl (cI, 120, .inl zf))] ++ [(q48, .inl (cI, 28, .inl zf))] ++ [(q56, .inl (cI, 28, .inl zf))] ++ [(q65, .inl (cI, 672, .inl zf))]) := hD
  refine W.widen (k := 8) (n := 1224) (by omega) (by omega) ?_
  refine va_putF (D := D) (ci := 11) (v := .ref q65) (ty := tyX12 15) (C := RX12) (T := TX12) (N := 21) hx hb hts u_X12_init_X12 tyX12 tyX12_ok nmX12 hown hK.1 hP hD hS 0 rfl rfl 15 (by decide) (hts (.fieldLink RX12 31 "NoticeWeekModel" "past" "[I") (List.mem_of_getElem? (i := 12) rfl)) (fun _ h9 => h9) rfl hin rfl (tyX12_ok 15 (by decide)) rfl rfl (Nat.le_of_ble_eq_true rfl) dX12_init_67 (fun H locs hP hD hS => ?_)
  have hP : va_P D vwCl ([(h0, .inr (11, [.ref q7, .ref q15, .ref q24, .ref q32, .int 0, .ref q40, .int 0, .int 0, .int 0, .int 0, .int 0, .int 0, .int 0, .ref q48, .ref q56, .ref q65, .int 0, .null, .null, .null, .int 0]))] ++ [(q7, .inl (cI, 8, .inl zf))] ++ [(q15, .inl (cI, 8, .inl zf))] ++ [(q24, .inl (cI, 320, .inl zf))] ++ [(q32, .inl (cI, 40, .inl zf))] ++ [(q40, .inl (cI, 120, .inl zf))] ++ [(q48, .inl (cI, 28, .inl zf))] ++ [(q56, .inl (cI, 28, .inl zf))] ++ [(q65, .inl (cI, 672, .inl zf))]) H := hP
  have hD : va_D A ([(h0, .inr (11, [.ref q7, .ref q15, .ref q24, .ref q32, .int 0, .ref q40, .int 0, .int 0, .int 0, .int 0, .int 0, .int 0, .int 0, .ref q48, .ref q56, .ref q65, .int 0, .null, .null, .null, .int 0]))] ++ [(q7, .inl (cI, 8, .inl zf))] ++ [(q15, .inl (cI, 8, .inl zf))] ++ [(q24, .inl (cI, 320, .inl zf))] ++ [(q32, .inl (cI, 40, .inl zf))] ++ [(q40, .inl (cI, 120, .inl zf))] ++ [(q48, .inl (cI, 28, .inl zf))] ++ [(q56, .inl (cI, 28, .inl zf))] ++ [(q65, .inl (cI, 672, .inl zf))]) := hD
  refine lv_aload_n hx hb dX12_init_70 rfl (lv_at hl 0 rfl) ?_
  refine lv_bipush (v := (nI 56)) hx hb dX12_init_71 (by decide) ?_
  refine b_newI (N := 56) hx hb (hts (.arrayClass .int) (List.mem_of_getElem? (i := 4) rfl)) hK hP hD hS hA (by decide) (by decide) (Nat.le_of_ble_eq_true rfl) (Nat.le_of_ble_eq_true rfl) dX12_init_73 (fun q73 H hP hD hS => ?_)
  have hP : va_P D vwCl ([(h0, .inr (11, [.ref q7, .ref q15, .ref q24, .ref q32, .int 0, .ref q40, .int 0, .int 0, .int 0, .int 0, .int 0, .int 0, .int 0, .ref q48, .ref q56, .ref q65, .int 0, .null, .null, .null, .int 0]))] ++ [(q7, .inl (cI, 8, .inl zf))] ++ [(q15, .inl (cI, 8, .inl zf))] ++ [(q24, .inl (cI, 320, .inl zf))] ++ [(q32, .inl (cI, 40, .inl zf))] ++ [(q40, .inl (cI, 120, .inl zf))] ++ [(q48, .inl (cI, 28, .inl zf))] ++ [(q56, .inl (cI, 28, .inl zf))] ++ [(q65, .inl (cI, 672, .inl zf))] ++ [(q73, .inl (cI, 56, .inl zf))]) H := hP
  have hD : va_D A ([(h0, .inr (11, [.ref q7, .ref q15, .ref q24, .ref q32, .int 0, .ref q40, .int 0, .int 0, .int 0, .int 0, .int 0, .int 0, .int 0, .ref q48, .ref q56, .ref q65, .int 0, .null, .null, .null, .int 0]))] ++ [(q7, .inl (cI, 8, .inl zf))] ++ [(q15, .inl (cI, 8, .inl zf))] ++ [(q24, .inl (cI, 320, .inl zf))] ++ [(q32, .inl (cI, 40, .inl zf))] ++ [(q40, .inl (cI, 120, .inl zf))] ++ [(q48, .inl (cI, 28, .inl zf))] ++ [(q56, .inl (cI, 28, .inl zf))] ++ [(q65, .inl (cI, 672, .inl zf))] ++ [(q73, .inl (cI, 56, .inl zf))]) := hD
  refine W.widen (k := 9) (n := 1280) (by omega) (by omega) ?_
  refine va_putF (D := D) (ci := 11) (v := .ref q73) (ty := tyX12 17) (C := RX12) (T := TX12) (N := 21) hx hb hts u_X12_init_X12 tyX12 tyX12_ok nmX12 hown hK.1 hP hD hS 0 rfl rfl 17 (by decide) (hts (.fieldLink RX12 34 "NoticeWeekModel" "images" "[I") (List.mem_of_getElem? (i := 13) rfl)) (fun _ h9 => h9) rfl hin rfl (tyX12_ok 17 (by decide)) rfl rfl (Nat.le_of_ble_eq_true rfl) dX12_init_75 (fun H locs hP hD hS => ?_)
  have hP : va_P D vwCl ([(h0, .inr (11, [.ref q7, .ref q15, .ref q24, .ref q32, .int 0, .ref q40, .int 0, .int 0, .int 0, .int 0, .int 0, .int 0, .int 0, .ref q48, .ref q56, .ref q65, .int 0, .ref q73, .null, .null, .int 0]))] ++ [(q7, .inl (cI, 8, .inl zf))] ++ [(q15, .inl (cI, 8, .inl zf))] ++ [(q24, .inl (cI, 320, .inl zf))] ++ [(q32, .inl (cI, 40, .inl zf))] ++ [(q40, .inl (cI, 120, .inl zf))] ++ [(q48, .inl (cI, 28, .inl zf))] ++ [(q56, .inl (cI, 28, .inl zf))] ++ [(q65, .inl (cI, 672, .inl zf))] ++ [(q73, .inl (cI, 56, .inl zf))]) H := hP
  have hD : va_D A ([(h0, .inr (11, [.ref q7, .ref q15, .ref q24, .ref q32, .int 0, .ref q40, .int 0, .int 0, .int 0, .int 0, .int 0, .int 0, .int 0, .ref q48, .ref q56, .ref q65, .int 0, .ref q73, .null, .null, .int 0]))] ++ [(q7, .inl (cI, 8, .inl zf))] ++ [(q15, .inl (cI, 8, .inl zf))] ++ [(q24, .inl (cI, 320, .inl zf))] ++ [(q32, .inl (cI, 40, .inl zf))] ++ [(q40, .inl (cI, 120, .inl zf))] ++ [(q48, .inl (cI, 28, .inl zf))] ++ [(q56, .inl (cI, 28, .inl zf))] ++ [(q65, .inl (cI, 672, .inl zf))] ++ [(q73, .inl (cI, 56, .inl zf))]) := hD
  refine lv_aload_n hx hb dX12_init_78 rfl (lv_at hl 0 rfl) ?_
  refine lv_iconst (v := (nI 2)) hx hb dX12_init_79 (by decide) ?_
  refine b_newZ (N := 2) hx hb (hts (.arrayClass .boolean) (List.mem_of_getElem? (i := 14) rfl)) hK hP hD hS hA (by decide) (by decide) (Nat.le_of_ble_eq_true rfl) (Nat.le_of_ble_eq_true rfl) dX12_init_80 (fun q80 H hP hD hS => ?_)
  have hP : va_P D vwCl ([(h0, .inr (11, [.ref q7, .ref q15, .ref q24, .ref q32, .int 0, .ref q40, .int 0, .int 0, .int 0, .int 0, .int 0, .int 0, .int 0, .ref q48, .ref q56, .ref q65, .int 0, .ref q73, .null, .null, .int 0]))] ++ [(q7, .inl (cI, 8, .inl zf))] ++ [(q15, .inl (cI, 8, .inl zf))] ++ [(q24, .inl (cI, 320, .inl zf))] ++ [(q32, .inl (cI, 40, .inl zf))] ++ [(q40, .inl (cI, 120, .inl zf))] ++ [(q48, .inl (cI, 28, .inl zf))] ++ [(q56, .inl (cI, 28, .inl zf))] ++ [(q65, .inl (cI, 672, .inl zf))] ++ [(q73, .inl (cI, 56, .inl zf))] ++ [(q80, .inl (cZ, 2, .inl zf))]) H := hP
  have hD : va_D A ([(h0, .inr (11, [.ref q7, .ref q15, .ref q24, .ref q32, .int 0, .ref q40, .int 0, .int 0, .int 0, .int 0, .int 0, .int 0, .int 0, .ref q48, .ref q56, .ref q65, .int 0, .ref q73, .null, .null, .int 0]))] ++ [(q7, .inl (cI, 8, .inl zf))] ++ [(q15, .inl (cI, 8, .inl zf))] ++ [(q24, .inl (cI, 320, .inl zf))] ++ [(q32, .inl (cI, 40, .inl zf))] ++ [(q40, .inl (cI, 120, .inl zf))] ++ [(q48, .inl (cI, 28, .inl zf))] ++ [(q56, .inl (cI, 28, .inl zf))] ++ [(q65, .inl (cI, 672, .inl zf))] ++ [(q73, .inl (cI, 56, .inl zf))] ++ [(q80, .inl (cZ, 2, .inl zf))]) := hD
  refine W.widen (k := 10) (n := 1282) (by omega) (by omega) ?_
  refine va_putF (D := D) (ci := 11) (v := .ref q80) (ty := tyX12 18) (C := RX12) (T := TX12) (N := 21) hx hb hts u_X12_init_X12 tyX12 tyX12_ok nmX12 hown hK.1 hP hD hS 0 rfl rfl 18 (by decide) (hts (.fieldLink RX12 37 "NoticeWeekModel" "kept" "[Z") (List.mem_of_getElem? (i := 15) rfl)) (fun _ h9 => h9) rfl hin rfl (tyX12_ok 18 (by decide)) rfl rfl (Nat.le_of_ble_eq_true rfl) dX12_init_82 (fun H locs hP hD hS => ?_)
  have hP : va_P D vwCl ([(h0, .inr (11, [.ref q7, .ref q15, .ref q24, .ref q32, .int 0, .ref q40, .int 0, .int 0, .int 0, .int 0, .int 0, .int 0, .int 0, .ref q48, .ref q56, .ref q65, .int 0, .ref q73, .ref q80, .null, .int 0]))] ++ [(q7, .inl (cI, 8, .inl zf))] ++ [(q15, .inl (cI, 8, .inl zf))] ++ [(q24, .inl (cI, 320, .inl zf))] ++ [(q32, .inl (cI, 40, .inl zf))] ++ [(q40, .inl (cI, 120, .inl zf))] ++ [(q48, .inl (cI, 28, .inl zf))] ++ [(q56, .inl (cI, 28, .inl zf))] ++ [(q65, .inl (cI, 672, .inl zf))] ++ [(q73, .inl (cI, 56, .inl zf))] ++ [(q80, .inl (cZ, 2, .inl zf))]) H := hP
  have hD : va_D A ([(h0, .inr (11, [.ref q7, .ref q15, .ref q24, .ref q32, .int 0, .ref q40, .int 0, .int 0, .int 0, .int 0, .int 0, .int 0, .int 0, .ref q48, .ref q56, .ref q65, .int 0, .ref q73, .ref q80, .null, .int 0]))] ++ [(q7, .inl (cI, 8, .inl zf))] ++ [(q15, .inl (cI, 8, .inl zf))] ++ [(q24, .inl (cI, 320, .inl zf))] ++ [(q32, .inl (cI, 40, .inl zf))] ++ [(q40, .inl (cI, 120, .inl zf))] ++ [(q48, .inl (cI, 28, .inl zf))] ++ [(q56, .inl (cI, 28, .inl zf))] ++ [(q65, .inl (cI, 672, .inl zf))] ++ [(q73, .inl (cI, 56, .inl zf))] ++ [(q80, .inl (cZ, 2, .inl zf))]) := hD
  refine lv_aload_n hx hb dX12_init_85 rfl (lv_at hl 0 rfl) ?_
  refine lv_bipush (v := (nI 16)) hx hb dX12_init_86 (by decide) ?_
  refine b_newI (N := 16) hx hb (hts (.arrayClass .int) (List.mem_of_getElem? (i := 4) rfl)) hK hP hD hS hA (by decide) (by decide) (Nat.le_of_ble_eq_true rfl) (Nat.le_of_ble_eq_true rfl) dX12_init_88 (fun q88 H hP hD hS => ?_)
  have hP : va_P D vwCl ([(h0, .inr (11, [.ref q7, .ref q15, .ref q24, .ref q32, .int 0, .ref q40, .int 0, .int 0, .int 0, .int 0, .int 0, .int 0, .int 0, .ref q48, .ref q56, .ref q65, .int 0, .ref q73, .ref q80, .null, .int 0]))] ++ [(q7, .inl (cI, 8, .inl zf))] ++ [(q15, .inl (cI, 8, .inl zf))] ++ [(q24, .inl (cI, 320, .inl zf))] ++ [(q32, .inl (cI, 40, .inl zf))] ++ [(q40, .inl (cI, 120, .inl zf))] ++ [(q48, .inl (cI, 28, .inl zf))] ++ [(q56, .inl (cI, 28, .inl zf))] ++ [(q65, .inl (cI, 672, .inl zf))] ++ [(q73, .inl (cI, 56, .inl zf))] ++ [(q80, .inl (cZ, 2, .inl zf))] ++ [(q88, .inl (cI, 16, .inl zf))]) H := hP
  have hD : va_D A ([(h0, .inr (11, [.ref q7, .ref q15, .ref q24, .ref q32, .int 0, .ref q40, .int 0, .int 0, .int 0, .int 0, .int 0, .int 0, .int 0, .ref q48, .ref q56, .ref q65, .int 0, .ref q73, .ref q80, .null, .int 0]))] ++ [(q7, .inl (cI, 8, .inl zf))] ++ [(q15, .inl (cI, 8, .inl zf))] ++ [(q24, .inl (cI, 320, .inl zf))] ++ [(q32, .inl (cI, 40, .inl zf))] ++ [(q40, .inl (cI, 120, .inl zf))] ++ [(q48, .inl (cI, 28, .inl zf))] ++ [(q56, .inl (cI, 28, .inl zf))] ++ [(q65, .inl (cI, 672, .inl zf))] ++ [(q73, .inl (cI, 56, .inl zf))] ++ [(q80, .inl (cZ, 2, .inl zf))] ++ [(q88, .inl (cI, 16, .inl zf))]) := hD
  refine W.widen (k := 11) (n := 1298) (by omega) (by omega) ?_
  refine va_putF (D := D) (ci := 11) (v := .ref q88) (ty := tyX12 19) (C := RX12) (T := TX12) (N := 21) hx hb hts u_X12_init_X12 tyX12 tyX12_ok nmX12 hown hK.1 hP hD hS 0 rfl rfl 19 (by decide) (hts (.fieldLink RX12 41 "NoticeWeekModel" "trace" "[I") (List.mem_of_getElem? (i := 16) rfl)) (fun _ h9 => h9) rfl hin rfl (tyX12_ok 19 (by decide)) rfl rfl (Nat.le_of_ble_eq_true rfl) dX12_init_90 (fun H locs hP hD hS => ?_)
  have hP : va_P D vwCl ([(h0, .inr (11, [.ref q7, .ref q15, .ref q24, .ref q32, .int 0, .ref q40, .int 0, .int 0, .int 0, .int 0, .int 0, .int 0, .int 0, .ref q48, .ref q56, .ref q65, .int 0, .ref q73, .ref q80, .ref q88, .int 0]))] ++ [(q7, .inl (cI, 8, .inl zf))] ++ [(q15, .inl (cI, 8, .inl zf))] ++ [(q24, .inl (cI, 320, .inl zf))] ++ [(q32, .inl (cI, 40, .inl zf))] ++ [(q40, .inl (cI, 120, .inl zf))] ++ [(q48, .inl (cI, 28, .inl zf))] ++ [(q56, .inl (cI, 28, .inl zf))] ++ [(q65, .inl (cI, 672, .inl zf))] ++ [(q73, .inl (cI, 56, .inl zf))] ++ [(q80, .inl (cZ, 2, .inl zf))] ++ [(q88, .inl (cI, 16, .inl zf))]) H := hP
  have hD : va_D A ([(h0, .inr (11, [.ref q7, .ref q15, .ref q24, .ref q32, .int 0, .ref q40, .int 0, .int 0, .int 0, .int 0, .int 0, .int 0, .int 0, .ref q48, .ref q56, .ref q65, .int 0, .ref q73, .ref q80, .ref q88, .int 0]))] ++ [(q7, .inl (cI, 8, .inl zf))] ++ [(q15, .inl (cI, 8, .inl zf))] ++ [(q24, .inl (cI, 320, .inl zf))] ++ [(q32, .inl (cI, 40, .inl zf))] ++ [(q40, .inl (cI, 120, .inl zf))] ++ [(q48, .inl (cI, 28, .inl zf))] ++ [(q56, .inl (cI, 28, .inl zf))] ++ [(q65, .inl (cI, 672, .inl zf))] ++ [(q73, .inl (cI, 56, .inl zf))] ++ [(q80, .inl (cZ, 2, .inl zf))] ++ [(q88, .inl (cI, 16, .inl zf))]) := hD
  refine lv_iconst (v := nI 0) hx hb dX12_init_93 (by decide) ?_
  refine lv_istore_n (lv' := [(1, .int (nI 0)), (0, .ref h0)]) hx hb dX12_init_94 rfl hl (by decide) rfl (fun ls hl => ?_)
  refine b_loopM (N := 8) (I := fun k ls H locs => lv_has ls 2 [(1, .int (nI k)), (0, .ref h0)] ∧ va_P D vwCl ([(h0, .inr (11, [.ref q7, .ref q15, .ref q24, .ref q32, .int 0, .ref q40, .int 0, .int 0, .int 0, .int 0, .int 0, .int 0, .int 0, .ref q48, .ref q56, .ref q65, .int 0, .ref q73, .ref q80, .ref q88, .int 0]))] ++ [(q7, .inl (cI, 8, .inl (lm ((-1000000)) k)))] ++ [(q15, .inl (cI, 8, .inl zf))] ++ [(q24, .inl (cI, 320, .inl zf))] ++ [(q32, .inl (cI, 40, .inl zf))] ++ [(q40, .inl (cI, 120, .inl zf))] ++ [(q48, .inl (cI, 28, .inl zf))] ++ [(q56, .inl (cI, 28, .inl zf))] ++ [(q65, .inl (cI, 672, .inl zf))] ++ [(q73, .inl (cI, 56, .inl zf))] ++ [(q80, .inl (cZ, 2, .inl zf))] ++ [(q88, .inl (cI, 16, .inl zf))]) H ∧ va_S A s.heap H locs) (fun k hk ih ls H locs hI => ?_) 0 (by omega) ⟨lv_sub hl [0, 1] rfl, hP, hS⟩
  obtain ⟨hl, hP, hS⟩ := hI
  have hl : lv_has ls 2 [(1, .int (nI k)), (0, .ref h0)] := hl
  have hP : va_P D vwCl ([(h0, .inr (11, [.ref q7, .ref q15, .ref q24, .ref q32, .int 0, .ref q40, .int 0, .int 0, .int 0, .int 0, .int 0, .int 0, .int 0, .ref q48, .ref q56, .ref q65, .int 0, .ref q73, .ref q80, .ref q88, .int 0]))] ++ [(q7, .inl (cI, 8, .inl (lm ((-1000000)) k)))] ++ [(q15, .inl (cI, 8, .inl zf))] ++ [(q24, .inl (cI, 320, .inl zf))] ++ [(q32, .inl (cI, 40, .inl zf))] ++ [(q40, .inl (cI, 120, .inl zf))] ++ [(q48, .inl (cI, 28, .inl zf))] ++ [(q56, .inl (cI, 28, .inl zf))] ++ [(q65, .inl (cI, 672, .inl zf))] ++ [(q73, .inl (cI, 56, .inl zf))] ++ [(q80, .inl (cZ, 2, .inl zf))] ++ [(q88, .inl (cI, 16, .inl zf))]) H := hP
  have hD : va_D A ([(h0, .inr (11, [.ref q7, .ref q15, .ref q24, .ref q32, .int 0, .ref q40, .int 0, .int 0, .int 0, .int 0, .int 0, .int 0, .int 0, .ref q48, .ref q56, .ref q65, .int 0, .ref q73, .ref q80, .ref q88, .int 0]))] ++ [(q7, .inl (cI, 8, .inl (lm ((-1000000)) k)))] ++ [(q15, .inl (cI, 8, .inl zf))] ++ [(q24, .inl (cI, 320, .inl zf))] ++ [(q32, .inl (cI, 40, .inl zf))] ++ [(q40, .inl (cI, 120, .inl zf))] ++ [(q48, .inl (cI, 28, .inl zf))] ++ [(q56, .inl (cI, 28, .inl zf))] ++ [(q65, .inl (cI, 672, .inl zf))] ++ [(q73, .inl (cI, 56, .inl zf))] ++ [(q80, .inl (cZ, 2, .inl zf))] ++ [(q88, .inl (cI, 16, .inl zf))]) := hD.same rfl
  refine lv_iload_n hx hb dX12_init_95 rfl (lv_at hl 0 rfl) ?_
  refine lv_bipush (v := nI 8) hx hb dX12_init_96 (by decide) ?_
  refine b_ge (tgt := 115) hx hb (by omega) (by omega) dX12_init_98 (by decide) (fun c1 => ?_) (fun c1 => ?_)
  · have hk8 : k = 8 := by omega
    subst hk8
    exact b_vretI (ws := [(h0, .inr (11, [.ref q7, .ref q15, .ref q24, .ref q32, .int 0, .ref q40, .int 0, .int 0, .int 0, .int 0, .int 0, .int 0, .int 0, .ref q48, .ref q56, .ref q65, .int 0, .ref q73, .ref q80, .ref q88, .int 0]))] ++ [(q7, .inl (cI, 8, .inl (lm ((-1000000)) 8)))] ++ [(q15, .inl (cI, 8, .inl zf))] ++ [(q24, .inl (cI, 320, .inl zf))] ++ [(q32, .inl (cI, 40, .inl zf))] ++ [(q40, .inl (cI, 120, .inl zf))] ++ [(q48, .inl (cI, 28, .inl zf))] ++ [(q56, .inl (cI, 28, .inl zf))] ++ [(q65, .inl (cI, 672, .inl zf))] ++ [(q73, .inl (cI, 56, .inl zf))] ++ [(q80, .inl (cZ, 2, .inl zf))] ++ [(q88, .inl (cI, 16, .inl zf))]) hx hb hr ⟨(fun k => [h0, q7, q15, q24, q32, q40, q48, q56, q65, q73, q80, q88].getD k 0), rfl, rfl⟩ hP hD hS dX12_init_115 hlocks
  · refine lv_aload_n hx hb dX12_init_101 rfl (lv_at hl 1 rfl) ?_
    refine va_get (D := D) (ci := 11) (v := .ref q7) (C := RX12) (T := TX12) (N := 21) hx hb hts u_X12_init_X12 hown hK.1 hP 0 rfl rfl 0 (by decide) (hts (.fieldLink RX12 7 "NoticeWeekModel" "lane" "[I") (List.mem_of_getElem? (i := 5) rfl)) (fun _ h9 => h9) rfl dX12_init_102 ?_
    refine lv_iload_n hx hb dX12_init_105 rfl (lv_at hl 0 rfl) ?_
    refine lv_ldc (v := (-1000000)) hx hb hown (hts (.constant RX12 44 (-1000000)) (List.mem_of_getElem? (i := 17) rfl)) dX12_init_106 ?_
    refine b_ast hx hb hK hP hD hS 1 rfl (by omega) (by decide) dX12_init_108 (fun H locs hP hS => ?_)
    have hP : va_P D vwCl ([(h0, .inr (11, [.ref q7, .ref q15, .ref q24, .ref q32, .int 0, .ref q40, .int 0, .int 0, .int 0, .int 0, .int 0, .int 0, .int 0, .ref q48, .ref q56, .ref q65, .int 0, .ref q73, .ref q80, .ref q88, .int 0]))] ++ [(q7, .inl (cI, 8, .inl (lm ((-1000000)) (k + 1))))] ++ [(q15, .inl (cI, 8, .inl zf))] ++ [(q24, .inl (cI, 320, .inl zf))] ++ [(q32, .inl (cI, 40, .inl zf))] ++ [(q40, .inl (cI, 120, .inl zf))] ++ [(q48, .inl (cI, 28, .inl zf))] ++ [(q56, .inl (cI, 28, .inl zf))] ++ [(q65, .inl (cI, 672, .inl zf))] ++ [(q73, .inl (cI, 56, .inl zf))] ++ [(q80, .inl (cZ, 2, .inl zf))] ++ [(q88, .inl (cI, 16, .inl zf))]) H := hP
    refine lv_iinc (v := (nI (k + 1))) (lv' := [(1, .int (nI (k + 1))), (0, .ref h0)]) hx hb dX12_init_109 hl (k := 0) rfl (nI_add _ _) (by decide) rfl (fun ls hl => ?_)
    refine lv_goto (tgt := 95) hx hb dX12_init_112 (by decide) ?_
    exact ih (by omega) ls H locs ⟨lv_sub hl [0, 1] rfl, hP, hS⟩
theorem u_X2_init_X2 : ∀ w ∈ wsX20, w ∈ wsX2_init := fun _ h => List.mem_cons_of_mem _ (List.mem_append_left _ (List.mem_append_left _ (List.mem_append_left _ (List.mem_append_left _ (List.mem_append_right _ h)))))
set_option maxHeartbeats 2000000 in
set_option maxRecDepth 100000 in
theorem i_X2 (l : Launch) (D : va_G) (cI cZ cT : ClassId) (h0 sz : Nat) : Met l yX2_init wsX2_init ({ frames := 4, cells := 7, slots := 23, locals := 72 }) (pI D cI cZ cT [.ref h0] [(h0, .inr (2, [.null, .null, .null, .null, .null, .null, .null]))] sz) (qI D (fun w => ∃ a : Nat → Nat, a 0 = h0 ∧ w = wFore cI a zf zf) (va_A [(h0, .inr (2, [.null, .null, .null, .null, .null, .null, .null]))] sz)) 7 23 (va_A [(h0, .inr (2, [.null, .null, .null, .null, .null, .null, .null]))] sz) := by
  refine Met.ofW (cc := cX2_init) (maxL := 1) (ret := none) (by decide) rfl ?_
  intro p e s m args below meth c s₁ B hml hv
  obtain ⟨rfl, hsz, hP, hD0, hK⟩ := hv
  have hx := B.exec
  have hb := B.bytes
  have hr := B.returns
  have hts := atoms_spec (ws := wsX2_init) B.pre
  have hown : s.vm.findClass RX2 = some m.cls := findClass_of_methodNamed B.named
  have hlocks := B.notSynchronized
  have hin : meth.name = "<init>" := (name_of_methodNamed B.named B.method).1
  subst hsz
  have hD := hD0.self (sz := s.heap.size)
  generalize hAe : va_A [(h0, .inr (2, [.null, .null, .null, .null, .null, .null, .null]))] s.heap.size = A at hD ⊢
  have hA : ∀ q : Nat, s.heap.size ≤ q → A q := fun q h => by rw [← hAe]; exact Or.inr h
  have hS : va_S A s.heap s.heap [] := va_S.rf
  have hl := lv_entry ([.ref h0]) (n := 1) (Nat.le_of_ble_eq_true rfl)
  rw [lg_entry_eq]
  generalize (lg_sl ([.ref h0]) ++ List.replicate (1 - (lg_sl ([.ref h0])).length) Slot.unset).toArray = ls at hl ⊢
  have hl : lv_has ls 1 [(0, .ref h0)] := hl
  refine lv_aload_n hx hb dX2_init_0 rfl (lv_at hl 0 rfl) ?_
  refine W.objInit hx hb hown (hts (.methodLink RX2 3 objectInit) (List.mem_of_getElem? (i := 1) rfl)) (hts (.instanceMethod objectInit) (List.mem_of_getElem? (i := 2) rfl)) (hts _ (List.mem_of_getElem? (i := 3) rfl)) rfl (by rw [hml]; exact hl.1) rfl dX2_init_1 (Nat.le_of_ble_eq_true rfl) (Nat.le_of_ble_eq_true rfl) ?_
  refine W.eq (g2 := F0 m 4 ls []) rfl ?_
  refine lv_aload_n hx hb dX2_init_4 rfl (lv_at hl 0 rfl) ?_
  refine va_new (ci := 3) (fs := []) (C := RX3) (T := TX3) (N := 0) hx hb hts (fun w h => absurd (show w ∈ ([] : List Cond) from h) List.not_mem_nil) tyX3 tyX3_ok hown (hts (.classLink RX2 9 RX3) (List.mem_of_getElem? (i := 4) rfl)) (hts (.instantiable RX3 0) (List.mem_of_getElem? (i := 5) rfl)) (hts (.initialized RX3) (List.mem_of_getElem? (i := 6) rfl)) hK.1 hP hD hS hA rfl (fun j hj => absurd hj (by omega)) (Nat.le_of_ble_eq_true rfl) (Nat.le_of_ble_eq_true rfl) dX2_init_5 (fun q5 H hP hD hS => ?_)
  have hP : va_P D vwCl ([(h0, .inr (2, [.null, .null, .null, .null, .null, .null, .null]))] ++ [(q5, .inr (3, []))]) H := hP
  have hD : va_D A ([(h0, .inr (2, [.null, .null, .null, .null, .null, .null, .null]))] ++ [(q5, .inr (3, []))]) := hD
  refine W.widen (k := 1) (n := 0) (by omega) (by omega) ?_
  refine lv_dup hx hb dX2_init_8 rfl ?_
  refine b_callI (wr := [(h0, .inr (2, [.null, .null, .null, .null, .null, .null, .null]))]) (wc := [(q5, .inr (3, []))]) (va_runIN (As := []) (rest := [.ref q5, .ref h0]) ⟨hx, hb, hml, hown, hts⟩ (i_X3 l D cI cZ cT q5 H.size 3) ⟨va_cnB (host := RX11) 0 hts gX2_init_X3_init_n11 rfl rfl rfl (hK.2.1 _ (List.mem_of_getElem? (i := 3) rfl)) (hts (.initialized RX3) (List.mem_of_getElem? (i := 6) rfl)) (by decide +kernel) ⟨(Nat.le_of_ble_eq_true rfl), (Nat.le_of_ble_eq_true rfl)⟩, rfl, hts (.instanceMethod yX3_init) (List.mem_of_getElem? (i := 27) rfl)⟩ (b_pI (wr := [(h0, .inr (2, [.null, .null, .null, .null, .null, .null, .null]))]) (wc := [(q5, .inr (3, []))]) hK hP hD) rfl rfl hl.1 rfl (lv_room (Nat.le_of_ble_eq_true rfl)) dX2_init_9 ⟨(Nat.le_of_ble_eq_true rfl), (Nat.le_of_ble_eq_true rfl)⟩).run hP hD hS hA (fun wc9 H locs hw9 hP hD hS => ?_)
  subst hw9
  have hP : va_P D vwCl ([(h0, .inr (2, [.null, .null, .null, .null, .null, .null, .null]))] ++ [(q5, .inr (3, []))]) H := hP
  have hD : va_D A ([(h0, .inr (2, [.null, .null, .null, .null, .null, .null, .null]))] ++ [(q5, .inr (3, []))]) := hD
  refine W.widen (k := 1) (n := 0) (by omega) (by omega) ?_
  refine va_putF (D := D) (ci := 2) (v := .ref q5) (ty := tyX2 0) (C := RX2) (T := TX2) (N := 7) hx hb hts u_X2_init_X2 tyX2 tyX2_ok nmX2 hown hK.1 hP hD hS 0 rfl rfl 0 (by decide) (hts (.fieldLink RX2 12 "NoticeWeek$Foresight" "proud" "LNoticeWeek$Temper;") (List.mem_of_getElem? (i := 7) rfl)) (fun _ h9 => h9) rfl hin rfl (tyX2_ok 0 (by decide)) rfl rfl (Nat.le_of_ble_eq_true rfl) dX2_init_12 (fun H locs hP hD hS => ?_)
  have hP : va_P D vwCl ([(h0, .inr (2, [.ref q5, .null, .null, .null, .null, .null, .null]))] ++ [(q5, .inr (3, []))]) H := hP
  have hD : va_D A ([(h0, .inr (2, [.ref q5, .null, .null, .null, .null, .null, .null]))] ++ [(q5, .inr (3, []))]) := hD
  refine lv_aload_n hx hb dX2_init_15 rfl (lv_at hl 0 rfl) ?_
  refine va_new (ci := 9) (fs := []) (C := RX10) (T := TX10) (N := 0) hx hb hts (fun w h => absurd (show w ∈ ([] : List Cond) from h) List.not_mem_nil) tyX10 tyX10_ok hown (hts (.classLink RX2 18 RX10) (List.mem_of_getElem? (i := 8) rfl)) (hts (.instantiable RX10 0) (List.mem_of_getElem? (i := 9) rfl)) (hts (.initialized RX10) (List.mem_of_getElem? (i := 10) rfl)) hK.1 hP hD hS hA rfl (fun j hj => absurd hj (by omega)) (Nat.le_of_ble_eq_true rfl) (Nat.le_of_ble_eq_true rfl) dX2_init_16 (fun q16 H hP hD hS => ?_)
  have hP : va_P D vwCl ([(h0, .inr (2, [.ref q5, .null, .null, .null, .null, .null, .null]))] ++ [(q5, .inr (3, []))] ++ [(q16, .inr (9, []))]) H := hP
  have hD : va_D A ([(h0, .inr (2, [.ref q5, .null, .null, .null, .null, .null, .null]))] ++ [(q5, .inr (3, []))] ++ [(q16, .inr (9, []))]) := hD
  refine W.widen (k := 2) (n := 0) (by omega) (by omega) ?_
  refine lv_dup hx hb dX2_init_19 rfl ?_
  refine b_callI (wr := [(h0, .inr (2, [.ref q5, .null, .null, .null, .null, .null, .null]))] ++ [(q5, .inr (3, []))]) (wc := [(q16, .inr (9, []))]) (va_runIN (As := []) (rest := [.ref q16, .ref h0]) ⟨hx, hb, hml, hown, hts⟩ (i_X10 l D cI cZ cT q16 H.size 9) ⟨va_cnB (host := RX11) 0 hts gX2_init_X10_init_n20 rfl rfl rfl (hK.2.1 _ (List.mem_of_getElem? (i := 5) rfl)) (hts (.initialized RX10) (List.mem_of_getElem? (i := 10) rfl)) (by decide +kernel) ⟨(Nat.le_of_ble_eq_true rfl), (Nat.le_of_ble_eq_true rfl)⟩, rfl, hts (.instanceMethod yX10_init) (List.mem_of_getElem? (i := 33) rfl)⟩ (b_pI (wr := [(h0, .inr (2, [.ref q5, .null, .null, .null, .null, .null, .null]))] ++ [(q5, .inr (3, []))]) (wc := [(q16, .inr (9, []))]) hK hP hD) rfl rfl hl.1 rfl (lv_room (Nat.le_of_ble_eq_true rfl)) dX2_init_20 ⟨(Nat.le_of_ble_eq_true rfl), (Nat.le_of_ble_eq_true rfl)⟩).run hP hD hS hA (fun wc9 H locs hw9 hP hD hS => ?_)
  subst hw9
  have hP : va_P D vwCl ([(h0, .inr (2, [.ref q5, .null, .null, .null, .null, .null, .null]))] ++ [(q5, .inr (3, []))] ++ [(q16, .inr (9, []))]) H := hP
  have hD : va_D A ([(h0, .inr (2, [.ref q5, .null, .null, .null, .null, .null, .null]))] ++ [(q5, .inr (3, []))] ++ [(q16, .inr (9, []))]) := hD
  refine W.widen (k := 2) (n := 0) (by omega) (by omega) ?_
  refine va_putF (D := D) (ci := 2) (v := .ref q16) (ty := tyX2 1) (C := RX2) (T := TX2) (N := 7) hx hb hts u_X2_init_X2 tyX2 tyX2_ok nmX2 hown hK.1 hP hD hS 0 rfl rfl 1 (by decide) (hts (.fieldLink RX2 21 "NoticeWeek$Foresight" "vain" "LNoticeWeek$Temper;") (List.mem_of_getElem? (i := 11) rfl)) (fun _ h9 => h9) rfl hin rfl (tyX2_ok 1 (by decide)) rfl rfl (Nat.le_of_ble_eq_true rfl) dX2_init_23 (fun H locs hP hD hS => ?_)
  have hP : va_P D vwCl ([(h0, .inr (2, [.ref q5, .ref q16, .null, .null, .null, .null, .null]))] ++ [(q5, .inr (3, []))] ++ [(q16, .inr (9, []))]) H := hP
  have hD : va_D A ([(h0, .inr (2, [.ref q5, .ref q16, .null, .null, .null, .null, .null]))] ++ [(q5, .inr (3, []))] ++ [(q16, .inr (9, []))]) := hD
  refine lv_aload_n hx hb dX2_init_26 rfl (lv_at hl 0 rfl) ?_
  refine va_new (ci := 5) (fs := []) (C := RX5) (T := TX5) (N := 0) hx hb hts (fun w h => absurd (show w ∈ ([] : List Cond) from h) List.not_mem_nil) tyX5 tyX5_ok hown (hts (.classLink RX2 24 RX5) (List.mem_of_getElem? (i := 12) rfl)) (hts (.instantiable RX5 0) (List.mem_of_getElem? (i := 13) rfl)) (hts (.initialized RX5) (List.mem_of_getElem? (i := 14) rfl)) hK.1 hP hD hS hA rfl (fun j hj => absurd hj (by omega)) (Nat.le_of_ble_eq_true rfl) (Nat.le_of_ble_eq_true rfl) dX2_init_27 (fun q27 H hP hD hS => ?_)
  have hP : va_P D vwCl ([(h0, .inr (2, [.ref q5, .ref q16, .null, .null, .null, .null, .null]))] ++ [(q5, .inr (3, []))] ++ [(q16, .inr (9, []))] ++ [(q27, .inr (5, []))]) H := hP
  have hD : va_D A ([(h0, .inr (2, [.ref q5, .ref q16, .null, .null, .null, .null, .null]))] ++ [(q5, .inr (3, []))] ++ [(q16, .inr (9, []))] ++ [(q27, .inr (5, []))]) := hD
  refine W.widen (k := 3) (n := 0) (by omega) (by omega) ?_
  refine lv_dup hx hb dX2_init_30 rfl ?_
  refine b_callI (wr := [(h0, .inr (2, [.ref q5, .ref q16, .null, .null, .null, .null, .null]))] ++ [(q5, .inr (3, []))] ++ [(q16, .inr (9, []))]) (wc := [(q27, .inr (5, []))]) (va_runIN (As := []) (rest := [.ref q27, .ref h0]) ⟨hx, hb, hml, hown, hts⟩ (i_X5 l D cI cZ cT q27 H.size 5) ⟨va_cnB (host := RX11) 0 hts gX2_init_X5_init_n26 rfl rfl rfl (hK.2.1 _ (List.mem_of_getElem? (i := 7) rfl)) (hts (.initialized RX5) (List.mem_of_getElem? (i := 14) rfl)) (by decide +kernel) ⟨(Nat.le_of_ble_eq_true rfl), (Nat.le_of_ble_eq_true rfl)⟩, rfl, hts (.instanceMethod yX5_init) (List.mem_of_getElem? (i := 35) rfl)⟩ (b_pI (wr := [(h0, .inr (2, [.ref q5, .ref q16, .null, .null, .null, .null, .null]))] ++ [(q5, .inr (3, []))] ++ [(q16, .inr (9, []))]) (wc := [(q27, .inr (5, []))]) hK hP hD) rfl rfl hl.1 rfl (lv_room (Nat.le_of_ble_eq_true rfl)) dX2_init_31 ⟨(Nat.le_of_ble_eq_true rfl), (Nat.le_of_ble_eq_true rfl)⟩).run hP hD hS hA (fun wc9 H locs hw9 hP hD hS => ?_)
  subst hw9
  have hP : va_P D vwCl ([(h0, .inr (2, [.ref q5, .ref q16, .null, .null, .null, .null, .null]))] ++ [(q5, .inr (3, []))] ++ [(q16, .inr (9, []))] ++ [(q27, .inr (5, []))]) H := hP
  have hD : va_D A ([(h0, .inr (2, [.ref q5, .ref q16, .null, .null, .null, .null, .null]))] ++ [(q5, .inr (3, []))] ++ [(q16, .inr (9, []))] ++ [(q27, .inr (5, []))]) := hD
  refine W.widen (k := 3) (n := 0) (by omega) (by omega) ?_
  refine va_putF (D := D) (ci := 2) (v := .ref q27) (ty := tyX2 2) (C := RX2) (T := TX2) (N := 7) hx hb hts u_X2_init_X2 tyX2 tyX2_ok nmX2 hown hK.1 hP hD hS 0 rfl rfl 2 (by decide) (hts (.fieldLink RX2 27 "NoticeWeek$Foresight" "shy" "LNoticeWeek$Temper;") (List.mem_of_getElem? (i := 15) rfl)) (fun _ h9 => h9) rfl hin rfl (tyX2_ok 2 (by decide)) rfl rfl (Nat.le_of_ble_eq_true rfl) dX2_init_34 (fun H locs hP hD hS => ?_)
  have hP : va_P D vwCl ([(h0, .inr (2, [.ref q5, .ref q16, .ref q27, .null, .null, .null, .null]))] ++ [(q5, .inr (3, []))] ++ [(q16, .inr (9, []))] ++ [(q27, .inr (5, []))]) H := hP
  have hD : va_D A ([(h0, .inr (2, [.ref q5, .ref q16, .ref q27, .null, .null, .null, .null]))] ++ [(q5, .inr (3, []))] ++ [(q16, .inr (9, []))] ++ [(q27, .inr (5, []))]) := hD
  refine lv_aload_n hx hb dX2_init_37 rfl (lv_at hl 0 rfl) ?_
  refine va_new (ci := 1) (fs := []) (C := RX1) (T := TX1) (N := 0) hx hb hts (fun w h => absurd (show w ∈ ([] : List Cond) from h) List.not_mem_nil) tyX1 tyX1_ok hown (hts (.classLink RX2 30 RX1) (List.mem_of_getElem? (i := 16) rfl)) (hts (.instantiable RX1 0) (List.mem_of_getElem? (i := 17) rfl)) (hts (.initialized RX1) (List.mem_of_getElem? (i := 18) rfl)) hK.1 hP hD hS hA rfl (fun j hj => absurd hj (by omega)) (Nat.le_of_ble_eq_true rfl) (Nat.le_of_ble_eq_true rfl) dX2_init_38 (fun q38 H hP hD hS => ?_)
  have hP : va_P D vwCl ([(h0, .inr (2, [.ref q5, .ref q16, .ref q27, .null, .null, .null, .null]))] ++ [(q5, .inr (3, []))] ++ [(q16, .inr (9, []))] ++ [(q27, .inr (5, []))] ++ [(q38, .inr (1, []))]) H := hP
  have hD : va_D A ([(h0, .inr (2, [.ref q5, .ref q16, .ref q27, .null, .null, .null, .null]))] ++ [(q5, .inr (3, []))] ++ [(q16, .inr (9, []))] ++ [(q27, .inr (5, []))] ++ [(q38, .inr (1, []))]) := hD
  refine W.widen (k := 4) (n := 0) (by omega) (by omega) ?_
  refine lv_dup hx hb dX2_init_41 rfl ?_
  refine b_callI (wr := [(h0, .inr (2, [.ref q5, .ref q16, .ref q27, .null, .null, .null, .null]))] ++ [(q5, .inr (3, []))] ++ [(q16, .inr (9, []))] ++ [(q27, .inr (5, []))]) (wc := [(q38, .inr (1, []))]) (va_runIN (As := []) (rest := [.ref q38, .ref h0]) ⟨hx, hb, hml, hown, hts⟩ (i_X1 l D cI cZ cT q38 H.size 1) ⟨va_cnB (host := RX11) 0 hts gX2_init_X1_init_n32 rfl rfl rfl (hK.2.1 _ (List.mem_of_getElem? (i := 9) rfl)) (hts (.initialized RX1) (List.mem_of_getElem? (i := 18) rfl)) (by decide +kernel) ⟨(Nat.le_of_ble_eq_true rfl), (Nat.le_of_ble_eq_true rfl)⟩, rfl, hts (.instanceMethod yX1_init) (List.mem_of_getElem? (i := 37) rfl)⟩ (b_pI (wr := [(h0, .inr (2, [.ref q5, .ref q16, .ref q27, .null, .null, .null, .null]))] ++ [(q5, .inr (3, []))] ++ [(q16, .inr (9, []))] ++ [(q27, .inr (5, []))]) (wc := [(q38, .inr (1, []))]) hK hP hD) rfl rfl hl.1 rfl (lv_room (Nat.le_of_ble_eq_true rfl)) dX2_init_42 ⟨(Nat.le_of_ble_eq_true rfl), (Nat.le_of_ble_eq_true rfl)⟩).run hP hD hS hA (fun wc9 H locs hw9 hP hD hS => ?_)
  subst hw9
  have hP : va_P D vwCl ([(h0, .inr (2, [.ref q5, .ref q16, .ref q27, .null, .null, .null, .null]))] ++ [(q5, .inr (3, []))] ++ [(q16, .inr (9, []))] ++ [(q27, .inr (5, []))] ++ [(q38, .inr (1, []))]) H := hP
  have hD : va_D A ([(h0, .inr (2, [.ref q5, .ref q16, .ref q27, .null, .null, .null, .null]))] ++ [(q5, .inr (3, []))] ++ [(q16, .inr (9, []))] ++ [(q27, .inr (5, []))] ++ [(q38, .inr (1, []))]) := hD
  refine W.widen (k := 4) (n := 0) (by omega) (by omega) ?_
  refine va_putF (D := D) (ci := 2) (v := .ref q38) (ty := tyX2 3) (C := RX2) (T := TX2) (N := 7) hx hb hts u_X2_init_X2 tyX2 tyX2_ok nmX2 hown hK.1 hP hD hS 0 rfl rfl 3 (by decide) (hts (.fieldLink RX2 33 "NoticeWeek$Foresight" "cross" "LNoticeWeek$Temper;") (List.mem_of_getElem? (i := 19) rfl)) (fun _ h9 => h9) rfl hin rfl (tyX2_ok 3 (by decide)) rfl rfl (Nat.le_of_ble_eq_true rfl) dX2_init_45 (fun H locs hP hD hS => ?_)
  have hP : va_P D vwCl ([(h0, .inr (2, [.ref q5, .ref q16, .ref q27, .ref q38, .null, .null, .null]))] ++ [(q5, .inr (3, []))] ++ [(q16, .inr (9, []))] ++ [(q27, .inr (5, []))] ++ [(q38, .inr (1, []))]) H := hP
  have hD : va_D A ([(h0, .inr (2, [.ref q5, .ref q16, .ref q27, .ref q38, .null, .null, .null]))] ++ [(q5, .inr (3, []))] ++ [(q16, .inr (9, []))] ++ [(q27, .inr (5, []))] ++ [(q38, .inr (1, []))]) := hD
  refine lv_aload_n hx hb dX2_init_48 rfl (lv_at hl 0 rfl) ?_
  refine va_new (ci := 0) (fs := []) (C := RX0) (T := TX0) (N := 0) hx hb hts (fun w h => absurd (show w ∈ ([] : List Cond) from h) List.not_mem_nil) tyX0 tyX0_ok hown (hts (.classLink RX2 36 RX0) (List.mem_of_getElem? (i := 20) rfl)) (hts (.instantiable RX0 0) (List.mem_of_getElem? (i := 21) rfl)) (hts (.initialized RX0) (List.mem_of_getElem? (i := 22) rfl)) hK.1 hP hD hS hA rfl (fun j hj => absurd hj (by omega)) (Nat.le_of_ble_eq_true rfl) (Nat.le_of_ble_eq_true rfl) dX2_init_49 (fun q49 H hP hD hS => ?_)
  have hP : va_P D vwCl ([(h0, .inr (2, [.ref q5, .ref q16, .ref q27, .ref q38, .null, .null, .null]))] ++ [(q5, .inr (3, []))] ++ [(q16, .inr (9, []))] ++ [(q27, .inr (5, []))] ++ [(q38, .inr (1, []))] ++ [(q49, .inr (0, []))]) H := hP
  have hD : va_D A ([(h0, .inr (2, [.ref q5, .ref q16, .ref q27, .ref q38, .null, .null, .null]))] ++ [(q5, .inr (3, []))] ++ [(q16, .inr (9, []))] ++ [(q27, .inr (5, []))] ++ [(q38, .inr (1, []))] ++ [(q49, .inr (0, []))]) := hD
  refine W.widen (k := 5) (n := 0) (by omega) (by omega) ?_
  refine lv_dup hx hb dX2_init_52 rfl ?_
  refine b_callI (wr := [(h0, .inr (2, [.ref q5, .ref q16, .ref q27, .ref q38, .null, .null, .null]))] ++ [(q5, .inr (3, []))] ++ [(q16, .inr (9, []))] ++ [(q27, .inr (5, []))] ++ [(q38, .inr (1, []))]) (wc := [(q49, .inr (0, []))]) (va_runIN (As := []) (rest := [.ref q49, .ref h0]) ⟨hx, hb, hml, hown, hts⟩ (i_X0 l D cI cZ cT q49 H.size 0) ⟨va_cnB (host := RX11) 0 hts gX2_init_X0_init_n38 rfl rfl rfl (hK.2.1 _ (List.mem_of_getElem? (i := 11) rfl)) (hts (.initialized RX0) (List.mem_of_getElem? (i := 22) rfl)) (by decide +kernel) ⟨(Nat.le_of_ble_eq_true rfl), (Nat.le_of_ble_eq_true rfl)⟩, rfl, hts (.instanceMethod yX0_init) (List.mem_of_getElem? (i := 39) rfl)⟩ (b_pI (wr := [(h0, .inr (2, [.ref q5, .ref q16, .ref q27, .ref q38, .null, .null, .null]))] ++ [(q5, .inr (3, []))] ++ [(q16, .inr (9, []))] ++ [(q27, .inr (5, []))] ++ [(q38, .inr (1, []))]) (wc := [(q49, .inr (0, []))]) hK hP hD) rfl rfl hl.1 rfl (lv_room (Nat.le_of_ble_eq_true rfl)) dX2_init_53 ⟨(Nat.le_of_ble_eq_true rfl), (Nat.le_of_ble_eq_true rfl)⟩).run hP hD hS hA (fun wc9 H locs hw9 hP hD hS => ?_)
  subst hw9
  have hP : va_P D vwCl ([(h0, .inr (2, [.ref q5, .ref q16, .ref q27, .ref q38, .null, .null, .null]))] ++ [(q5, .inr (3, []))] ++ [(q16, .inr (9, []))] ++ [(q27, .inr (5, []))] ++ [(q38, .inr (1, []))] ++ [(q49, .inr (0, []))]) H := hP
  have hD : va_D A ([(h0, .inr (2, [.ref q5, .ref q16, .ref q27, .ref q38, .null, .null, .null]))] ++ [(q5, .inr (3, []))] ++ [(q16, .inr (9, []))] ++ [(q27, .inr (5, []))] ++ [(q38, .inr (1, []))] ++ [(q49, .inr (0, []))]) := hD
  refine W.widen (k := 5) (n := 0) (by omega) (by omega) ?_
  refine va_putF (D := D) (ci := 2) (v := .ref q49) (ty := tyX2 4) (C := RX2) (T := TX2) (N := 7) hx hb hts u_X2_init_X2 tyX2 tyX2_ok nmX2 hown hK.1 hP hD hS 0 rfl rfl 4 (by decide) (hts (.fieldLink RX2 39 "NoticeWeek$Foresight" "calm" "LNoticeWeek$Temper;") (List.mem_of_getElem? (i := 23) rfl)) (fun _ h9 => h9) rfl hin rfl (tyX2_ok 4 (by decide)) rfl rfl (Nat.le_of_ble_eq_true rfl) dX2_init_56 (fun H locs hP hD hS => ?_)
  have hP : va_P D vwCl ([(h0, .inr (2, [.ref q5, .ref q16, .ref q27, .ref q38, .ref q49, .null, .null]))] ++ [(q5, .inr (3, []))] ++ [(q16, .inr (9, []))] ++ [(q27, .inr (5, []))] ++ [(q38, .inr (1, []))] ++ [(q49, .inr (0, []))]) H := hP
  have hD : va_D A ([(h0, .inr (2, [.ref q5, .ref q16, .ref q27, .ref q38, .ref q49, .null, .null]))] ++ [(q5, .inr (3, []))] ++ [(q16, .inr (9, []))] ++ [(q27, .inr (5, []))] ++ [(q38, .inr (1, []))] ++ [(q49, .inr (0, []))]) := hD
  refine lv_aload_n hx hb dX2_init_59 rfl (lv_at hl 0 rfl) ?_
  refine lv_bipush (v := (nI 16)) hx hb dX2_init_60 (by decide) ?_
  refine b_newI (N := 16) hx hb (hts (.arrayClass .int) (List.mem_of_getElem? (i := 24) rfl)) hK hP hD hS hA (by decide) (by decide) (Nat.le_of_ble_eq_true rfl) (Nat.le_of_ble_eq_true rfl) dX2_init_62 (fun q62 H hP hD hS => ?_)
  have hP : va_P D vwCl ([(h0, .inr (2, [.ref q5, .ref q16, .ref q27, .ref q38, .ref q49, .null, .null]))] ++ [(q5, .inr (3, []))] ++ [(q16, .inr (9, []))] ++ [(q27, .inr (5, []))] ++ [(q38, .inr (1, []))] ++ [(q49, .inr (0, []))] ++ [(q62, .inl (cI, 16, .inl zf))]) H := hP
  have hD : va_D A ([(h0, .inr (2, [.ref q5, .ref q16, .ref q27, .ref q38, .ref q49, .null, .null]))] ++ [(q5, .inr (3, []))] ++ [(q16, .inr (9, []))] ++ [(q27, .inr (5, []))] ++ [(q38, .inr (1, []))] ++ [(q49, .inr (0, []))] ++ [(q62, .inl (cI, 16, .inl zf))]) := hD
  refine W.widen (k := 6) (n := 16) (by omega) (by omega) ?_
  refine va_putF (D := D) (ci := 2) (v := .ref q62) (ty := tyX2 5) (C := RX2) (T := TX2) (N := 7) hx hb hts u_X2_init_X2 tyX2 tyX2_ok nmX2 hown hK.1 hP hD hS 0 rfl rfl 5 (by decide) (hts (.fieldLink RX2 42 "NoticeWeek$Foresight" "course" "[I") (List.mem_of_getElem? (i := 25) rfl)) (fun _ h9 => h9) rfl hin rfl (tyX2_ok 5 (by decide)) rfl rfl (Nat.le_of_ble_eq_true rfl) dX2_init_64 (fun H locs hP hD hS => ?_)
  have hP : va_P D vwCl ([(h0, .inr (2, [.ref q5, .ref q16, .ref q27, .ref q38, .ref q49, .ref q62, .null]))] ++ [(q5, .inr (3, []))] ++ [(q16, .inr (9, []))] ++ [(q27, .inr (5, []))] ++ [(q38, .inr (1, []))] ++ [(q49, .inr (0, []))] ++ [(q62, .inl (cI, 16, .inl zf))]) H := hP
  have hD : va_D A ([(h0, .inr (2, [.ref q5, .ref q16, .ref q27, .ref q38, .ref q49, .ref q62, .null]))] ++ [(q5, .inr (3, []))] ++ [(q16, .inr (9, []))] ++ [(q27, .inr (5, []))] ++ [(q38, .inr (1, []))] ++ [(q49, .inr (0, []))] ++ [(q62, .inl (cI, 16, .inl zf))]) := hD
  refine lv_aload_n hx hb dX2_init_67 rfl (lv_at hl 0 rfl) ?_
  refine lv_bipush (v := (nI 7)) hx hb dX2_init_68 (by decide) ?_
  refine b_newI (N := 7) hx hb (hts (.arrayClass .int) (List.mem_of_getElem? (i := 24) rfl)) hK hP hD hS hA (by decide) (by decide) (Nat.le_of_ble_eq_true rfl) (Nat.le_of_ble_eq_true rfl) dX2_init_70 (fun q70 H hP hD hS => ?_)
  have hP : va_P D vwCl ([(h0, .inr (2, [.ref q5, .ref q16, .ref q27, .ref q38, .ref q49, .ref q62, .null]))] ++ [(q5, .inr (3, []))] ++ [(q16, .inr (9, []))] ++ [(q27, .inr (5, []))] ++ [(q38, .inr (1, []))] ++ [(q49, .inr (0, []))] ++ [(q62, .inl (cI, 16, .inl zf))] ++ [(q70, .inl (cI, 7, .inl zf))]) H := hP
  have hD : va_D A ([(h0, .inr (2, [.ref q5, .ref q16, .ref q27, .ref q38, .ref q49, .ref q62, .null]))] ++ [(q5, .inr (3, []))] ++ [(q16, .inr (9, []))] ++ [(q27, .inr (5, []))] ++ [(q38, .inr (1, []))] ++ [(q49, .inr (0, []))] ++ [(q62, .inl (cI, 16, .inl zf))] ++ [(q70, .inl (cI, 7, .inl zf))]) := hD
  refine W.widen (k := 7) (n := 23) (by omega) (by omega) ?_
  refine va_putF (D := D) (ci := 2) (v := .ref q70) (ty := tyX2 6) (C := RX2) (T := TX2) (N := 7) hx hb hts u_X2_init_X2 tyX2 tyX2_ok nmX2 hown hK.1 hP hD hS 0 rfl rfl 6 (by decide) (hts (.fieldLink RX2 46 "NoticeWeek$Foresight" "ways" "[I") (List.mem_of_getElem? (i := 26) rfl)) (fun _ h9 => h9) rfl hin rfl (tyX2_ok 6 (by decide)) rfl rfl (Nat.le_of_ble_eq_true rfl) dX2_init_72 (fun H locs hP hD hS => ?_)
  have hP : va_P D vwCl ([(h0, .inr (2, [.ref q5, .ref q16, .ref q27, .ref q38, .ref q49, .ref q62, .ref q70]))] ++ [(q5, .inr (3, []))] ++ [(q16, .inr (9, []))] ++ [(q27, .inr (5, []))] ++ [(q38, .inr (1, []))] ++ [(q49, .inr (0, []))] ++ [(q62, .inl (cI, 16, .inl zf))] ++ [(q70, .inl (cI, 7, .inl zf))]) H := hP
  have hD : va_D A ([(h0, .inr (2, [.ref q5, .ref q16, .ref q27, .ref q38, .ref q49, .ref q62, .ref q70]))] ++ [(q5, .inr (3, []))] ++ [(q16, .inr (9, []))] ++ [(q27, .inr (5, []))] ++ [(q38, .inr (1, []))] ++ [(q49, .inr (0, []))] ++ [(q62, .inl (cI, 16, .inl zf))] ++ [(q70, .inl (cI, 7, .inl zf))]) := hD
  exact b_vretI (ws := [(h0, .inr (2, [.ref q5, .ref q16, .ref q27, .ref q38, .ref q49, .ref q62, .ref q70]))] ++ [(q5, .inr (3, []))] ++ [(q16, .inr (9, []))] ++ [(q27, .inr (5, []))] ++ [(q38, .inr (1, []))] ++ [(q49, .inr (0, []))] ++ [(q62, .inl (cI, 16, .inl zf))] ++ [(q70, .inl (cI, 7, .inl zf))]) hx hb hr ⟨(fun k => [h0, q5, q16, q27, q38, q49, q62, q70].getD k 0), rfl, rfl⟩ hP hD hS dX2_init_75 hlocks
