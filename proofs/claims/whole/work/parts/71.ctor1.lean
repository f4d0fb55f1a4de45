/-! Constructors -/
abbrev lm (v : Int32) (k : Nat) : Nat → Int32 := itr (fun j f => upd f j v) k zf
set_option maxHeartbeats 300000 in
set_option maxRecDepth 100000 in
theorem i_X7 (l : Launch) (D : va_G) (cI cZ cT : ClassId) (h0 sz : Nat) (ci : Nat) : Met l yX7_init wsX7_init ({ frames := 1, cells := 0, slots := 0, locals := 12 }) (pI D cI cZ cT [.ref h0] [(h0, .inr (ci, []))] sz) (qI D (fun w => w = [(h0, .inr (ci, []))]) (va_A [(h0, .inr (ci, []))] sz)) 0 0 (va_A [(h0, .inr (ci, []))] sz) := by
  refine Met.ofW (cc := cX7_init) (maxL := 1) (ret := none) (by decide) rfl ?_
  intro p e s m args below meth c s₁ B hml hv
  obtain ⟨rfl, hsz, hP, hD0, hK⟩ := hv
  have hx := B.exec
  have hb := B.bytes
  have hr := B.returns
  have hts := atoms_spec (ws := wsX7_init) B.pre
  have hown : s.vm.findClass RX7 = some m.cls := findClass_of_methodNamed B.named
  have hlocks := B.notSynchronized
  have hin : meth.name = "<init>" := (name_of_methodNamed B.named B.method).1
  subst hsz
  have hD := hD0.self (sz := s.heap.size)
  generalize hAe : va_A [(h0, .inr (ci, []))] s.heap.size = A at hD ⊢
  have hA : ∀ q : Nat, s.heap.size ≤ q → A q := fun q h => by rw [← hAe]; exact Or.inr h
  have hS : va_S A s.heap s.heap [] := va_S.rf
  have hl := lv_entry ([.ref h0]) (n := 1) (Nat.le_of_ble_eq_true rfl)
  rw [lg_entry_eq]
  generalize (lg_sl ([.ref h0]) ++ List.replicate (1 - (lg_sl ([.ref h0])).length) Slot.unset).toArray = ls at hl ⊢
  have hl : lv_has ls 1 [(0, .ref h0)] := hl
  refine lv_aload_n hx hb dX7_init_0 rfl (lv_at hl 0 rfl) ?_
  refine W.objInit hx hb hown (hts (.methodLink RX7 1 objectInit) (List.mem_of_getElem? (i := 1) rfl)) (hts (.instanceMethod objectInit) (List.mem_of_getElem? (i := 2) rfl)) (hts _ (List.mem_of_getElem? (i := 3) rfl)) rfl (by rw [hml]; exact hl.1) rfl dX7_init_1 (Nat.le_of_ble_eq_true rfl) (Nat.le_of_ble_eq_true rfl) ?_
  refine W.eq (g2 := F0 m 4 ls []) rfl ?_
  exact b_vretI (ws := [(h0, .inr (ci, []))]) hx hb hr rfl hP hD hS dX7_init_4 hlocks
set_option maxHeartbeats 300000 in
set_option maxRecDepth 100000 in
theorem i_X3 (l : Launch) (D : va_G) (cI cZ cT : ClassId) (h0 sz : Nat) (ci : Nat) : Met l yX3_init wsX3_init ({ frames := 2, cells := 0, slots := 0, locals := 32 }) (pI D cI cZ cT [.ref h0] [(h0, .inr (ci, []))] sz) (qI D (fun w => w = [(h0, .inr (ci, []))]) (va_A [(h0, .inr (ci, []))] sz)) 0 0 (va_A [(h0, .inr (ci, []))] sz) := by
  refine Met.ofW (cc := cX3_init) (maxL := 1) (ret := none) (by decide) rfl ?_
  intro p e s m args below meth c s₁ B hml hv
  obtain ⟨rfl, hsz, hP, hD0, hK⟩ := hv
  have hx := B.exec
  have hb := B.bytes
  have hr := B.returns
  have hts := atoms_spec (ws := wsX3_init) B.pre
  have hown : s.vm.findClass RX3 = some m.cls := findClass_of_methodNamed B.named
  have hlocks := B.notSynchronized
  have hin : meth.name = "<init>" := (name_of_methodNamed B.named B.method).1
  subst hsz
  have hD := hD0.self (sz := s.heap.size)
  generalize hAe : va_A [(h0, .inr (ci, []))] s.heap.size = A at hD ⊢
  have hA : ∀ q : Nat, s.heap.size ≤ q → A q := fun q h => by rw [← hAe]; exact Or.inr h
  have hS : va_S A s.heap s.heap [] := va_S.rf
  have hl := lv_entry ([.ref h0]) (n := 1) (Nat.le_of_ble_eq_true rfl)
  rw [lg_entry_eq]
  generalize (lg_sl ([.ref h0]) ++ List.replicate (1 - (lg_sl ([.ref h0])).length) Slot.unset).toArray = ls at hl ⊢
  have hl : lv_has ls 1 [(0, .ref h0)] := hl
  refine lv_aload_n hx hb dX3_init_0 rfl (lv_at hl 0 rfl) ?_
  refine b_callI (wr := ([] : va_W)) (wc := [(h0, .inr (ci, []))]) (va_runIN (As := []) (rest := []) ⟨hx, hb, hml, hown, hts⟩ (i_X7 l D cI cZ cT h0 _ ci) ⟨va_cnB (host := RX11) 0 hts gX3_init_X7_init_n1 rfl rfl rfl (hK.2.1 _ (List.mem_of_getElem? (i := 4) rfl)) (hts (.initialized RX7) (List.mem_of_getElem? (i := 2) rfl)) (by decide +kernel) ⟨(Nat.le_of_ble_eq_true rfl), (Nat.le_of_ble_eq_true rfl)⟩, rfl, hts (.instanceMethod yX7_init) (List.mem_of_getElem? (i := 1) rfl)⟩ (b_pI (wr := ([] : va_W)) (wc := [(h0, .inr (ci, []))]) hK hP hD) rfl rfl hl.1 rfl (lv_room (Nat.le_of_ble_eq_true rfl)) dX3_init_1 ⟨(Nat.le_of_ble_eq_true rfl), (Nat.le_of_ble_eq_true rfl)⟩).run hP hD hS hA (fun wc9 H locs hw9 hP hD hS => ?_)
  subst hw9
  have hP : va_P D vwCl ([(h0, .inr (ci, []))]) H := hP
  have hD : va_D A ([(h0, .inr (ci, []))]) := hD
  refine W.widen (k := 0) (n := 0) (by omega) (by omega) ?_
  exact b_vretI (ws := [(h0, .inr (ci, []))]) hx hb hr rfl hP hD hS dX3_init_4 hlocks
set_option maxHeartbeats 300000 in
set_option maxRecDepth 100000 in
theorem i_X10 (l : Launch) (D : va_G) (cI cZ cT : ClassId) (h0 sz : Nat) (ci : Nat) : Met l yX10_init wsX10_init ({ frames := 3, cells := 0, slots := 0, locals := 52 }) (pI D cI cZ cT [.ref h0] [(h0, .inr (ci, []))] sz) (qI D (fun w => w = [(h0, .inr (ci, []))]) (va_A [(h0, .inr (ci, []))] sz)) 0 0 (va_A [(h0, .inr (ci, []))] sz) := by
  refine Met.ofW (cc := cX10_init) (maxL := 1) (ret := none) (by decide) rfl ?_
  intro p e s m args below meth c s₁ B hml hv
  obtain ⟨rfl, hsz, hP, hD0, hK⟩ := hv
  have hx := B.exec
  have hb := B.bytes
  have hr := B.returns
  have hts := atoms_spec (ws := wsX10_init) B.pre
  have hown : s.vm.findClass RX10 = some m.cls := findClass_of_methodNamed B.named
  have hlocks := B.notSynchronized
  have hin : meth.name = "<init>" := (name_of_methodNamed B.named B.method).1
  subst hsz
  have hD := hD0.self (sz := s.heap.size)
  generalize hAe : va_A [(h0, .inr (ci, []))] s.heap.size = A at hD ⊢
  have hA : ∀ q : Nat, s.heap.size ≤ q → A q := fun q h => by rw [← hAe]; exact Or.inr h
  have hS : va_S A s.heap s.heap [] := va_S.rf
  have hl := lv_entry ([.ref h0]) (n := 1) (Nat.le_of_ble_eq_true rfl)
  rw [lg_entry_eq]
  generalize (lg_sl ([.ref h0]) ++ List.replicate (1 - (lg_sl ([.ref h0])).length) Slot.unset).toArray = ls at hl ⊢
  have hl : lv_has ls 1 [(0, .ref h0)] := hl
  refine lv_aload_n hx hb dX10_init_0 rfl (lv_at hl 0 rfl) ?_
  refine b_callI (wr := ([] : va_W)) (wc := [(h0, .inr (ci, []))]) (va_runIN (As := []) (rest := []) ⟨hx, hb, hml, hown, hts⟩ (i_X3 l D cI cZ cT h0 _ ci) ⟨va_cnB (host := RX11) 0 hts gX10_init_X3_init_n1 rfl rfl rfl (hK.2.1 _ (List.mem_of_getElem? (i := 6) rfl)) (hts (.initialized RX3) (List.mem_of_getElem? (i := 2) rfl)) (by decide +kernel) ⟨(Nat.le_of_ble_eq_true rfl), (Nat.le_of_ble_eq_true rfl)⟩, rfl, hts (.instanceMethod yX3_init) (List.mem_of_getElem? (i := 1) rfl)⟩ (b_pI (wr := ([] : va_W)) (wc := [(h0, .inr (ci, []))]) hK hP hD) rfl rfl hl.1 rfl (lv_room (Nat.le_of_ble_eq_true rfl)) dX10_init_1 ⟨(Nat.le_of_ble_eq_true rfl), (Nat.le_of_ble_eq_true rfl)⟩).run hP hD hS hA (fun wc9 H locs hw9 hP hD hS => ?_)
  subst hw9
  have hP : va_P D vwCl ([(h0, .inr (ci, []))]) H := hP
  have hD : va_D A ([(h0, .inr (ci, []))]) := hD
  refine W.widen (k := 0) (n := 0) (by omega) (by omega) ?_
  exact b_vretI (ws := [(h0, .inr (ci, []))]) hx hb hr rfl hP hD hS dX10_init_4 hlocks
set_option maxHeartbeats 300000 in
set_option maxRecDepth 100000 in
theorem i_X5 (l : Launch) (D : va_G) (cI cZ cT : ClassId) (h0 sz : Nat) (ci : Nat) : Met l yX5_init wsX5_init ({ frames := 3, cells := 0, slots := 0, locals := 52 }) (pI D cI cZ cT [.ref h0] [(h0, .inr (ci, []))] sz) (qI D (fun w => w = [(h0, .inr (ci, []))]) (va_A [(h0, .inr (ci, []))] sz)) 0 0 (va_A [(h0, .inr (ci, []))] sz) := by
  refine Met.ofW (cc := cX5_init) (maxL := 1) (ret := none) (by decide) rfl ?_
  intro p e s m args below meth c s₁ B hml hv
  obtain ⟨rfl, hsz, hP, hD0, hK⟩ := hv
  have hx := B.exec
  have hb := B.bytes
  have hr := B.returns
  have hts := atoms_spec (ws := wsX5_init) B.pre
  have hown : s.vm.findClass RX5 = some m.cls := findClass_of_methodNamed B.named
  have hlocks := B.notSynchronized
  have hin : meth.name = "<init>" := (name_of_methodNamed B.named B.method).1
  subst hsz
  have hD := hD0.self (sz := s.heap.size)
  generalize hAe : va_A [(h0, .inr (ci, []))] s.heap.size = A at hD ⊢
  have hA : ∀ q : Nat, s.heap.size ≤ q → A q := fun q h => by rw [← hAe]; exact Or.inr h
  have hS : va_S A s.heap s.heap [] := va_S.rf
  have hl := lv_entry ([.ref h0]) (n := 1) (Nat.le_of_ble_eq_true rfl)
  rw [lg_entry_eq]
  generalize (lg_sl ([.ref h0]) ++ List.replicate (1 - (lg_sl ([.ref h0])).length) Slot.unset).toArray = ls at hl ⊢
  have hl : lv_has ls 1 [(0, .ref h0)] := hl
  refine lv_aload_n hx hb dX5_init_0 rfl (lv_at hl 0 rfl) ?_
  refine b_callI (wr := ([] : va_W)) (wc := [(h0, .inr (ci, []))]) (va_runIN (As := []) (rest := []) ⟨hx, hb, hml, hown, hts⟩ (i_X3 l D cI cZ cT h0 _ ci) ⟨va_cnB (host := RX11) 0 hts gX5_init_X3_init_n1 rfl rfl rfl (hK.2.1 _ (List.mem_of_getElem? (i := 8) rfl)) (hts (.initialized RX3) (List.mem_of_getElem? (i := 2) rfl)) (by decide +kernel) ⟨(Nat.le_of_ble_eq_true rfl), (Nat.le_of_ble_eq_true rfl)⟩, rfl, hts (.instanceMethod yX3_init) (List.mem_of_getElem? (i := 1) rfl)⟩ (b_pI (wr := ([] : va_W)) (wc := [(h0, .inr (ci, []))]) hK hP hD) rfl rfl hl.1 rfl (lv_room (Nat.le_of_ble_eq_true rfl)) dX5_init_1 ⟨(Nat.le_of_ble_eq_true rfl), (Nat.le_of_ble_eq_true rfl)⟩).run hP hD hS hA (fun wc9 H locs hw9 hP hD hS => ?_)
  subst hw9
  have hP : va_P D vwCl ([(h0, .inr (ci, []))]) H := hP
  have hD : va_D A ([(h0, .inr (ci, []))]) := hD
  refine W.widen (k := 0) (n := 0) (by omega) (by omega) ?_
  exact b_vretI (ws := [(h0, .inr (ci, []))]) hx hb hr rfl hP hD hS dX5_init_4 hlocks
set_option maxHeartbeats 300000 in
set_option maxRecDepth 100000 in
theorem i_X1 (l : Launch) (D : va_G) (cI cZ cT : ClassId) (h0 sz : Nat) (ci : Nat) : Met l yX1_init wsX1_init ({ frames := 2, cells := 0, slots := 0, locals := 32 }) (pI D cI cZ cT [.ref h0] [(h0, .inr (ci, []))] sz) (qI D (fun w => w = [(h0, .inr (ci, []))]) (va_A [(h0, .inr (ci, []))] sz)) 0 0 (va_A [(h0, .inr (ci, []))] sz) := by
  refine Met.ofW (cc := cX1_init) (maxL := 1) (ret := none) (by decide) rfl ?_
  intro p e s m args below meth c s₁ B hml hv
  obtain ⟨rfl, hsz, hP, hD0, hK⟩ := hv
  have hx := B.exec
  have hb := B.bytes
  have hr := B.returns
  have hts := atoms_spec (ws := wsX1_init) B.pre
  have hown : s.vm.findClass RX1 = some m.cls := findClass_of_methodNamed B.named
  have hlocks := B.notSynchronized
  have hin : meth.name = "<init>" := (name_of_methodNamed B.named B.method).1
  subst hsz
  have hD := hD0.self (sz := s.heap.size)
  generalize hAe : va_A [(h0, .inr (ci, []))] s.heap.size = A at hD ⊢
  have hA : ∀ q : Nat, s.heap.size ≤ q → A q := fun q h => by rw [← hAe]; exact Or.inr h
  have hS : va_S A s.heap s.heap [] := va_S.rf
  have hl := lv_entry ([.ref h0]) (n := 1) (Nat.le_of_ble_eq_true rfl)
  rw [lg_entry_eq]
  generalize (lg_sl ([.ref h0]) ++ List.replicate (1 - (lg_sl ([.ref h0])).length) Slot.unset).toArray = ls at hl ⊢
  have hl : lv_has ls 1 [(0, .ref h0)] := hl
  refine lv_aload_n hx hb dX1_init_0 rfl (lv_at hl 0 rfl) ?_
  refine b_callI (wr := ([] : va_W)) (wc := [(h0, .inr (ci, []))]) (va_runIN (As := []) (rest := []) ⟨hx, hb, hml, hown, hts⟩ (i_X7 l D cI cZ cT h0 _ ci) ⟨va_cnB (host := RX11) 0 hts gX1_init_X7_init_n3 rfl rfl rfl (hK.2.1 _ (List.mem_of_getElem? (i := 10) rfl)) (hts (.initialized RX7) (List.mem_of_getElem? (i := 2) rfl)) (by decide +kernel) ⟨(Nat.le_of_ble_eq_true rfl), (Nat.le_of_ble_eq_true rfl)⟩, rfl, hts (.instanceMethod yX7_init) (List.mem_of_getElem? (i := 1) rfl)⟩ (b_pI (wr := ([] : va_W)) (wc := [(h0, .inr (ci, []))]) hK hP hD) rfl rfl hl.1 rfl (lv_room (Nat.le_of_ble_eq_true rfl)) dX1_init_1 ⟨(Nat.le_of_ble_eq_true rfl), (Nat.le_of_ble_eq_true rfl)⟩).run hP hD hS hA (fun wc9 H locs hw9 hP hD hS => ?_)
  subst hw9
  have hP : va_P D vwCl ([(h0, .inr (ci, []))]) H := hP
  have hD : va_D A ([(h0, .inr (ci, []))]) := hD
  refine W.widen (k := 0) (n := 0) (by omega) (by omega) ?_
  exact b_vretI (ws := [(h0, .inr (ci, []))]) hx hb hr rfl hP hD hS dX1_init_4 hlocks
set_option maxHeartbeats 300000 in
set_option maxRecDepth 100000 in
theorem i_X0 (l : Launch) (D : va_G) (cI cZ cT : ClassId) (h0 sz : Nat) (ci : Nat) : Met l yX0_init wsX0_init ({ frames := 3, cells := 0, slots := 0, locals := 52 }) (pI D cI cZ cT [.ref h0] [(h0, .inr (ci, []))] sz) (qI D (fun w => w = [(h0, .inr (ci, []))]) (va_A [(h0, .inr (ci, []))] sz)) 0 0 (va_A [(h0, .inr (ci, []))] sz) := by
  refine Met.ofW (cc := cX0_init) (maxL := 1) (ret := none) (by decide) rfl ?_
  intro p e s m args below meth c s₁ B hml hv
  obtain ⟨rfl, hsz, hP, hD0, hK⟩ := hv
  have hx := B.exec
  have hb := B.bytes
  have hr := B.returns
  have hts := atoms_spec (ws := wsX0_init) B.pre
  have hown : s.vm.findClass RX0 = some m.cls := findClass_of_methodNamed B.named
  have hlocks := B.notSynchronized
  have hin : meth.name = "<init>" := (name_of_methodNamed B.named B.method).1
  subst hsz
  have hD := hD0.self (sz := s.heap.size)
  generalize hAe : va_A [(h0, .inr (ci, []))] s.heap.size = A at hD ⊢
  have hA : ∀ q : Nat, s.heap.size ≤ q → A q := fun q h => by rw [← hAe]; exact Or.inr h
  have hS : va_S A s.heap s.heap [] := va_S.rf
  have hl := lv_entry ([.ref h0]) (n := 1) (Nat.le_of_ble_eq_true rfl)
  rw [lg_entry_eq]
  generalize (lg_sl ([.ref h0]) ++ List.replicate (1 - (lg_sl ([.ref h0])).length) Slot.unset).toArray = ls at hl ⊢
  have hl : lv_has ls 1 [(0, .ref h0)] := hl
  refine lv_aload_n hx hb dX0_init_0 rfl (lv_at hl 0 rfl) ?_
  refine b_callI (wr := ([] : va_W)) (wc := [(h0, .inr (ci, []))]) (va_runIN (As := []) (rest := []) ⟨hx, hb, hml, hown, hts⟩ (i_X1 l D cI cZ cT h0 _ ci) ⟨va_cnB (host := RX11) 0 hts gX0_init_X1_init_n1 rfl rfl rfl (hK.2.1 _ (List.mem_of_getElem? (i := 12) rfl)) (hts (.initialized RX1) (List.mem_of_getElem? (i := 2) rfl)) (by decide +kernel) ⟨(Nat.le_of_ble_eq_true rfl), (Nat.le_of_ble_eq_true rfl)⟩, rfl, hts (.instanceMethod yX1_init) (List.mem_of_getElem? (i := 1) rfl)⟩ (b_pI (wr := ([] : va_W)) (wc := [(h0, .inr (ci, []))]) hK hP hD) rfl rfl hl.1 rfl (lv_room (Nat.le_of_ble_eq_true rfl)) dX0_init_1 ⟨(Nat.le_of_ble_eq_true rfl), (Nat.le_of_ble_eq_true rfl)⟩).run hP hD hS hA (fun wc9 H locs hw9 hP hD hS => ?_)
  subst hw9
  have hP : va_P D vwCl ([(h0, .inr (ci, []))]) H := hP
  have hD : va_D A ([(h0, .inr (ci, []))]) := hD
  refine W.widen (k := 0) (n := 0) (by omega) (by omega) ?_
  exact b_vretI (ws := [(h0, .inr (ci, []))]) hx hb hr rfl hP hD hS dX0_init_4 hlocks
theorem u_X6_init_X6 : ∀ w ∈ wsX60, w ∈ wsX6_init := fun _ h => List.mem_cons_of_mem _ (List.mem_append_right _ h)
set_option maxHeartbeats 300000 in
set_option maxRecDepth 100000 in
theorem i_X6 (l : Launch) (D : va_G) (cI cZ cT : ClassId) (h0 sz : Nat) : Met l yX6_init wsX6_init ({ frames := 1, cells := 1, slots := 120, locals := 12 }) (pI D cI cZ cT [.ref h0] [(h0, .inr (6, [.null, .int 0, .int 0, .int 0, .int 0]))] sz) (qI D (fun w => ∃ a : Nat → Nat, a 0 = h0 ∧ w = wTape cI a 0 0 0 0 zf) (va_A [(h0, .inr (6, [.null, .int 0, .int 0, .int 0, .int 0]))] sz)) 1 120 (va_A [(h0, .inr (6, [.null, .int 0, .int 0, .int 0, .int 0]))] sz) := by
  refine Met.ofW (cc := cX6_init) (maxL := 1) (ret := none) (by decide) rfl ?_
  intro p e s m args below meth c s₁ B hml hv
  obtain ⟨rfl, hsz, hP, hD0, hK⟩ := hv
  have hx := B.exec
  have hb := B.bytes
  have hr := B.returns
  have hts := atoms_spec (ws := wsX6_init) B.pre
  have hown : s.vm.findClass RX6 = some m.cls := findClass_of_methodNamed B.named
  have hlocks := B.notSynchronized
  have hin : meth.name = "<init>" := (name_of_methodNamed B.named B.method).1
  subst hsz
  have hD := hD0.self (sz := s.heap.size)
  generalize hAe : va_A [(h0, .inr (6, [.null, .int 0, .int 0, .int 0, .int 0]))] s.heap.size = A at hD ⊢
  have hA : ∀ q : Nat, s.heap.size ≤ q → A q := fun q h => by rw [← hAe]; exact Or.inr h
  have hS : va_S A s.heap s.heap [] := va_S.rf
  have hl := lv_entry ([.ref h0]) (n := 1) (Nat.le_of_ble_eq_true rfl)
  rw [lg_entry_eq]
  generalize (lg_sl ([.ref h0]) ++ List.replicate (1 - (lg_sl ([.ref h0])).length) Slot.unset).toArray = ls at hl ⊢
  have hl : lv_has ls 1 [(0, .ref h0)] := hl
  refine lv_aload_n hx hb dX6_init_0 rfl (lv_at hl 0 rfl) ?_
  refine W.objInit hx hb hown (hts (.methodLink RX6 3 objectInit) (List.mem_of_getElem? (i := 1) rfl)) (hts (.instanceMethod objectInit) (List.mem_of_getElem? (i := 2) rfl)) (hts _ (List.mem_of_getElem? (i := 3) rfl)) rfl (by rw [hml]; exact hl.1) rfl dX6_init_1 (Nat.le_of_ble_eq_true rfl) (Nat.le_of_ble_eq_true rfl) ?_
  refine W.eq (g2 := F0 m 4 ls []) rfl ?_
  refine lv_aload_n hx hb dX6_init_4 rfl (lv_at hl 0 rfl) ?_
  refine lv_bipush (v := (nI 120)) hx hb dX6_init_5 (by decide) ?_
  refine b_newI (N := 120) hx hb (hts (.arrayClass .int) (List.mem_of_getElem? (i := 4) rfl)) hK hP hD hS hA (by decide) (by decide) (Nat.le_of_ble_eq_true rfl) (Nat.le_of_ble_eq_true rfl) dX6_init_7 (fun q7 H hP hD hS => ?_)
  have hP : va_P D vwCl ([(h0, .inr (6, [.null, .int 0, .int 0, .int 0, .int 0]))] ++ [(q7, .inl (cI, 120, .inl zf))]) H := hP
  have hD : va_D A ([(h0, .inr (6, [.null, .int 0, .int 0, .int 0, .int 0]))] ++ [(q7, .inl (cI, 120, .inl zf))]) := hD
  refine W.widen (k := 1) (n := 120) (by omega) (by omega) ?_
  refine va_putF (D := D) (ci := 6) (v := .ref q7) (ty := tyX6 0) (C := RX6) (T := TX6) (N := 5) hx hb hts u_X6_init_X6 tyX6 tyX6_ok nmX6 hown hK.1 hP hD hS 0 rfl rfl 0 (by decide) (hts (.fieldLink RX6 11 "NoticeWeek$Tape" "bytes" "[I") (List.mem_of_getElem? (i := 5) rfl)) (fun _ h9 => h9) rfl hin rfl (tyX6_ok 0 (by decide)) rfl rfl (Nat.le_of_ble_eq_true rfl) dX6_init_9 (fun H locs hP hD hS => ?_)
  have hP : va_P D vwCl ([(h0, .inr (6, [.ref q7, .int 0, .int 0, .int 0, .int 0]))] ++ [(q7, .inl (cI, 120, .inl zf))]) H := hP
  have hD : va_D A ([(h0, .inr (6, [.ref q7, .int 0, .int 0, .int 0, .int 0]))] ++ [(q7, .inl (cI, 120, .inl zf))]) := hD
  refine lv_aload_n hx hb dX6_init_12 rfl (lv_at hl 0 rfl) ?_
  refine lv_iconst (v := 0) hx hb dX6_init_13 (by decide) ?_
  refine va_put (D := D) (ci := 6) (v := .int 0) (ty := tyX6 1) (C := RX6) (T := TX6) (N := 5) hx hb hts u_X6_init_X6 tyX6 tyX6_ok nmX6 hown hK.1 hP hD hS 0 rfl rfl 1 (by decide) (hts (.fieldLink RX6 15 "NoticeWeek$Tape" "length" "I") (List.mem_of_getElem? (i := 6) rfl)) (fun _ h9 => h9) rfl (tyX6_ok 1 (by decide)) rfl rfl (Nat.le_of_ble_eq_true rfl) dX6_init_14 (fun H locs hP hD hS => ?_)
  have hP : va_P D vwCl ([(h0, .inr (6, [.ref q7, .int 0, .int 0, .int 0, .int 0]))] ++ [(q7, .inl (cI, 120, .inl zf))]) H := hP
  have hD : va_D A ([(h0, .inr (6, [.ref q7, .int 0, .int 0, .int 0, .int 0]))] ++ [(q7, .inl (cI, 120, .inl zf))]) := hD
  refine lv_aload_n hx hb dX6_init_17 rfl (lv_at hl 0 rfl) ?_
  refine lv_iconst (v := 0) hx hb dX6_init_18 (by decide) ?_
  refine va_put (D := D) (ci := 6) (v := .int 0) (ty := tyX6 2) (C := RX6) (T := TX6) (N := 5) hx hb hts u_X6_init_X6 tyX6 tyX6_ok nmX6 hown hK.1 hP hD hS 0 rfl rfl 2 (by decide) (hts (.fieldLink RX6 19 "NoticeWeek$Tape" "latestFault" "I") (List.mem_of_getElem? (i := 7) rfl)) (fun _ h9 => h9) rfl (tyX6_ok 2 (by decide)) rfl rfl (Nat.le_of_ble_eq_true rfl) dX6_init_19 (fun H locs hP hD hS => ?_)
  have hP : va_P D vwCl ([(h0, .inr (6, [.ref q7, .int 0, .int 0, .int 0, .int 0]))] ++ [(q7, .inl (cI, 120, .inl zf))]) H := hP
  have hD : va_D A ([(h0, .inr (6, [.ref q7, .int 0, .int 0, .int 0, .int 0]))] ++ [(q7, .inl (cI, 120, .inl zf))]) := hD
  refine lv_aload_n hx hb dX6_init_22 rfl (lv_at hl 0 rfl) ?_
  refine lv_iconst (v := 0) hx hb dX6_init_23 (by decide) ?_
  refine va_put (D := D) (ci := 6) (v := .int 0) (ty := tyX6 3) (C := RX6) (T := TX6) (N := 5) hx hb hts u_X6_init_X6 tyX6 tyX6_ok nmX6 hown hK.1 hP hD hS 0 rfl rfl 3 (by decide) (hts (.fieldLink RX6 22 "NoticeWeek$Tape" "at" "I") (List.mem_of_getElem? (i := 8) rfl)) (fun _ h9 => h9) rfl (tyX6_ok 3 (by decide)) rfl rfl (Nat.le_of_ble_eq_true rfl) dX6_init_24 (fun H locs hP hD hS => ?_)
  have hP : va_P D vwCl ([(h0, .inr (6, [.ref q7, .int 0, .int 0, .int 0, .int 0]))] ++ [(q7, .inl (cI, 120, .inl zf))]) H := hP
  have hD : va_D A ([(h0, .inr (6, [.ref q7, .int 0, .int 0, .int 0, .int 0]))] ++ [(q7, .inl (cI, 120, .inl zf))]) := hD
  refine lv_aload_n hx hb dX6_init_27 rfl (lv_at hl 0 rfl) ?_
  refine lv_iconst (v := 0) hx hb dX6_init_28 (by decide) ?_
  refine va_put (D := D) (ci := 6) (v := .int 0) (ty := tyX6 4) (C := RX6) (T := TX6) (N := 5) hx hb hts u_X6_init_X6 tyX6 tyX6_ok nmX6 hown hK.1 hP hD hS 0 rfl rfl 4 (by decide) (hts (.fieldLink RX6 25 "NoticeWeek$Tape" "flaw" "I") (List.mem_of_getElem? (i := 9) rfl)) (fun _ h9 => h9) rfl (tyX6_ok 4 (by decide)) rfl rfl (Nat.le_of_ble_eq_true rfl) dX6_init_29 (fun H locs hP hD hS => ?_)
  have hP : va_P D vwCl ([(h0, .inr (6, [.ref q7, .int 0, .int 0, .int 0, .int 0]))] ++ [(q7, .inl (cI, 120, .inl zf))]) H := hP
  have hD : va_D A ([(h0, .inr (6, [.ref q7, .int 0, .int 0, .int 0, .int 0]))] ++ [(q7, .inl (cI, 120, .inl zf))]) := hD
  exact b_vretI (ws := [(h0, .inr (6, [.ref q7, .int 0, .int 0, .int 0, .int 0]))] ++ [(q7, .inl (cI, 120, .inl zf))]) hx hb hr ⟨(fun k => [h0, q7].getD k 0), rfl, rfl⟩ hP hD hS dX6_init_32 hlocks
theorem u_X8_init_X8 : ∀ w ∈ wsX80, w ∈ wsX8_init := fun _ h => List.mem_cons_of_mem _ (List.mem_append_right _ h)
set_option maxHeartbeats 300000 in
set_option maxRecDepth 100000 in
theorem i_X8 (l : Launch) (D : va_G) (cI cZ cT : ClassId) (h0 sz : Nat) : Met l yX8_init wsX8_init ({ frames := 1, cells := 4, slots := 24, locals := 12 }) (pI D cI cZ cT [.ref h0] [(h0, .inr (7, [.int 0, .int 0, .int 0, .int 0, .null, .null, .null, .null]))] sz) (qI D (fun w => ∃ a : Nat → Nat, a 0 = h0 ∧ w = wTown cI a 0 0 0 0 zf zf zf zf) (va_A [(h0, .inr (7, [.int 0, .int 0, .int 0, .int 0, .null, .null, .null, .null]))] sz)) 4 24 (va_A [(h0, .inr (7, [.int 0, .int 0, .int 0, .int 0, .null, .null, .null, .null]))] sz) := by
  refine Met.ofW (cc := cX8_init) (maxL := 1) (ret := none) (by decide) rfl ?_
  intro p e s m args below meth c s₁ B hml hv
  obtain ⟨rfl, hsz, hP, hD0, hK⟩ := hv
  have hx := B.exec
  have hb := B.bytes
  have hr := B.returns
  have hts := atoms_spec (ws := wsX8_init) B.pre
  have hown : s.vm.findClass RX8 = some m.cls := findClass_of_methodNamed B.named
  have hlocks := B.notSynchronized
  have hin : meth.name = "<init>" := (name_of_methodNamed B.named B.method).1
  subst hsz
  have hD := hD0.self (sz := s.heap.size)
  generalize hAe : va_A [(h0, .inr (7, [.int 0, .int 0, .int 0, .int 0, .null, .null, .null, .null]))] s.heap.size = A at hD ⊢
  have hA : ∀ q : Nat, s.heap.size ≤ q → A q := fun q h => by rw [← hAe]; exact Or.inr h
  have hS : va_S A s.heap s.heap [] := va_S.rf
  have hl := lv_entry ([.ref h0]) (n := 1) (Nat.le_of_ble_eq_true rfl)
  rw [lg_entry_eq]
  generalize (lg_sl ([.ref h0]) ++ List.replicate (1 - (lg_sl ([.ref h0])).length) Slot.unset).toArray = ls at hl ⊢
  have hl : lv_has ls 1 [(0, .ref h0)] := hl
  refine lv_aload_n hx hb dX8_init_0 rfl (lv_at hl 0 rfl) ?_
  refine W.objInit hx hb hown (hts (.methodLink RX8 3 objectInit) (List.mem_of_getElem? (i := 1) rfl)) (hts (.instanceMethod objectInit) (List.mem_of_getElem? (i := 2) rfl)) (hts _ (List.mem_of_getElem? (i := 3) rfl)) rfl (by rw [hml]; exact hl.1) rfl dX8_init_1 (Nat.le_of_ble_eq_true rfl) (Nat.le_of_ble_eq_true rfl) ?_
  refine W.eq (g2 := F0 m 4 ls []) rfl ?_
  refine lv_aload_n hx hb dX8_init_4 rfl (lv_at hl 0 rfl) ?_
  refine lv_iconst (v := 0) hx hb dX8_init_5 (by decide) ?_
  refine va_put (D := D) (ci := 7) (v := .int 0) (ty := tyX8 0) (C := RX8) (T := TX8) (N := 8) hx hb hts u_X8_init_X8 tyX8 tyX8_ok nmX8 hown hK.1 hP hD hS 0 rfl rfl 0 (by decide) (hts (.fieldLink RX8 9 "NoticeWeek$Town" "stands" "Z") (List.mem_of_getElem? (i := 4) rfl)) (fun _ h9 => h9) rfl (tyX8_ok 0 (by decide)) rfl rfl (Nat.le_of_ble_eq_true rfl) dX8_init_6 (fun H locs hP hD hS => ?_)
  have hP : va_P D vwCl ([(h0, .inr (7, [.int 0, .int 0, .int 0, .int 0, .null, .null, .null, .null]))]) H := hP
  have hD : va_D A ([(h0, .inr (7, [.int 0, .int 0, .int 0, .int 0, .null, .null, .null, .null]))]) := hD
  refine lv_aload_n hx hb dX8_init_9 rfl (lv_at hl 0 rfl) ?_
  refine lv_iconst (v := 0) hx hb dX8_init_10 (by decide) ?_
  refine va_put (D := D) (ci := 7) (v := .int 0) (ty := tyX8 1) (C := RX8) (T := TX8) (N := 8) hx hb hts u_X8_init_X8 tyX8 tyX8_ok nmX8 hown hK.1 hP hD hS 0 rfl rfl 1 (by decide) (hts (.fieldLink RX8 15 "NoticeWeek$Town" "day" "I") (List.mem_of_getElem? (i := 5) rfl)) (fun _ h9 => h9) rfl (tyX8_ok 1 (by decide)) rfl rfl (Nat.le_of_ble_eq_true rfl) dX8_init_11 (fun H locs hP hD hS => ?_)
  have hP : va_P D vwCl ([(h0, .inr (7, [.int 0, .int 0, .int 0, .int 0, .null, .null, .null, .null]))]) H := hP
  have hD : va_D A ([(h0, .inr (7, [.int 0, .int 0, .int 0, .int 0, .null, .null, .null, .null]))]) := hD
  refine lv_aload_n hx hb dX8_init_14 rfl (lv_at hl 0 rfl) ?_
  refine lv_iconst (v := 0) hx hb dX8_init_15 (by decide) ?_
  refine va_put (D := D) (ci := 7) (v := .int 0) (ty := tyX8 2) (C := RX8) (T := TX8) (N := 8) hx hb hts u_X8_init_X8 tyX8 tyX8_ok nmX8 hown hK.1 hP hD hS 0 rfl rfl 2 (by decide) (hts (.fieldLink RX8 19 "NoticeWeek$Town" "lines" "I") (List.mem_of_getElem? (i := 6) rfl)) (fun _ h9 => h9) rfl (tyX8_ok 2 (by decide)) rfl rfl (Nat.le_of_ble_eq_true rfl) dX8_init_16 (fun H locs hP hD hS => ?_)
  have hP : va_P D vwCl ([(h0, .inr (7, [.int 0, .int 0, .int 0, .int 0, .null, .null, .null, .null]))]) H := hP
  have hD : va_D A ([(h0, .inr (7, [.int 0, .int 0, .int 0, .int 0, .null, .null, .null, .null]))]) := hD
  refine lv_aload_n hx hb dX8_init_19 rfl (lv_at hl 0 rfl) ?_
  refine lv_iconst (v := 0) hx hb dX8_init_20 (by decide) ?_
  refine va_put (D := D) (ci := 7) (v := .int 0) (ty := tyX8 3) (C := RX8) (T := TX8) (N := 8) hx hb hts u_X8_init_X8 tyX8 tyX8_ok nmX8 hown hK.1 hP hD hS 0 rfl rfl 3 (by decide) (hts (.fieldLink RX8 22 "NoticeWeek$Town" "readers" "I") (List.mem_of_getElem? (i := 7) rfl)) (fun _ h9 => h9) rfl (tyX8_ok 3 (by decide)) rfl rfl (Nat.le_of_ble_eq_true rfl) dX8_init_21 (fun H locs hP hD hS => ?_)
  have hP : va_P D vwCl ([(h0, .inr (7, [.int 0, .int 0, .int 0, .int 0, .null, .null, .null, .null]))]) H := hP
  have hD : va_D A ([(h0, .inr (7, [.int 0, .int 0, .int 0, .int 0, .null, .null, .null, .null]))]) := hD
  refine lv_aload_n hx hb dX8_init_24 rfl (lv_at hl 0 rfl) ?_
  refine lv_bipush (v := (nI 6)) hx hb dX8_init_25 (by decide) ?_
  refine b_newI (N := 6) hx hb (hts (.arrayClass .int) (List.mem_of_getElem? (i := 8) rfl)) hK hP hD hS hA (by decide) (by decide) (Nat.le_of_ble_eq_true rfl) (Nat.le_of_ble_eq_true rfl) dX8_init_27 (fun q27 H hP hD hS => ?_)
  have hP : va_P D vwCl ([(h0, .inr (7, [.int 0, .int 0, .int 0, .int 0, .null, .null, .null, .null]))] ++ [(q27, .inl (cI, 6, .inl zf))]) H := hP
  have hD : va_D A ([(h0, .inr (7, [.int 0, .int 0, .int 0, .int 0, .null, .null, .null, .null]))] ++ [(q27, .inl (cI, 6, .inl zf))]) := hD
  refine W.widen (k := 1) (n := 6) (by omega) (by omega) ?_
  refine va_putF (D := D) (ci := 7) (v := .ref q27) (ty := tyX8 4) (C := RX8) (T := TX8) (N := 8) hx hb hts u_X8_init_X8 tyX8 tyX8_ok nmX8 hown hK.1 hP hD hS 0 rfl rfl 4 (by decide) (hts (.fieldLink RX8 25 "NoticeWeek$Town" "kind" "[I") (List.mem_of_getElem? (i := 9) rfl)) (fun _ h9 => h9) rfl hin rfl (tyX8_ok 4 (by decide)) rfl rfl (Nat.le_of_ble_eq_true rfl) dX8_init_29 (fun H locs hP hD hS => ?_)
  have hP : va_P D vwCl ([(h0, .inr (7, [.int 0, .int 0, .int 0, .int 0, .ref q27, .null, .null, .null]))] ++ [(q27, .inl (cI, 6, .inl zf))]) H := hP
  have hD : va_D A ([(h0, .inr (7, [.int 0, .int 0, .int 0, .int 0, .ref q27, .null, .null, .null]))] ++ [(q27, .inl (cI, 6, .inl zf))]) := hD
  refine lv_aload_n hx hb dX8_init_32 rfl (lv_at hl 0 rfl) ?_
  refine lv_bipush (v := (nI 6)) hx hb dX8_init_33 (by decide) ?_
  refine b_newI (N := 6) hx hb (hts (.arrayClass .int) (List.mem_of_getElem? (i := 8) rfl)) hK hP hD hS hA (by decide) (by decide) (Nat.le_of_ble_eq_true rfl) (Nat.le_of_ble_eq_true rfl) dX8_init_35 (fun q35 H hP hD hS => ?_)
  have hP : va_P D vwCl ([(h0, .inr (7, [.int 0, .int 0, .int 0, .int 0, .ref q27, .null, .null, .null]))] ++ [(q27, .inl (cI, 6, .inl zf))] ++ [(q35, .inl (cI, 6, .inl zf))]) H := hP
  have hD : va_D A ([(h0, .inr (7, [.int 0, .int 0, .int 0, .int 0, .ref q27, .null, .null, .null]))] ++ [(q27, .inl (cI, 6, .inl zf))] ++ [(q35, .inl (cI, 6, .inl zf))]) := hD
  refine W.widen (k := 2) (n := 12) (by omega) (by omega) ?_
  refine va_putF (D := D) (ci := 7) (v := .ref q35) (ty := tyX8 5) (C := RX8) (T := TX8) (N := 8) hx hb hts u_X8_init_X8 tyX8 tyX8_ok nmX8 hown hK.1 hP hD hS 0 rfl rfl 5 (by decide) (hts (.fieldLink RX8 29 "NoticeWeek$Town" "did" "[I") (List.mem_of_getElem? (i := 10) rfl)) (fun _ h9 => h9) rfl hin rfl (tyX8_ok 5 (by decide)) rfl rfl (Nat.le_of_ble_eq_true rfl) dX8_init_37 (fun H locs hP hD hS => ?_)
  have hP : va_P D vwCl ([(h0, .inr (7, [.int 0, .int 0, .int 0, .int 0, .ref q27, .ref q35, .null, .null]))] ++ [(q27, .inl (cI, 6, .inl zf))] ++ [(q35, .inl (cI, 6, .inl zf))]) H := hP
  have hD : va_D A ([(h0, .inr (7, [.int 0, .int 0, .int 0, .int 0, .ref q27, .ref q35, .null, .null]))] ++ [(q27, .inl (cI, 6, .inl zf))] ++ [(q35, .inl (cI, 6, .inl zf))]) := hD
  refine lv_aload_n hx hb dX8_init_40 rfl (lv_at hl 0 rfl) ?_
  refine lv_bipush (v := (nI 6)) hx hb dX8_init_41 (by decide) ?_
  refine b_newI (N := 6) hx hb (hts (.arrayClass .int) (List.mem_of_getElem? (i := 8) rfl)) hK hP hD hS hA (by decide) (by decide) (Nat.le_of_ble_eq_true rfl) (Nat.le_of_ble_eq_true rfl) dX8_init_43 (fun q43 H hP hD hS => ?_)
  have hP : va_P D vwCl ([(h0, .inr (7, [.int 0, .int 0, .int 0, .int 0, .ref q27, .ref q35, .null, .null]))] ++ [(q27, .inl (cI, 6, .inl zf))] ++ [(q35, .inl (cI, 6, .inl zf))] ++ [(q43, .inl (cI, 6, .inl zf))]) H := hP
  have hD : va_D A ([(h0, .inr (7, [.int 0, .int 0, .int 0, .int 0, .ref q27, .ref q35, .null, .null]))] ++ [(q27, .inl (cI, 6, .inl zf))] ++ [(q35, .inl (cI, 6, .inl zf))] ++ [(q43, .inl (cI, 6, .inl zf))]) := hD
  refine W.widen (k := 3) (n := 18) (by omega) (by omega) ?_
  refine va_putF (D := D) (ci := 7) (v := .ref q43) (ty := tyX8 6) (C := RX8) (T := TX8) (N := 8) hx hb hts u_X8_init_X8 tyX8 tyX8_ok nmX8 hown hK.1 hP hD hS 0 rfl rfl 6 (by decide) (hts (.fieldLink RX8 32 "NoticeWeek$Town" "notice" "[I") (List.mem_of_getElem? (i := 11) rfl)) (fun _ h9 => h9) rfl hin rfl (tyX8_ok 6 (by decide)) rfl rfl (Nat.le_of_ble_eq_true rfl) dX8_init_45 (fun H locs hP hD hS => ?_)
  have hP : va_P D vwCl ([(h0, .inr (7, [.int 0, .int 0, .int 0, .int 0, .ref q27, .ref q35, .ref q43, .null]))] ++ [(q27, .inl (cI, 6, .inl zf))] ++ [(q35, .inl (cI, 6, .inl zf))] ++ [(q43, .inl (cI, 6, .inl zf))]) H := hP
  have hD : va_D A ([(h0, .inr (7, [.int 0, .int 0, .int 0, .int 0, .ref q27, .ref q35, .ref q43, .null]))] ++ [(q27, .inl (cI, 6, .inl zf))] ++ [(q35, .inl (cI, 6, .inl zf))] ++ [(q43, .inl (cI, 6, .inl zf))]) := hD
  refine lv_aload_n hx hb dX8_init_48 rfl (lv_at hl 0 rfl) ?_
  refine lv_bipush (v := (nI 6)) hx hb dX8_init_49 (by decide) ?_
  refine b_newI (N := 6) hx hb (hts (.arrayClass .int) (List.mem_of_getElem? (i := 8) rfl)) hK hP hD hS hA (by decide) (by decide) (Nat.le_of_ble_eq_true rfl) (Nat.le_of_ble_eq_true rfl) dX8_init_51 (fun q51 H hP hD hS => ?_)
  have hP : va_P D vwCl ([(h0, .inr (7, [.int 0, .int 0, .int 0, .int 0, .ref q27, .ref q35, .ref q43, .null]))] ++ [(q27, .inl (cI, 6, .inl zf))] ++ [(q35, .inl (cI, 6, .inl zf))] ++ [(q43, .inl (cI, 6, .inl zf))] ++ [(q51, .inl (cI, 6, .inl zf))]) H := hP
  have hD : va_D A ([(h0, .inr (7, [.int 0, .int 0, .int 0, .int 0, .ref q27, .ref q35, .ref q43, .null]))] ++ [(q27, .inl (cI, 6, .inl zf))] ++ [(q35, .inl (cI, 6, .inl zf))] ++ [(q43, .inl (cI, 6, .inl zf))] ++ [(q51, .inl (cI, 6, .inl zf))]) := hD
  refine W.widen (k := 4) (n := 24) (by omega) (by omega) ?_
  refine va_putF (D := D) (ci := 7) (v := .ref q51) (ty := tyX8 7) (C := RX8) (T := TX8) (N := 8) hx hb hts u_X8_init_X8 tyX8 tyX8_ok nmX8 hown hK.1 hP hD hS 0 rfl rfl 7 (by decide) (hts (.fieldLink RX8 35 "NoticeWeek$Town" "left" "[I") (List.mem_of_getElem? (i := 12) rfl)) (fun _ h9 => h9) rfl hin rfl (tyX8_ok 7 (by decide)) rfl rfl (Nat.le_of_ble_eq_true rfl) dX8_init_53 (fun H locs hP hD hS => ?_)
  have hP : va_P D vwCl ([(h0, .inr (7, [.int 0, .int 0, .int 0, .int 0, .ref q27, .ref q35, .ref q43, .ref q51]))] ++ [(q27, .inl (cI, 6, .inl zf))] ++ [(q35, .inl (cI, 6, .inl zf))] ++ [(q43, .inl (cI, 6, .inl zf))] ++ [(q51, .inl (cI, 6, .inl zf))]) H := hP
  have hD : va_D A ([(h0, .inr (7, [.int 0, .int 0, .int 0, .int 0, .ref q27, .ref q35, .ref q43, .ref q51]))] ++ [(q27, .inl (cI, 6, .inl zf))] ++ [(q35, .inl (cI, 6, .inl zf))] ++ [(q43, .inl (cI, 6, .inl zf))] ++ [(q51, .inl (cI, 6, .inl zf))]) := hD
  exact b_vretI (ws := [(h0, .inr (7, [.int 0, .int 0, .int 0, .int 0, .ref q27, .ref q35, .ref q43, .ref q51]))] ++ [(q27, .inl (cI, 6, .inl zf))] ++ [(q35, .inl (cI, 6, .inl zf))] ++ [(q43, .inl (cI, 6, .inl zf))] ++ [(q51, .inl (cI, 6, .inl zf))]) hx hb hr ⟨(fun k => [h0, q27, q35, q43, q51].getD k 0), rfl, rfl⟩ hP hD hS dX8_init_56 hlocks
theorem u_X9_init_X9 : ∀ w ∈ wsX90, w ∈ wsX9_init := fun _ h => List.mem_cons_of_mem _ (List.mem_append_right _ h)
set_option maxHeartbeats 300000 in
set_option maxRecDepth 100000 in
theorem i_X9 (l : Launch) (D : va_G) (cI cZ cT : ClassId) (h0 sz : Nat) : Met l yX9_init wsX9_init ({ frames := 1, cells := 1, slots := 16, locals := 12 }) (pI D cI cZ cT [.ref h0] [(h0, .inr (8, [.null, .int 0]))] sz) (qI D (fun w => ∃ a : Nat → Nat, a 0 = h0 ∧ w = wTrace cI a 0 zf) (va_A [(h0, .inr (8, [.null, .int 0]))] sz)) 1 16 (va_A [(h0, .inr (8, [.null, .int 0]))] sz) := by
  refine Met.ofW (cc := cX9_init) (maxL := 1) (ret := none) (by decide) rfl ?_
  intro p e s m args below meth c s₁ B hml hv
  obtain ⟨rfl, hsz, hP, hD0, hK⟩ := hv
  have hx := B.exec
  have hb := B.bytes
  have hr := B.returns
  have hts := atoms_spec (ws := wsX9_init) B.pre
  have hown : s.vm.findClass RX9 = some m.cls := findClass_of_methodNamed B.named
  have hlocks := B.notSynchronized
  have hin : meth.name = "<init>" := (name_of_methodNamed B.named B.method).1
  subst hsz
  have hD := hD0.self (sz := s.heap.size)
  generalize hAe : va_A [(h0, .inr (8, [.null, .int 0]))] s.heap.size = A at hD ⊢
  have hA : ∀ q : Nat, s.heap.size ≤ q → A q := fun q h => by rw [← hAe]; exact Or.inr h
  have hS : va_S A s.heap s.heap [] := va_S.rf
  have hl := lv_entry ([.ref h0]) (n := 1) (Nat.le_of_ble_eq_true rfl)
  rw [lg_entry_eq]
  generalize (lg_sl ([.ref h0]) ++ List.replicate (1 - (lg_sl ([.ref h0])).length) Slot.unset).toArray = ls at hl ⊢
  have hl : lv_has ls 1 [(0, .ref h0)] := hl
  refine lv_aload_n hx hb dX9_init_0 rfl (lv_at hl 0 rfl) ?_
  refine W.objInit hx hb hown (hts (.methodLink RX9 3 objectInit) (List.mem_of_getElem? (i := 1) rfl)) (hts (.instanceMethod objectInit) (List.mem_of_getElem? (i := 2) rfl)) (hts _ (List.mem_of_getElem? (i := 3) rfl)) rfl (by rw [hml]; exact hl.1) rfl dX9_init_1 (Nat.le_of_ble_eq_true rfl) (Nat.le_of_ble_eq_true rfl) ?_
  refine W.eq (g2 := F0 m 4 ls []) rfl ?_
  refine lv_aload_n hx hb dX9_init_4 rfl (lv_at hl 0 rfl) ?_
  refine lv_bipush (v := (nI 16)) hx hb dX9_init_5 (by decide) ?_
  refine b_newI (N := 16) hx hb (hts (.arrayClass .int) (List.mem_of_getElem? (i := 4) rfl)) hK hP hD hS hA (by decide) (by decide) (Nat.le_of_ble_eq_true rfl) (Nat.le_of_ble_eq_true rfl) dX9_init_7 (fun q7 H hP hD hS => ?_)
  have hP : va_P D vwCl ([(h0, .inr (8, [.null, .int 0]))] ++ [(q7, .inl (cI, 16, .inl zf))]) H := hP
  have hD : va_D A ([(h0, .inr (8, [.null, .int 0]))] ++ [(q7, .inl (cI, 16, .inl zf))]) := hD
  refine W.widen (k := 1) (n := 16) (by omega) (by omega) ?_
  refine va_putF (D := D) (ci := 8) (v := .ref q7) (ty := tyX9 0) (C := RX9) (T := TX9) (N := 2) hx hb hts u_X9_init_X9 tyX9 tyX9_ok nmX9 hown hK.1 hP hD hS 0 rfl rfl 0 (by decide) (hts (.fieldLink RX9 11 "NoticeWeek$Trace" "numbers" "[I") (List.mem_of_getElem? (i := 5) rfl)) (fun _ h9 => h9) rfl hin rfl (tyX9_ok 0 (by decide)) rfl rfl (Nat.le_of_ble_eq_true rfl) dX9_init_9 (fun H locs hP hD hS => ?_)
  have hP : va_P D vwCl ([(h0, .inr (8, [.ref q7, .int 0]))] ++ [(q7, .inl (cI, 16, .inl zf))]) H := hP
  have hD : va_D A ([(h0, .inr (8, [.ref q7, .int 0]))] ++ [(q7, .inl (cI, 16, .inl zf))]) := hD
  refine lv_aload_n hx hb dX9_init_12 rfl (lv_at hl 0 rfl) ?_
  refine lv_iconst (v := 0) hx hb dX9_init_13 (by decide) ?_
  refine va_put (D := D) (ci := 8) (v := .int 0) (ty := tyX9 1) (C := RX9) (T := TX9) (N := 2) hx hb hts u_X9_init_X9 tyX9 tyX9_ok nmX9 hown hK.1 hP hD hS 0 rfl rfl 1 (by decide) (hts (.fieldLink RX9 15 "NoticeWeek$Trace" "length" "I") (List.mem_of_getElem? (i := 6) rfl)) (fun _ h9 => h9) rfl (tyX9_ok 1 (by decide)) rfl rfl (Nat.le_of_ble_eq_true rfl) dX9_init_14 (fun H locs hP hD hS => ?_)
  have hP : va_P D vwCl ([(h0, .inr (8, [.ref q7, .int 0]))] ++ [(q7, .inl (cI, 16, .inl zf))]) H := hP
  have hD : va_D A ([(h0, .inr (8, [.ref q7, .int 0]))] ++ [(q7, .inl (cI, 16, .inl zf))]) := hD
  exact b_vretI (ws := [(h0, .inr (8, [.ref q7, .int 0]))] ++ [(q7, .inl (cI, 16, .inl zf))]) hx hb hr ⟨(fun k => [h0, q7].getD k 0), rfl, rfl⟩ hP hD hS dX9_init_17 hlocks
