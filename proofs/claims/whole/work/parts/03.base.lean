def kxN : List (String × Nat × MethodName × String) := [(RX11, 18, yX6_init, RX11), (RX11, 25, yX8_init, RX11), (RX11, 49, yX2_init, RX11), (RX2, 11, yX3_init, RX11), (RX3, 1, yX7_init, RX11), (RX2, 20, yX10_init, RX11), (RX10, 1, yX3_init, RX11), (RX2, 26, yX5_init, RX11), (RX5, 1, yX3_init, RX11), (RX2, 32, yX1_init, RX11), (RX1, 3, yX7_init, RX11), (RX2, 38, yX0_init, RX11), (RX0, 1, yX1_init, RX11), (RX11, 56, yX9_init, RX11), (RX1, 9, yX11_least, RX11), (RX3, 7, yX11_least, RX11), (RX10, 11, yX11_least, RX11), (RX8, 42, yX11_falseLines, RX11), (RX2, 91, yX11_falseLines, RX11)]
def kxC : List (String × String) := [(RX5, RX3), (RX10, RX3), (RX0, RX1)]
def kxO : List (String × String) := [(RX1, RX3), (RX0, RX3), (RX3, RX10), (RX5, RX10), (RX1, RX10), (RX0, RX10), (RX3, RX5), (RX10, RX5), (RX1, RX5), (RX0, RX5), (RX3, RX1), (RX10, RX1), (RX5, RX1), (RX3, RX0), (RX10, RX0), (RX5, RX0), (RX1, RX0)]
/-! BASE: what every contract here speaks of -/
def bI (q : Prop) [Decidable q] : Int32 := if q then 1 else 0
def KX (D : va_G) (cI cZ cT : ClassId) (U : State) : Prop := va_K D vwCl [(cI, .int), (cZ, .boolean), (cT, .object RX8)] U ∧ (∀ q ∈ kxN, va_Nw (.methodLinkNest q.1 q.2.1 q.2.2.1 q.2.2.2) U) ∧ va_Nw (.declares ⟨RX7, "deedsOn", "(III)I"⟩) U ∧ (∀ q ∈ kxC, va_Nw (.castable q.1 q.2) U) ∧ (∀ q ∈ kxO, va_Nc q.1 q.2 U) ∧ va_AO RX8 U
theorem KX.warm {D : va_G} {cI cZ cT : ClassId} {s U : State} (hW : s.WarmedH U.vm) (h : KX D cI cZ cT s) : KX D cI cZ cT U :=
  ⟨va_K.moved hW.alike h.1, fun q hq => va_Nw.warmM hW (h.2.1 q hq), va_Nw.warmD hW h.2.2.1, fun q hq => va_Nw.warmC hW (h.2.2.2.1 q hq), fun q hq => va_Nc.moved hW.alike (h.2.2.2.2.1 q hq), va_AO.moved hW.alike h.2.2.2.2.2⟩
theorem KX.blind {D : va_G} {cI cZ cT : ClassId} {U : State} {g : JFrame} {mk : MethodId} {a : Array Value} (h : KX D cI cZ cT U) : KX D cI cZ cT (U.calling g mk a) :=
  ⟨va_K.moved (u := U) (U := U.calling g mk a) (Vm.Alike.refl U.vm) h.1, fun q hq => va_Nw.same rfl rfl (h.2.1 q hq), va_Nw.same rfl rfl h.2.2.1, fun q hq => va_Nw.same rfl rfl (h.2.2.2.1 q hq), fun q hq => va_Nc.moved (u := U) (U := U.calling g mk a) (Vm.Alike.refl U.vm) (h.2.2.2.2.1 q hq), va_AO.moved (u := U) (U := U.calling g mk a) (Vm.Alike.refl U.vm) h.2.2.2.2.2⟩
/-- which cells a world has -/
def adr (ws : va_W) : Nat → Prop := fun q => ∃ (k : Nat) (e : va_E), ws[k]? = some (q, e)
abbrev pR (D : va_G) (cI cZ cT : ClassId) (av : List Value) (ws : va_W) : Array Value → State → Prop := va_Pc av (fun U => va_P D vwCl ws U.heap ∧ KX D cI cZ cT U)
abbrev pM (D : va_G) (cI cZ cT : ClassId) (av : List Value) (ws : va_W) : Array Value → State → Prop := va_Pc av (fun U => va_P D vwCl ws U.heap ∧ va_D (fun _ => True) ws ∧ KX D cI cZ cT U)
def qM (D : va_G) (v : Option Value) (ws' : va_W) (A : Nat → Prop) : Array Value → State → Outcome → State → Prop := fun _ st o t => o = .returned v ∧ va_P D vwCl ws' t.heap ∧ va_F A st t
def qRef (r : Nat) : Array Value → State → Outcome → State → Prop := fun _ st o t => o = .returned (some (.ref r)) ∧ t.heap = st.heap
/-- the cells at the places is become cs -/
def wset : va_W → List Nat → va_W → va_W
  | ws, i :: is, x :: cs => wset (ws.set i x) is cs
  | ws, _, _ => ws
theorem wset_at : ∀ (is : List Nat) (ws cs : va_W), is.length ≤ cs.length → ∀ (k : Nat) (q : Nat × va_E), (wset ws is cs)[k]? = some q → (k ∉ is ∧ ws[k]? = some q) ∨ ∃ j : Nat, cs[j]? = some q
  | [], ws, cs, _, k, q, h => Or.inl ⟨by simp, by cases cs <;> simpa [wset] using h⟩
  | i :: is, ws, [], hl, k, q, h => by simp at hl
  | i :: is, ws, x :: cs, hl, k, q, h => by
    have hl' : is.length ≤ cs.length := by simpa using hl
    rcases wset_at is (ws.set i x) cs hl' k q (by simpa [wset] using h) with ⟨h1, h2⟩ | ⟨j, h2⟩
    · by_cases hk : k = i
      · subst hk
        have hlt : k < (ws.set k x).length := (List.getElem?_eq_some_iff.mp h2).1
        rw [List.getElem?_set_self (by simpa using hlt)] at h2
        exact Or.inr ⟨0, by simpa using h2⟩
      · rw [List.getElem?_set_ne (Ne.symm hk)] at h2
        exact Or.inl ⟨by simp [hk, h1], h2⟩
    · exact Or.inr ⟨j + 1, by simpa using h2⟩
theorem va_D.same {A : Nat → Prop} {ws ws' : va_W} (hD : va_D A ws) (h : ws'.map Prod.fst = ws.map Prod.fst) : va_D A ws' := by
  have key : ∀ (k : Nat) (q : Nat × va_E), ws'[k]? = some q → ∃ q0, ws[k]? = some q0 ∧ q0.1 = q.1 := by
    intro k q hk
    have h1 : (ws.map Prod.fst)[k]? = some q.1 := by rw [← h, List.getElem?_map, hk]; rfl
    rw [List.getElem?_map] at h1
    cases h2 : ws[k]? with
    | none => rw [h2] at h1; cases h1
    | some q0 => rw [h2] at h1; exact ⟨q0, rfl, Option.some.inj h1⟩
  refine ⟨fun i j x y hi hj hxy => ?_, fun k q hk => ?_⟩
  · obtain ⟨x0, h1, h2⟩ := key i x hi
    obtain ⟨y0, h3, h4⟩ := key j y hj
    exact hD.1 i j x0 y0 h1 h3 (h2.trans (hxy.trans h4.symm))
  · obtain ⟨q0, h1, h2⟩ := key k q hk
    rw [← h2]
    exact hD.2 k q0 h1
theorem va_D.toAdr {A : Nat → Prop} {ws : va_W} (h : va_D A ws) : va_D (adr ws) ws := ⟨h.1, fun k q hk => ⟨k, q.2, hk⟩⟩
/-- behind a call of one that writes: its cells as it left them, the others as they were -/
theorem wjoin {D : va_G} {cl : List vw_C} {A0 : Nat → Prop} {ws wc wc' : va_W} {H H1 : Heap} (hP : va_P D cl ws H) (hD : va_D A0 ws) (is : List Nat) (hC : is.map (fun i => ws[i]?) = wc.map some) (hl : is.length ≤ wc'.length) (hk : ∀ q : Nat, q < H.size → ¬ adr wc q → H1[q]? = H[q]?) (hP1 : va_P D cl wc' H1) : va_P D cl (wset ws is wc') H1 := by
  intro k q hq
  rcases wset_at is ws wc' hl k q hq with ⟨h1, h2⟩ | ⟨j, h2⟩
  · refine (hP k q h2).kept (hk q.1 (hP k q h2).lt (fun h => ?_))
    obtain ⟨k2, e, h3⟩ := h
    have h4 : (is.map (fun i => ws[i]?))[k2]? = some (some (q.1, e)) := by rw [hC, List.getElem?_map, h3]; rfl
    rw [List.getElem?_map] at h4
    cases hi : is[k2]? with
    | none => rw [hi] at h4; cases h4
    | some i =>
      rw [hi] at h4
      have h5 := hD.1 k i q (q.1, e) h2 (Option.some.inj h4) rfl
      subst h5
      exact h1 (List.mem_of_getElem? hi)
  · exact hP1 j q h2
theorem adr_free {A0 : Nat → Prop} {ws wc : va_W} (hD : va_D A0 ws) (is : List Nat) (hC : is.map (fun i => ws[i]?) = wc.map some) : ∀ q, adr wc q → A0 q := by
  intro q h
  obtain ⟨k, e, h⟩ := h
  have h1 : (is.map (fun i => ws[i]?))[k]? = some (some (q, e)) := by rw [hC, List.getElem?_map, h]; rfl
  rw [List.getElem?_map] at h1
  cases hi : is[k]? with
  | none => rw [hi] at h1; cases h1
  | some i => rw [hi] at h1; exact hD.2 i (q, e) (Option.some.inj h1)
section BASE
variable {p : Program} {l : Launch} {e : Env} {R : Room} {s : State} {m : MethodId} {args : Array Value} {below : List Frame} {meth : Method} {c : Code} {H : Heap} {locs : List Loc} {cells slots : Nat} {Q : State → Prop}
variable {cc : ByteArray} {pc : Nat} {ls : Array Slot} {rest st0 : List Value} {D : va_G} {cI cZ cT : ClassId} {A : Nat → Prop} {a b : Nat} {ws wc : va_W} {H0 : Heap} {As : List Value}
theorem b_pV (hK : KX D cI cZ cT s) (hP : va_P D vwCl ws H) (is : List Nat) (hs : is.filterMap (fun i => ws[i]?) = wc) (q0 : Nat) {ci : Nat} {r : vw_C} {fs : List Value} (he : ws[q0]? = some (b, .inr (ci, fs))) (hc : vwCl[ci]? = some r) : PreV s H r.1 b (pR D cI cZ cT (.ref b :: As) wc) As :=
  ⟨fun _ _ _ _ q => ⟨q.1, q.2.1, q.2.2.blind⟩, va_recv hK.1 hP hc he, fun U hU hW => ⟨rfl, by rw [hU]; exact hP.sub is hs, hK.warm hW⟩⟩
theorem b_pS (hK : KX D cI cZ cT s) (hP : va_P D vwCl ws H) (is : List Nat) (hs : is.filterMap (fun i => ws[i]?) = wc) : PreS s H (pR D cI cZ cT As wc) As :=
  ⟨fun _ _ _ _ q => ⟨q.1, q.2.1, q.2.2.blind⟩, fun U hU hW => ⟨rfl, by rw [hU]; exact hP.sub is hs, hK.warm hW⟩⟩
theorem b_pS0 (hK : KX D cI cZ cT s) : PreS s H (pR D cI cZ cT As []) As :=
  ⟨fun _ _ _ _ q => ⟨q.1, q.2.1, q.2.2.blind⟩, fun U hU hW => ⟨rfl, (fun k q h => by simp at h), hK.warm hW⟩⟩
theorem b_pVM (hK : KX D cI cZ cT s) (hP : va_P D vwCl ws H) (hD : va_D A ws) (is : List Nat) (hn : va_nd is = true) (hs : is.filterMap (fun i => ws[i]?) = wc) (hC : is.map (fun i => ws[i]?) = wc.map some) (q0 : Nat) {ci : Nat} {r : vw_C} {fs : List Value} (he : ws[q0]? = some (b, .inr (ci, fs))) (hc : vwCl[ci]? = some r) : PreV s H r.1 b (pM D cI cZ cT (.ref b :: As) wc) As :=
  ⟨fun _ _ _ _ q => ⟨q.1, q.2.1, q.2.2.1, q.2.2.2.blind⟩, va_recv hK.1 hP hc he, fun U hU hW => ⟨rfl, by rw [hU]; exact hP.sub is hs, (hD.sub is hn hC).weaken (fun _ _ _ _ => trivial), hK.warm hW⟩⟩
theorem b_pSM (hK : KX D cI cZ cT s) (hP : va_P D vwCl ws H) (hD : va_D A ws) (is : List Nat) (hn : va_nd is = true) (hs : is.filterMap (fun i => ws[i]?) = wc) (hC : is.map (fun i => ws[i]?) = wc.map some) : PreS s H (pM D cI cZ cT As wc) As :=
  ⟨fun _ _ _ _ q => ⟨q.1, q.2.1, q.2.2.1, q.2.2.2.blind⟩, fun U hU hW => ⟨rfl, by rw [hU]; exact hP.sub is hs, (hD.sub is hn hC).weaken (fun _ _ _ _ => trivial), hK.warm hW⟩⟩
/-- a call of one that reads -/
theorem b_call {r : Int32} {aa : Array Value} (hr : CallRun p l e R s m args below meth c H locs cells slots 0 0 (F0 m pc ls st0) rest (QcRead r aa) (fun _ => False)) (kk : W p l e R s m args below meth c H locs cells slots Q (F0 m (pc + 3) ls (.int r :: rest))) : W p l e R s m args below meth c H locs cells slots Q (F0 m pc ls st0) := W.callR hr kk
theorem b_callA {r : Nat} {aa : Array Value} (hr : CallRun p l e R s m args below meth c H locs cells slots 0 0 (F0 m pc ls st0) rest (qRef r aa) (fun _ => False)) (kk : W p l e R s m args below meth c H locs cells slots Q (F0 m (pc + 3) ls (.ref r :: rest))) : W p l e R s m args below meth c H locs cells slots Q (F0 m pc ls st0) := by
  intro T hT X
  obtain ⟨v, st₀, t, T', L, h0, X', hL, e1, ⟨hv, hh⟩, st⟩ := hr T hT X
  cases hv
  obtain ⟨t2, a1, b1⟩ := kk T' (by rw [e1, hh, h0]) (Stand.forget X' (fun q h => (hL q h).elim))
  exact ⟨t2, st t2 a1, b1⟩
/-- a call of one that writes -/
theorem b_callM {v : Option Value} {wc' : va_W} {aa : Array Value} (is : List Nat) (hr : CallRun p l e R s m args below meth c H locs cells slots 0 0 (F0 m pc ls st0) rest (qM D v wc' (adr wc) aa) (adr wc)) (hP : va_P D vwCl ws H) (hD : va_D A ws) (hS : va_S A H0 H locs) (hC : is.map (fun i => ws[i]?) = wc.map some) (hl : is.length ≤ wc'.length)
    (kk : ∀ (H1 : Heap) (locs1 : List Loc), va_P D vwCl (wset ws is wc') H1 → va_S A H0 H1 locs1 → W p l e R s m args below meth c H1 locs1 cells slots Q (F0 m (pc + 3) ls (v.toList ++ rest))) : W p l e R s m args below meth c H locs cells slots Q (F0 m pc ls st0) := by
  intro T hT X
  obtain ⟨v', st₀, t, T', L, h0, X', hL, e1, ⟨hv, hp, hz, hk⟩, st⟩ := hr T hT X
  cases hv
  rw [h0] at hz hk
  have hF := adr_free hD is hC
  obtain ⟨t2, a1, b1⟩ := kk t.heap (locs ++ L) (wjoin hP hD is hC hl hk hp) ⟨Nat.le_trans hS.1 hz, fun q h1 h2 => by rw [hk q (Nat.lt_of_lt_of_le h1 hS.1) (fun z => h2 (hF q z))]; exact hS.2.1 q h1 h2, fun q hq => by
      rcases List.mem_append.mp hq with h | h
      · exact hS.2.2 q h
      · exact hF _ (hL q h)⟩ T' e1 X'
  exact ⟨t2, st t2 a1, b1⟩
-- numbers that are naturals
theorem b_add (hexec : p.tables.exec = Jvm.exec) (hb : c.code = cc) {x y : Nat} (hdg : decode cc pc = .ok (.iadd, 1)) (k : W p l e R s m args below meth c H locs cells slots Q (F0 m (pc + 1) ls (.int (nI (x + y)) :: rest))) : W p l e R s m args below meth c H locs cells slots Q (F0 m pc ls (.int (nI y) :: .int (nI x) :: rest)) := lv_iadd hexec hb hdg (by rw [nI_add]; exact k)
theorem b_mul (hexec : p.tables.exec = Jvm.exec) (hb : c.code = cc) {x y : Nat} (hdg : decode cc pc = .ok (.imul, 1)) (k : W p l e R s m args below meth c H locs cells slots Q (F0 m (pc + 1) ls (.int (nI (x * y)) :: rest))) : W p l e R s m args below meth c H locs cells slots Q (F0 m pc ls (.int (nI y) :: .int (nI x) :: rest)) := lv_imul hexec hb hdg (by rw [pk_mul]; exact k)
theorem b_sub (hexec : p.tables.exec = Jvm.exec) (hb : c.code = cc) {x y : Nat} (h : y ≤ x) (hdg : decode cc pc = .ok (.isub, 1)) (k : W p l e R s m args below meth c H locs cells slots Q (F0 m (pc + 1) ls (.int (nI (x - y)) :: rest))) : W p l e R s m args below meth c H locs cells slots Q (F0 m pc ls (.int (nI y) :: .int (nI x) :: rest)) := lv_isub hexec hb hdg (by rw [pk_sub h]; exact k)
theorem b_ald (hexec : p.tables.exec = Jvm.exec) (hb : c.code = cc) (hK : KX D cI cZ cT s) (hP : va_P D vwCl ws H) (q0 : Nat) {n k : Nat} {f : Nat → Int32} (ha : ws[q0]? = some (a, .inl (cI, n, .inl f))) (hk : k < n) (hn : n < 2147483648) (hdg : decode cc pc = .ok (.iaload, 1))
    (kk : W p l e R s m args below meth c H locs cells slots Q (F0 m (pc + 1) ls (.int (f k) :: rest))) : W p l e R s m args below meth c H locs cells slots Q (F0 m pc ls (.int (nI k) :: .ref a :: rest)) :=
  va_iald hexec hb hK.1 hP q0 0 ha rfl (vp_in_nI hk hn) hdg (by rw [nI_clamp (Nat.lt_trans hk hn)]; exact kk)
theorem b_ast (hexec : p.tables.exec = Jvm.exec) (hb : c.code = cc) (hK : KX D cI cZ cT s) (hP : va_P D vwCl ws H) (hD : va_D A ws) (hS : va_S A H0 H locs) (q0 : Nat) {n k : Nat} {f : Nat → Int32} {x : Int32} (ha : ws[q0]? = some (a, .inl (cI, n, .inl f))) (hk : k < n) (hn : n < 2147483648) (hdg : decode cc pc = .ok (.iastore, 1))
    (kk : ∀ (H1 : Heap) (locs1 : List Loc), va_P D vwCl (ws.set q0 (a, .inl (cI, n, .inl (upd f k x)))) H1 → va_S A H0 H1 locs1 → W p l e R s m args below meth c H1 locs1 cells slots Q (F0 m (pc + 1) ls rest)) : W p l e R s m args below meth c H locs cells slots Q (F0 m pc ls (.int x :: .int (nI k) :: .ref a :: rest)) :=
  va_iast hexec hb hK.1 hP hD hS q0 0 ha rfl (vp_in_nI hk hn) hdg (fun H1 locs1 h1 _ h3 => kk H1 locs1 (by rw [nI_clamp (Nat.lt_trans hk hn)] at h1; exact h1) h3)
theorem b_put {own C : String} {T : u_T} {N ci index : Nat} {Ts : List Cond} (hexec : p.tables.exec = Jvm.exec) (hb : c.code = cc) (hts : ∀ w ∈ Ts, w.before args s = true) (hin : ∀ w ∈ u_ws C T N, w ∈ Ts) (ty0 : Nat → FieldType) (hty : ∀ k, k < N → parseFieldDescriptor (T k).2.2.1 = some (ty0 k)) (hnm : ∀ a, a < N → ∀ b, b < N → a ≠ b → (T a).2.1 ≠ (T b).2.1) (hown : s.vm.findClass own = some m.cls) (hK : KX D cI cZ cT s) (hP : va_P D vwCl ws H) (hD : va_D A ws) (hS0 : va_S A H0 H locs) (q0 : Nat) {fs : List Value} (he : ws[q0]? = some (a, .inr (ci, fs))) (hc : vwCl[ci]? = some (C, T, N)) (k : Nat) (hk : k < N) (hlink : (Cond.fieldLink own index (T k).1 (T k).2.1 (T k).2.2.1).before args s = true) (hfin : (T k).2.2.2 = false) {v : Int32} (hd : parseFieldDescriptor (T k).2.2.1 = some .int) (hl : k < fs.length)
    (hdg : decode cc pc = .ok (.putfield index, 3)) (kk : ∀ (H1 : Heap) (locs1 : List Loc), va_P D vwCl (ws.set q0 (a, .inr (ci, fs.set k (.int v)))) H1 → va_S A H0 H1 locs1 → W p l e R s m args below meth c H1 locs1 cells slots Q (F0 m (pc + 3) ls rest)) : W p l e R s m args below meth c H locs cells slots Q (F0 m pc ls (.int v :: .ref a :: rest)) :=
  va_put hexec hb hts hin ty0 hty hnm hown hK.1 hP hD hS0 q0 he hc k hk hlink (fun _ h => h) hfin hd rfl rfl hl hdg (fun H1 l1 h1 _ h3 => kk H1 l1 h1 h3)
-- branches on naturals
theorem b_ge (hexec : p.tables.exec = Jvm.exec) (hb : c.code = cc) {x y : Nat} (hx : x < 2147483648) (hy : y < 2147483648) {off : Int} {tgt : Nat} (hdg : decode cc pc = .ok (.if_icmp .ge off, 3)) (ht : (pc : Int) + off = (tgt : Int)) (kt : y ≤ x → W p l e R s m args below meth c H locs cells slots Q (F0 m tgt ls rest)) (kf : x < y → W p l e R s m args below meth c H locs cells slots Q (F0 m (pc + 3) ls rest)) : W p l e R s m args below meth c H locs cells slots Q (F0 m pc ls (.int (nI y) :: .int (nI x) :: rest)) :=
  lv_icmp_ge hexec hb hdg ht (fun h => kt ((nI_leI hy hx).mp h)) (fun h => kf (Nat.not_le.mp (fun q => h ((nI_leI hy hx).mpr q))))
theorem b_gt (hexec : p.tables.exec = Jvm.exec) (hb : c.code = cc) {x y : Nat} (hx : x < 2147483648) (hy : y < 2147483648) {off : Int} {tgt : Nat} (hdg : decode cc pc = .ok (.if_icmp .gt off, 3)) (ht : (pc : Int) + off = (tgt : Int)) (kt : y < x → W p l e R s m args below meth c H locs cells slots Q (F0 m tgt ls rest)) (kf : x ≤ y → W p l e R s m args below meth c H locs cells slots Q (F0 m (pc + 3) ls rest)) : W p l e R s m args below meth c H locs cells slots Q (F0 m pc ls (.int (nI y) :: .int (nI x) :: rest)) :=
  lv_icmp_gt hexec hb hdg ht (fun h => kt ((nI_ltI hy hx).mp h)) (fun h => kf (Nat.not_lt.mp (fun q => h ((nI_ltI hy hx).mpr q))))
theorem b_lt (hexec : p.tables.exec = Jvm.exec) (hb : c.code = cc) {x y : Nat} (hx : x < 2147483648) (hy : y < 2147483648) {off : Int} {tgt : Nat} (hdg : decode cc pc = .ok (.if_icmp .lt off, 3)) (ht : (pc : Int) + off = (tgt : Int)) (kt : x < y → W p l e R s m args below meth c H locs cells slots Q (F0 m tgt ls rest)) (kf : y ≤ x → W p l e R s m args below meth c H locs cells slots Q (F0 m (pc + 3) ls rest)) : W p l e R s m args below meth c H locs cells slots Q (F0 m pc ls (.int (nI y) :: .int (nI x) :: rest)) :=
  lv_icmp_lt hexec hb hdg ht (fun h => kt ((nI_ltI hx hy).mp h)) (fun h => kf (Nat.not_lt.mp (fun q => h ((nI_ltI hx hy).mpr q))))
theorem b_le (hexec : p.tables.exec = Jvm.exec) (hb : c.code = cc) {x y : Nat} (hx : x < 2147483648) (hy : y < 2147483648) {off : Int} {tgt : Nat} (hdg : decode cc pc = .ok (.if_icmp .le off, 3)) (ht : (pc : Int) + off = (tgt : Int)) (kt : x ≤ y → W p l e R s m args below meth c H locs cells slots Q (F0 m tgt ls rest)) (kf : y < x → W p l e R s m args below meth c H locs cells slots Q (F0 m (pc + 3) ls rest)) : W p l e R s m args below meth c H locs cells slots Q (F0 m pc ls (.int (nI y) :: .int (nI x) :: rest)) :=
  lv_icmp_le hexec hb hdg ht (fun h => kt ((nI_leI hx hy).mp h)) (fun h => kf (Nat.not_le.mp (fun q => h ((nI_leI hx hy).mpr q))))
theorem b_eq (hexec : p.tables.exec = Jvm.exec) (hb : c.code = cc) {x y : Nat} (hx : x < 2147483648) (hy : y < 2147483648) {off : Int} {tgt : Nat} (hdg : decode cc pc = .ok (.if_icmp .eq off, 3)) (ht : (pc : Int) + off = (tgt : Int)) (kt : x = y → W p l e R s m args below meth c H locs cells slots Q (F0 m tgt ls rest)) (kf : ¬ x = y → W p l e R s m args below meth c H locs cells slots Q (F0 m (pc + 3) ls rest)) : W p l e R s m args below meth c H locs cells slots Q (F0 m pc ls (.int (nI y) :: .int (nI x) :: rest)) :=
  lv_icmp_eq hexec hb hdg ht (fun h => kt ((nI_eq hx hy).mp h)) (fun h => kf (fun q => h ((nI_eq hx hy).mpr q)))
theorem b_ne (hexec : p.tables.exec = Jvm.exec) (hb : c.code = cc) {x y : Nat} (hx : x < 2147483648) (hy : y < 2147483648) {off : Int} {tgt : Nat} (hdg : decode cc pc = .ok (.if_icmp .ne off, 3)) (ht : (pc : Int) + off = (tgt : Int)) (kt : ¬ x = y → W p l e R s m args below meth c H locs cells slots Q (F0 m tgt ls rest)) (kf : x = y → W p l e R s m args below meth c H locs cells slots Q (F0 m (pc + 3) ls rest)) : W p l e R s m args below meth c H locs cells slots Q (F0 m pc ls (.int (nI y) :: .int (nI x) :: rest)) :=
  lv_icmp_ne hexec hb hdg ht (fun h => kt (fun q => h ((nI_eq hx hy).mpr q))) (fun h => kf ((nI_eq hx hy).mp h))
-- branches on what was said
theorem bI_0 {q : Prop} [Decidable q] : bI q = 0 ↔ ¬ q := by unfold bI; by_cases h : q <;> simp [h]
theorem b_ifeq {q : Prop} [Decidable q] (hexec : p.tables.exec = Jvm.exec) (hb : c.code = cc) {off : Int} {tgt : Nat} (hdg : decode cc pc = .ok (.ifCond .eq off, 3)) (ht : (pc : Int) + off = (tgt : Int)) (kt : ¬ q → W p l e R s m args below meth c H locs cells slots Q (F0 m tgt ls rest)) (kf : q → W p l e R s m args below meth c H locs cells slots Q (F0 m (pc + 3) ls rest)) : W p l e R s m args below meth c H locs cells slots Q (F0 m pc ls (.int (bI q) :: rest)) :=
  lv_if_eq hexec hb hdg ht (fun h => kt (bI_0.mp h)) (fun h => kf (by by_cases hq : q; exact hq; exact absurd (bI_0.mpr hq) h))
theorem b_ifne {q : Prop} [Decidable q] (hexec : p.tables.exec = Jvm.exec) (hb : c.code = cc) {off : Int} {tgt : Nat} (hdg : decode cc pc = .ok (.ifCond .ne off, 3)) (ht : (pc : Int) + off = (tgt : Int)) (kt : q → W p l e R s m args below meth c H locs cells slots Q (F0 m tgt ls rest)) (kf : ¬ q → W p l e R s m args below meth c H locs cells slots Q (F0 m (pc + 3) ls rest)) : W p l e R s m args below meth c H locs cells slots Q (F0 m pc ls (.int (bI q) :: rest)) :=
  lv_if_ne hexec hb hdg ht (fun h => kt (by by_cases hq : q; exact hq; exact absurd (bI_0.mpr hq) h)) (fun h => kf (bI_0.mp h))
-- ends
theorem b_ret (hexec : p.tables.exec = Jvm.exec) (hb : c.code = cc) (hr : meth.sig.returnType = some .int) {v r : Int32} (hv : v = r) (hdg : decode cc pc = .ok (.ireturn, 1)) (hlocks : meth.locks = false) : W p l e R s m args below meth c s.heap [] 0 0 (MQ below (QcRead r) args s 0 0 (fun _ => False)) (F0 m pc ls [.int v]) := by
  subst hv
  exact W.iret hexec hb hr (fun t ht _ => ⟨rfl, ht⟩) (fun q h => by cases h) hdg hlocks
theorem b_nar {q : Prop} [Decidable q] : narrow .boolean (.int (bI q)) = .int (bI q) := by unfold bI; by_cases h : q <;> simp [h] <;> rfl
theorem b_zret (hexec : p.tables.exec = Jvm.exec) (hb : c.code = cc) (hr : meth.sig.returnType = some .boolean) {v : Int32} {q : Prop} [Decidable q] (hv : v = bI q) (hdg : decode cc pc = .ok (.ireturn, 1)) (hlocks : meth.locks = false) : W p l e R s m args below meth c s.heap [] 0 0 (MQ below (QcRead (bI q)) args s 0 0 (fun _ => False)) (F0 m pc ls [.int v]) := by
  subst hv
  exact W.zret hexec hb hr b_nar (fun t ht _ => ⟨rfl, ht⟩) (fun q h => by cases h) hdg hlocks
theorem b_aret (hexec : p.tables.exec = Jvm.exec) (hb : c.code = cc) {n : String} (hr : meth.sig.returnType = some (.object n)) {v r : Nat} (hv : v = r) (hdg : decode cc pc = .ok (.areturn, 1)) (hlocks : meth.locks = false) : W p l e R s m args below meth c s.heap [] 0 0 (MQ below (qRef r) args s 0 0 (fun _ => False)) (F0 m pc ls [.ref v]) := by
  subst hv
  exact W.aret hexec hb hr (Or.inl ⟨n, rfl⟩) (Or.inr ⟨v, rfl⟩) (fun t ht _ => ⟨rfl, ht⟩) (fun q h => by cases h) hdg hlocks
theorem b_retM (hexec : p.tables.exec = Jvm.exec) (hb : c.code = cc) (hr : meth.sig.returnType = some .int) {ws' : va_W} (hP : va_P D vwCl ws' H) (hS : va_S A s.heap H locs) {v r : Int32} (hv : v = r) (hdg : decode cc pc = .ok (.ireturn, 1)) (hlocks : meth.locks = false) : W p l e R s m args below meth c H locs 0 0 (MQ below (qM D (some (.int r)) ws' A) args s 0 0 A) (F0 m pc ls [.int v]) := by
  subst hv
  exact W.iret hexec hb hr (fun t ht _ => ⟨rfl, by rw [ht]; exact hP, hS.F ht⟩) hS.2.2 hdg hlocks
theorem b_vretM (hexec : p.tables.exec = Jvm.exec) (hb : c.code = cc) (hr : meth.sig.returnType = none) {ws' : va_W} (hP : va_P D vwCl ws' H) (hS : va_S A s.heap H locs) (hdg : decode cc pc = .ok (.return_, 1)) (hlocks : meth.locks = false) : W p l e R s m args below meth c H locs 0 0 (MQ below (qM D none ws' A) args s 0 0 A) (F0 m pc ls []) :=
  W.vret hexec hb hr (fun t ht _ => ⟨rfl, by rw [ht]; exact hP, hS.F ht⟩) hS.2.2 hdg hlocks
end BASE
/-- f at 0, 1, .. n-1 in turn -/
def itr {α : Type} (f : Nat → α → α) : Nat → α → α
  | 0, a => a
  | n + 1, a => f n (itr f n a)
