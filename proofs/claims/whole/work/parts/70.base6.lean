/-! BASE 6: constructors -/
abbrev zf : Nat → Int32 := fun _ => 0
abbrev pI (D : va_G) (cI cZ cT : ClassId) (av : List Value) (ws : va_W) (sz : Nat) : Array Value → State → Prop := va_Pc av (fun U => U.heap.size = sz ∧ va_P D vwCl ws U.heap ∧ va_D (fun _ => True) ws ∧ KX D cI cZ cT U)
def qI (D : va_G) (Wf : va_W → Prop) (A : Nat → Prop) : Array Value → State → Outcome → State → Prop := fun _ st o t => o = .returned none ∧ (∃ ws', Wf ws' ∧ va_P D vwCl ws' t.heap ∧ va_D A ws') ∧ va_F A st t
section BASE6
variable {p : Program} {l : Launch} {e : Env} {R : Room} {s : State} {m : MethodId} {args : Array Value} {below : List Frame} {meth : Method} {c : Code} {H : Heap} {locs : List Loc} {cells slots : Nat} {Q : State → Prop}
variable {cc : ByteArray} {pc : Nat} {ls : Array Slot} {rest st0 : List Value} {D : va_G} {cI cZ cT : ClassId} {A : Nat → Prop} {a b : Nat} {ws wr wc : va_W} {H0 : Heap} {As : List Value} {Wf : va_W → Prop}
theorem b_vretI (hexec : p.tables.exec = Jvm.exec) (hb : c.code = cc) (hr : meth.sig.returnType = none) (hw : Wf ws) (hP : va_P D vwCl ws H) (hD : va_D A ws) (hS : va_S A s.heap H locs) (hdg : decode cc pc = .ok (.return_, 1)) (hlocks : meth.locks = false) : W p l e R s m args below meth c H locs cells slots (MQ below (qI D Wf A) args s cells slots A) (F0 m pc ls []) :=
  W.vret hexec hb hr (fun t ht _ => ⟨rfl, ⟨ws, hw, by rw [ht]; exact hP, hD⟩, hS.F ht⟩) hS.2.2 hdg hlocks
theorem b_callI {mc ms : Nat} {aa : Array Value} (hr : CallRun p l e R s m args below meth c H locs cells slots mc ms (F0 m pc ls st0) rest (qI D Wf (va_A wc H.size) aa) (va_A wc H.size)) (hP : va_P D vwCl (wr ++ wc) H) (hD : va_D A (wr ++ wc)) (hS : va_S A H0 H locs) (hA : ∀ q, H0.size ≤ q → A q)
    (kk : ∀ (wc' : va_W) (H1 : Heap) (locs1 : List Loc), Wf wc' → va_P D vwCl (wr ++ wc') H1 → va_D A (wr ++ wc') → va_S A H0 H1 locs1 → W p l e R s m args below meth c H1 locs1 (cells + mc) (slots + ms) Q (F0 m (pc + 3) ls rest)) : W p l e R s m args below meth c H locs cells slots Q (F0 m pc ls st0) := by
  intro T hT X
  obtain ⟨v', st₀, t, T', L, h0, X', hL, e1, ⟨hv, ⟨wc', hw, hp, hd⟩, hz, hk⟩, st⟩ := hr T hT X
  cases hv
  rw [h0] at hz hk
  have hF : ∀ q, va_A wc H.size q → A q := by
    intro q h
    rcases h with ⟨k, e, h⟩ | h
    · exact hD.2 (wr.length + k) (q, e) (by rw [List.getElem?_append_right (by omega), show wr.length + k - wr.length = k by omega]; exact h)
    · exact hA q (Nat.le_trans hS.1 h)
  have hlt : ∀ x ∈ wr, x.1 < H.size := fun x hx => by obtain ⟨i, hi⟩ := List.getElem?_of_mem (List.mem_append_left wc hx); exact (hP i x hi).lt
  have hnA : ∀ x ∈ wr, ¬ va_A wc H.size x.1 := by
    intro x hx h
    rcases h with ⟨k, e, h⟩ | h
    · exact wX_apart hD hx (List.mem_of_getElem? h) rfl
    · have := hlt x hx; omega
  have hPn : va_P D vwCl (wr ++ wc') t.heap := by
    intro k q hq
    rcases List.mem_append.mp (List.mem_of_getElem? hq) with h | h
    · obtain ⟨i, hi⟩ := List.getElem?_of_mem (List.mem_append_left wc h)
      exact (hP i q hi).kept (hk q.1 (hlt q h) (hnA q h))
    · obtain ⟨i, hi⟩ := List.getElem?_of_mem h
      exact hp i q hi
  have hDn : va_D A (wr ++ wc') := by
    refine va_D.of_nd ?_ ?_
    · rw [List.map_append, List.nodup_append]
      refine ⟨hD.left.nd, hd.nd, ?_⟩
      intro a ha b hb
      obtain ⟨x, h1, rfl⟩ := List.mem_map.mp ha
      obtain ⟨y, h2, rfl⟩ := List.mem_map.mp hb
      intro e
      obtain ⟨i, hi⟩ := List.getElem?_of_mem h2
      have := hd.2 i y hi
      rw [← e] at this
      exact hnA x h1 this
    · intro q hq
      rcases List.mem_append.mp hq with h | h
      · obtain ⟨i, hi⟩ := List.getElem?_of_mem (List.mem_append_left wc h); exact hD.2 i q hi
      · obtain ⟨i, hi⟩ := List.getElem?_of_mem h; exact hF _ (hd.2 i q hi)
  obtain ⟨t2, a1, b1⟩ := kk wc' t.heap (locs ++ L) hw hPn hDn ⟨Nat.le_trans hS.1 hz, fun q h1 h2 => by rw [hk q (Nat.lt_of_lt_of_le h1 hS.1) (fun z => h2 (hF q z))]; exact hS.2.1 q h1 h2, fun q hq => by
      rcases List.mem_append.mp hq with h | h
      · exact hS.2.2 q h
      · exact hF _ (hL q h)⟩ T' e1 X'
  exact ⟨t2, st t2 a1, b1⟩
theorem b_pI (hK : KX D cI cZ cT s) (hP : va_P D vwCl (wr ++ wc) H) (hD : va_D A (wr ++ wc)) : PreS s H (pI D cI cZ cT As wc H.size) As :=
  ⟨fun _ _ _ _ q => ⟨q.1, q.2.1, q.2.2.1, q.2.2.2.1, q.2.2.2.2.blind⟩, fun U hU hW => ⟨rfl, by rw [hU], by rw [hU]; exact hP.memb (fun q h => List.mem_append_right _ h), va_D.of_nd (by have g := hD.nd; rw [List.map_append] at g; exact (List.nodup_append.mp g).2.1) (fun _ _ => trivial), hK.warm hW⟩⟩
theorem b_newI (hexec : p.tables.exec = Jvm.exec) (hb : c.code = cc) (harr : (Cond.arrayClass .int).before args s = true) (hK : KX D cI cZ cT s) (hP : va_P D vwCl ws H) (hD : va_D A ws) (hS : va_S A H0 H locs) (hA : ∀ q, H0.size ≤ q → A q) {N : Nat} (hN : N < 2147483648) (hbytes : N * componentBytes .int ≤ 536870912) (hcells : cells + 1 ≤ R.cells) (hslots : slots + N ≤ R.slots) (hdg : decode cc pc = .ok (.newarray .int, 2))
    (kk : ∀ (q : Nat) (H1 : Heap), va_P D vwCl (ws ++ [(q, .inl (cI, N, .inl zf))]) H1 → va_D A (ws ++ [(q, .inl (cI, N, .inl zf))]) → va_S A H0 H1 locs → W p l e R s m args below meth c H1 locs (cells + 1) (slots + N) Q (F0 m (pc + 2) ls (.ref q :: rest))) : W p l e R s m args below meth c H locs cells slots Q (F0 m pc ls (.int (nI N) :: rest)) :=
  va_newa (atype := .int) (ty := .int) (a0 := (N, .inl zf)) hexec hb harr rfl hK.1 hP hD hS hA (fun _ => rfl) (nI_pos hN) (nI_clamp hN) hbytes hcells hslots hdg (fun q cA H1 hK1 h1 h2 h3 => by
    have g1 : va_RA s cA .int := (hK1.2 3 (cA, .int) rfl).2
    have g2 : va_RA s cI .int := (hK.1.2 0 (cI, .int) rfl).2
    have e : cA = cI := Option.some.inj (Eq.trans (Eq.symm g1) g2)
    subst e
    exact kk q H1 h1 h2 h3)
theorem b_newZ (hexec : p.tables.exec = Jvm.exec) (hb : c.code = cc) (harr : (Cond.arrayClass .boolean).before args s = true) (hK : KX D cI cZ cT s) (hP : va_P D vwCl ws H) (hD : va_D A ws) (hS : va_S A H0 H locs) (hA : ∀ q, H0.size ≤ q → A q) {N : Nat} (hN : N < 2147483648) (hbytes : N * componentBytes .boolean ≤ 536870912) (hcells : cells + 1 ≤ R.cells) (hslots : slots + N ≤ R.slots) (hdg : decode cc pc = .ok (.newarray .boolean, 2))
    (kk : ∀ (q : Nat) (H1 : Heap), va_P D vwCl (ws ++ [(q, .inl (cZ, N, .inl zf))]) H1 → va_D A (ws ++ [(q, .inl (cZ, N, .inl zf))]) → va_S A H0 H1 locs → W p l e R s m args below meth c H1 locs (cells + 1) (slots + N) Q (F0 m (pc + 2) ls (.ref q :: rest))) : W p l e R s m args below meth c H locs cells slots Q (F0 m pc ls (.int (nI N) :: rest)) :=
  va_newa (atype := .boolean) (ty := .boolean) (a0 := (N, .inl zf)) hexec hb harr rfl hK.1 hP hD hS hA (fun _ => rfl) (nI_pos hN) (nI_clamp hN) hbytes hcells hslots hdg (fun q cA H1 hK1 h1 h2 h3 => by
    have g1 : va_RA s cA .boolean := (hK1.2 3 (cA, .boolean) rfl).2
    have g2 : va_RA s cZ .boolean := (hK.1.2 1 (cZ, .boolean) rfl).2
    have e : cA = cZ := Option.some.inj (Eq.trans (Eq.symm g1) g2)
    subst e
    exact kk q H1 h1 h2 h3)
theorem b_newQ (hexec : p.tables.exec = Jvm.exec) (hb : c.code = cc) {own : String} {index : Nat} (hown : s.vm.findClass own = some m.cls) (hclink : (Cond.classLink own index RX8).before args s = true) (hK : KX D cI cZ cT s) (hP : va_P D vwCl ws H) (hD : va_D A ws) (hS : va_S A H0 H locs) (hA : ∀ q, H0.size ≤ q → A q) {N : Nat} (hN : N < 2147483648) (hbytes : N * 4 ≤ 536870912) (hcells : cells + 1 ≤ R.cells) (hslots : slots + N ≤ R.slots) (hdg : decode cc pc = .ok (.anewarray index, 3))
    (kk : ∀ (q : Nat) (H1 : Heap), va_P D vwCl (ws ++ [(q, .inl (cT, N, .inr (.inr (.inr (.inr (fun _ => none))))))]) H1 → va_D A (ws ++ [(q, .inl (cT, N, .inr (.inr (.inr (.inr (fun _ => none))))))]) → va_S A H0 H1 locs → W p l e R s m args below meth c H1 locs (cells + 1) (slots + N) Q (F0 m (pc + 3) ls (.ref q :: rest))) : W p l e R s m args below meth c H locs cells slots Q (F0 m pc ls (.int (nI N) :: rest)) :=
  va_newq hexec hb hown hclink hK.2.2.2.2.2 hK.1 hP hD hS hA (nI_pos hN) (nI_clamp hN) hbytes hcells hslots hdg (fun q cA H1 hK1 h1 h2 h3 => by
    obtain ⟨-, -, -, -, -, g1⟩ : va_RA s cA (.object RX8) := (hK1.2 3 (cA, .object RX8) rfl).2
    obtain ⟨-, -, -, -, -, g2⟩ : va_RA s cT (.object RX8) := (hK.1.2 2 (cT, .object RX8) rfl).2
    have e : cA = cT := Option.some.inj (Eq.trans (Eq.symm g1) g2)
    subst e
    exact kk q H1 h1 h2 h3)
theorem b_loopC {head N c0 s0 dc ds : Nat} {I : Nat → Array Slot → Heap → List Loc → Prop} (hs : ∀ k, k ≤ N → (k < N → ∀ ls' H' locs', I (k + 1) ls' H' locs' → W p l e R s m args below meth c H' locs' (c0 + dc * (k + 1)) (s0 + ds * (k + 1)) Q (F0 m head ls' [])) → ∀ ls' H' locs', I k ls' H' locs' → W p l e R s m args below meth c H' locs' (c0 + dc * k) (s0 + ds * k) Q (F0 m head ls' [])) (h0 : I 0 ls H locs) : W p l e R s m args below meth c H locs c0 s0 Q (F0 m head ls []) := by
  have key : ∀ n k, k + n = N → ∀ ls' H' locs', I k ls' H' locs' → W p l e R s m args below meth c H' locs' (c0 + dc * k) (s0 + ds * k) Q (F0 m head ls' []) := by
    intro n
    induction n with
    | zero => intro k hk ls' H' l' h; exact hs k (by omega) (fun h => absurd h (by omega)) ls' H' l' h
    | succ n ih => intro k hk ls' H' l' h; exact hs k (by omega) (fun _ ls2 H2 l2 h2 => ih (k + 1) (by omega) ls2 H2 l2 h2) ls' H' l' h
  have := key N 0 (by omega) ls H locs h0
  rw [Nat.mul_zero, Nat.mul_zero, Nat.add_zero, Nat.add_zero] at this
  exact this
end BASE6
