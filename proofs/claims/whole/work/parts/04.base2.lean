/-! BASE 2: loops, joins, switches -/
section BASE2
variable {p : Program} {l : Launch} {e : Env} {R : Room} {s : State} {m : MethodId} {args : Array Value} {below : List Frame} {meth : Method} {c : Code} {H : Heap} {locs : List Loc} {cells slots : Nat} {Q : State → Prop}
variable {cc : ByteArray} {pc : Nat} {ls : Array Slot} {rest st0 : List Value} {D : va_G} {cI cZ cT : ClassId} {A : Nat → Prop} {a b : Nat} {ws wc : va_W} {H0 : Heap} {As : List Value}
theorem b_loopR {head : Nat} {N : Nat} {I : Nat → Array Slot → Prop} (hs : ∀ k, k ≤ N → (k < N → ∀ ls', I (k + 1) ls' → W p l e R s m args below meth c H locs cells slots Q (F0 m head ls' [])) → ∀ ls', I k ls' → W p l e R s m args below meth c H locs cells slots Q (F0 m head ls' [])) (k0 : Nat) (hk0 : k0 ≤ N) (h0 : I k0 ls) : W p l e R s m args below meth c H locs cells slots Q (F0 m head ls []) := by
  have key : ∀ n k, k + n = N → ∀ ls', I k ls' → W p l e R s m args below meth c H locs cells slots Q (F0 m head ls' []) := by
    intro n
    induction n with
    | zero => intro k hk ls' h; exact hs k (by omega) (fun h => absurd h (by omega)) ls' h
    | succ n ih => intro k hk ls' h; exact hs k (by omega) (fun _ ls2 h2 => ih (k + 1) (by omega) ls2 h2) ls' h
  exact key (N - k0) k0 (by omega) ls h0
theorem b_loopM {head : Nat} {N : Nat} {I : Nat → Array Slot → Heap → List Loc → Prop} (hs : ∀ k, k ≤ N → (k < N → ∀ ls' H' locs', I (k + 1) ls' H' locs' → W p l e R s m args below meth c H' locs' cells slots Q (F0 m head ls' [])) → ∀ ls' H' locs', I k ls' H' locs' → W p l e R s m args below meth c H' locs' cells slots Q (F0 m head ls' [])) (k0 : Nat) (hk0 : k0 ≤ N) (h0 : I k0 ls H locs) : W p l e R s m args below meth c H locs cells slots Q (F0 m head ls []) := by
  have key : ∀ n k, k + n = N → ∀ ls' H' locs', I k ls' H' locs' → W p l e R s m args below meth c H' locs' cells slots Q (F0 m head ls' []) := by
    intro n
    induction n with
    | zero => intro k hk ls' H' l' h; exact hs k (by omega) (fun h => absurd h (by omega)) ls' H' l' h
    | succ n ih => intro k hk ls' H' l' h; exact hs k (by omega) (fun _ ls2 H2 l2 h2 => ih (k + 1) (by omega) ls2 H2 l2 h2) ls' H' l' h
  exact key (N - k0) k0 (by omega) ls H locs h0
theorem b_join {jpc : Nat} {P : Int32 → Prop} {rest' : List Value} (k : ∀ v : Int32, P v → W p l e R s m args below meth c H locs cells slots Q (F0 m jpc ls (.int v :: rest'))) (h : (∀ v : Int32, P v → W p l e R s m args below meth c H locs cells slots Q (F0 m jpc ls (.int v :: rest'))) → W p l e R s m args below meth c H locs cells slots Q (F0 m pc ls rest)) : W p l e R s m args below meth c H locs cells slots Q (F0 m pc ls rest) := h k
/-- a state of a loop behind a choice: other names, the same heap -/
theorem b_joinL {jpc nL : Nat} {P : Int32 → Prop} {lv : Int32 → List (Nat × Value)} {rest' : List Value} (k : ∀ (v : Int32) (ls' : Array Slot), P v → lv_has ls' nL (lv v) → W p l e R s m args below meth c H locs cells slots Q (F0 m jpc ls' rest')) (h : (∀ (v : Int32) (ls' : Array Slot), P v → lv_has ls' nL (lv v) → W p l e R s m args below meth c H locs cells slots Q (F0 m jpc ls' rest')) → W p l e R s m args below meth c H locs cells slots Q (F0 m pc ls rest)) : W p l e R s m args below meth c H locs cells slots Q (F0 m pc ls rest) := h k
theorem b_cutM {jpc : Nat} {I : Array Slot → Heap → List Loc → Prop} {rest' : List Value} (k : ∀ (ls' : Array Slot) (H' : Heap) (locs' : List Loc), I ls' H' locs' → W p l e R s m args below meth c H' locs' cells slots Q (F0 m jpc ls' rest')) (h : (∀ (ls' : Array Slot) (H' : Heap) (locs' : List Loc), I ls' H' locs' → W p l e R s m args below meth c H' locs' cells slots Q (F0 m jpc ls' rest')) → W p l e R s m args below meth c H locs cells slots Q (F0 m pc ls rest)) : W p l e R s m args below meth c H locs cells slots Q (F0 m pc ls rest) := h k
theorem b_cutR {jpc : Nat} {I : Array Slot → Prop} {rest' : List Value} (k : ∀ (ls' : Array Slot), I ls' → W p l e R s m args below meth c H locs cells slots Q (F0 m jpc ls' rest')) (h : (∀ (ls' : Array Slot), I ls' → W p l e R s m args below meth c H locs cells slots Q (F0 m jpc ls' rest')) → W p l e R s m args below meth c H locs cells slots Q (F0 m pc ls rest)) : W p l e R s m args below meth c H locs cells slots Q (F0 m pc ls rest) := h k
theorem b_putZ {own C : String} {T : u_T} {N ci index : Nat} {Ts : List Cond} (hexec : p.tables.exec = Jvm.exec) (hb : c.code = cc) (hts : ∀ w ∈ Ts, w.before args s = true) (hin : ∀ w ∈ u_ws C T N, w ∈ Ts) (ty0 : Nat → FieldType) (hty : ∀ k, k < N → parseFieldDescriptor (T k).2.2.1 = some (ty0 k)) (hnm : ∀ a, a < N → ∀ b, b < N → a ≠ b → (T a).2.1 ≠ (T b).2.1) (hown : s.vm.findClass own = some m.cls) (hK : KX D cI cZ cT s) (hP : va_P D vwCl ws H) (hD : va_D A ws) (hS0 : va_S A H0 H locs) (q0 : Nat) {fs : List Value} (he : ws[q0]? = some (a, .inr (ci, fs))) (hc : vwCl[ci]? = some (C, T, N)) (k : Nat) (hk : k < N) (hlink : (Cond.fieldLink own index (T k).1 (T k).2.1 (T k).2.2.1).before args s = true) (hfin : (T k).2.2.2 = false) {v : Int32} (hd : parseFieldDescriptor (T k).2.2.1 = some .boolean) (hn : narrow .boolean (.int v) = .int v ∧ fits .boolean (.int v) = true) (hl : k < fs.length)
    (hdg : decode cc pc = .ok (.putfield index, 3)) (kk : ∀ (H1 : Heap) (locs1 : List Loc), va_P D vwCl (ws.set q0 (a, .inr (ci, fs.set k (.int v)))) H1 → va_S A H0 H1 locs1 → W p l e R s m args below meth c H1 locs1 cells slots Q (F0 m (pc + 3) ls rest)) : W p l e R s m args below meth c H locs cells slots Q (F0 m pc ls (.int v :: .ref a :: rest)) :=
  va_put hexec hb hts hin ty0 hty hnm hown hK.1 hP hD hS0 q0 he hc k hk hlink (fun _ h => h) hfin hd hn.1 hn.2 hl hdg (fun H1 l1 h1 _ h3 => kk H1 l1 h1 h3)
theorem b_zretM (hexec : p.tables.exec = Jvm.exec) (hb : c.code = cc) (hr : meth.sig.returnType = some .boolean) {ws' : va_W} (hP : va_P D vwCl ws' H) (hS : va_S A s.heap H locs) {v : Int32} {q : Prop} [Decidable q] (hv : v = bI q) (hdg : decode cc pc = .ok (.ireturn, 1)) (hlocks : meth.locks = false) : W p l e R s m args below meth c H locs 0 0 (MQ below (qM D (some (.int (bI q))) ws' A) args s 0 0 A) (F0 m pc ls [.int v]) := by
  subst hv
  exact W.zret hexec hb hr b_nar (fun t ht _ => ⟨rfl, by rw [ht]; exact hP, hS.F ht⟩) hS.2.2 hdg hlocks
theorem b_zld (hexec : p.tables.exec = Jvm.exec) (hb : c.code = cc) (hK : KX D cI cZ cT s) (hP : va_P D vwCl ws H) (q0 : Nat) {n k : Nat} {f : Nat → Int32} (ha : ws[q0]? = some (a, .inl (cZ, n, .inl f))) (hk : k < n) (hn : n < 2147483648) (hdg : decode cc pc = .ok (.baload, 1))
    (kk : W p l e R s m args below meth c H locs cells slots Q (F0 m (pc + 1) ls (.int (f k) :: rest))) : W p l e R s m args below meth c H locs cells slots Q (F0 m pc ls (.int (nI k) :: .ref a :: rest)) :=
  va_zald hexec hb hK.1 hP q0 1 ha rfl (vp_in_nI hk hn) hdg (by rw [nI_clamp (Nat.lt_trans hk hn)]; exact kk)
theorem b_zst (hexec : p.tables.exec = Jvm.exec) (hb : c.code = cc) (hK : KX D cI cZ cT s) (hP : va_P D vwCl ws H) (hD : va_D A ws) (hS : va_S A H0 H locs) (q0 : Nat) {n k : Nat} {f : Nat → Int32} {x : Int32} (ha : ws[q0]? = some (a, .inl (cZ, n, .inl f))) (hk : k < n) (hn : n < 2147483648) (hx1 : vp_nar .boolean x = x) (hdg : decode cc pc = .ok (.bastore, 1))
    (kk : ∀ (H1 : Heap) (locs1 : List Loc), va_P D vwCl (ws.set q0 (a, .inl (cZ, n, .inl (upd f k x)))) H1 → va_S A H0 H1 locs1 → W p l e R s m args below meth c H1 locs1 cells slots Q (F0 m (pc + 1) ls rest)) : W p l e R s m args below meth c H locs cells slots Q (F0 m pc ls (.int x :: .int (nI k) :: .ref a :: rest)) :=
  va_zast hexec hb hK.1 hP hD hS q0 1 ha rfl (vp_in_nI hk hn) hdg (fun H1 locs1 h1 _ h3 => kk H1 locs1 (by rw [nI_clamp (Nat.lt_trans hk hn), hx1] at h1; exact h1) h3)
end BASE2
theorem va_D.sameA {A : Nat → Prop} {ws ws' : va_W} (hD : va_D A ws) (as : List Nat) (h1 : ws.map Prod.fst = as) (h2 : ws'.map Prod.fst = as) : va_D A ws' := hD.same (h2.trans h1.symm)
theorem i_toInt {a b : Int32} : a = b ↔ a.toInt = b.toInt := ⟨fun h => h ▸ rfl, fun h => Int32.toInt_inj.mp h⟩
theorem i_nat {x : Int32} (n : Nat) (h0 : ¬ x < 0) {y : Int32} (h1 : ¬ y < x) (hy : y = nI n) (hn : n < 2147483648) : ∃ r : Nat, r ≤ n ∧ x = nI r := by
  obtain ⟨j, hj, rfl⟩ := nI_of h0
  subst hy
  exact ⟨j, Nat.le_of_not_lt fun h => h1 (nI_lt h hj), rfl⟩
theorem sw_out {x : Int32} {lo hi : Int} (h : ∀ k : Int, lo ≤ k → k ≤ hi → x.toInt ≠ k) : x.toInt < lo ∨ hi < x.toInt := by
  by_cases h1 : x.toInt < lo
  · exact Or.inl h1
  · by_cases h2 : hi < x.toInt
    · exact Or.inr h2
    · exact absurd rfl (h x.toInt (by omega) (by omega))
theorem sw_ne {x : Int32} {n : Int32} (h : ¬ x = n) : x.toInt ≠ n.toInt := fun q => h (i_toInt.mpr q)
theorem sw_out1_4 {x : Int32} (h1 : ¬ x = 1) (h2 : ¬ x = 2) (h3 : ¬ x = 3) (h4 : ¬ x = 4) : x.toInt < 1 ∨ 4 < x.toInt := by
  have a1 : x.toInt ≠ 1 := sw_ne h1
  have a2 : x.toInt ≠ 2 := sw_ne h2
  have a3 : x.toInt ≠ 3 := sw_ne h3
  have a4 : x.toInt ≠ 4 := sw_ne h4
  omega
theorem sw_out0_4 {x : Int32} (h0 : ¬ x = 0) (h1 : ¬ x = 1) (h2 : ¬ x = 2) (h3 : ¬ x = 3) (h4 : ¬ x = 4) : x.toInt < 0 ∨ 4 < x.toInt := by
  have a0 : x.toInt ≠ 0 := sw_ne h0
  have a1 : x.toInt ≠ 1 := sw_ne h1
  have a2 : x.toInt ≠ 2 := sw_ne h2
  have a3 : x.toInt ≠ 3 := sw_ne h3
  have a4 : x.toInt ≠ 4 := sw_ne h4
  omega
theorem sw_out0_5 {x : Int32} (h0 : ¬ x = 0) (h1 : ¬ x = 1) (h2 : ¬ x = 2) (h3 : ¬ x = 3) (h4 : ¬ x = 4) (h5 : ¬ x = 5) : x.toInt < 0 ∨ 5 < x.toInt := by
  have a0 : x.toInt ≠ 0 := sw_ne h0
  have a1 : x.toInt ≠ 1 := sw_ne h1
  have a2 : x.toInt ≠ 2 := sw_ne h2
  have a3 : x.toInt ≠ 3 := sw_ne h3
  have a4 : x.toInt ≠ 4 := sw_ne h4
  have a5 : x.toInt ≠ 5 := sw_ne h5
  omega
theorem sw_out0_7 {x : Int32} (h0 : ¬ x = 0) (h1 : ¬ x = 1) (h2 : ¬ x = 2) (h3 : ¬ x = 3) (h4 : ¬ x = 4) (h5 : ¬ x = 5) (h6 : ¬ x = 6) (h7 : ¬ x = 7) : x.toInt < 0 ∨ 7 < x.toInt := by
  have a0 : x.toInt ≠ 0 := sw_ne h0
  have a1 : x.toInt ≠ 1 := sw_ne h1
  have a2 : x.toInt ≠ 2 := sw_ne h2
  have a3 : x.toInt ≠ 3 := sw_ne h3
  have a4 : x.toInt ≠ 4 := sw_ne h4
  have a5 : x.toInt ≠ 5 := sw_ne h5
  have a6 : x.toInt ≠ 6 := sw_ne h6
  have a7 : x.toInt ≠ 7 := sw_ne h7
  omega
/-! STATE: the worlds of the reference and of the system's parts -/
abbrev wM (cI cZ : ClassId) (a : Nat → Nat) (s tp fk fp ap sp tk vl ac tr : Int32) (la ma it sr bt nw dr pa im kp tc : Nat → Int32) : va_W := [(a 0, .inr (11, [.ref (a 1), .ref (a 2), .ref (a 3), .ref (a 4), .int s, .ref (a 5), .int tp, .int fk, .int fp, .int ap, .int sp, .int tk, .int vl, .ref (a 6), .ref (a 7), .ref (a 8), .int ac, .ref (a 9), .ref (a 10), .ref (a 11), .int tr])), (a 1, .inl (cI, 8, .inl la)), (a 2, .inl (cI, 8, .inl ma)), (a 3, .inl (cI, 320, .inl it)), (a 4, .inl (cI, 40, .inl sr)), (a 5, .inl (cI, 120, .inl bt)), (a 6, .inl (cI, 28, .inl nw)), (a 7, .inl (cI, 28, .inl dr)), (a 8, .inl (cI, 672, .inl pa)), (a 9, .inl (cI, 56, .inl im)), (a 10, .inl (cZ, 2, .inl kp)), (a 11, .inl (cI, 16, .inl tc))]
abbrev wRows (cI : ClassId) (a : Nat → Nat) (it la sz : Nat → Int32) : va_W := [(a 0, .inr (4, [.ref (a 1), .ref (a 2), .ref (a 3)])), (a 1, .inl (cI, 320, .inl it)), (a 2, .inl (cI, 8, .inl la)), (a 3, .inl (cI, 8, .inl sz))]
abbrev wTape (cI : ClassId) (a : Nat → Nat) (tl tf tat tw : Int32) (bt : Nat → Int32) : va_W := [(a 0, .inr (6, [.ref (a 1), .int tl, .int tf, .int tat, .int tw])), (a 1, .inl (cI, 120, .inl bt))]
abbrev wTown (cI : ClassId) (a : Nat → Nat) (st dy ln rd : Int32) (kd dd nt lf : Nat → Int32) : va_W := [(a 0, .inr (7, [.int st, .int dy, .int ln, .int rd, .ref (a 1), .ref (a 2), .ref (a 3), .ref (a 4)])), (a 1, .inl (cI, 6, .inl kd)), (a 2, .inl (cI, 6, .inl dd)), (a 3, .inl (cI, 6, .inl nt)), (a 4, .inl (cI, 6, .inl lf))]
abbrev wTrace (cI : ClassId) (a : Nat → Nat) (zl : Int32) (zn : Nat → Int32) : va_W := [(a 0, .inr (8, [.ref (a 1), .int zl])), (a 1, .inl (cI, 16, .inl zn))]
abbrev wTmp (k : Nat) (a : Nat) : va_W := [(a, .inr (k, []))]
abbrev wFore (cI : ClassId) (a : Nat → Nat) (co wy : Nat → Int32) : va_W := [(a 0, .inr (2, [.ref (a 1), .ref (a 2), .ref (a 3), .ref (a 4), .ref (a 5), .ref (a 6), .ref (a 7)])), (a 1, .inr (3, [])), (a 2, .inr (9, [])), (a 3, .inr (5, [])), (a 4, .inr (1, [])), (a 5, .inr (0, [])), (a 6, .inl (cI, 16, .inl co)), (a 7, .inl (cI, 7, .inl wy))]
abbrev wNW (n : Nat) (ra pa ta da : Nat → Nat) (ia xa : Nat) (fa za : Nat → Nat) (un na fi : Int32) : va_W := [(n, .inr (10, [.ref (ra 0), .ref (pa 0), .ref (ta 0), .ref (da 0), .ref ia, .ref xa, .int un, .int na, .ref (fa 0), .ref (za 0), .int fi]))]
