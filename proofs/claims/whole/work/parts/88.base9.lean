/-! BASE 9: constructors, the object at the head of its world -/
theorem set_mid {α : Type} (X : List α) (x y : α) (Y : List α) : (X ++ x :: Y).set X.length y = X ++ y :: Y := by
  induction X with
  | nil => rfl
  | cons a X ih => exact congrArg (List.cons a) ih
theorem get_mid {α : Type} (X : List α) (x : α) (Y : List α) : (X ++ x :: Y)[X.length]? = some x := by
  induction X with
  | nil => rfl
  | cons a X ih => exact ih
theorem va_P.mid {D : va_G} {cl : List vw_C} {X Y : va_W} {x y : Nat × va_E} {H : Heap} (h : va_P D cl (X ++ x :: Y) H) (hy : va_at D cl x H → va_at D cl y H) : va_P D cl (X ++ y :: Y) H := by
  intro k q hq
  rcases List.mem_append.mp (List.mem_of_getElem? hq) with g | g
  · obtain ⟨i, hi⟩ := List.getElem?_of_mem (List.mem_append_left (x :: Y) g)
    exact h i q hi
  · rcases List.mem_cons.mp g with g | g
    · rw [g]
      exact hy (h _ x (get_mid X x Y))
    · obtain ⟨i, hi⟩ := List.getElem?_of_mem (List.mem_append_right X (List.mem_cons_of_mem x g))
      exact h i q hi
theorem va_D.mid {A : Nat → Prop} {X Y : va_W} {x y : Nat × va_E} (h : va_D A (X ++ x :: Y)) (e : y.1 = x.1) : va_D A (X ++ y :: Y) :=
  h.same (by rw [List.map_append, List.map_append, List.map_cons, List.map_cons, e])
section BASE9
variable {p : Program} {l : Launch} {e : Env} {R : Room} {s : State} {m : MethodId} {args : Array Value} {below : List Frame} {meth : Method} {c : Code} {H : Heap} {locs : List Loc} {cells slots : Nat} {Q : State → Prop}
variable {cc : ByteArray} {pc : Nat} {ls : Array Slot} {rest : List Value} {D : va_G} {cI cZ cT : ClassId} {A : Nat → Prop} {a : Nat} {wr wc : va_W} {H0 : Heap}
variable {own C : String} {T : u_T} {N ci index : Nat} {Ts : List Cond} {fs : List Value}
/-- a reference into a final field of the object at the head; what was made last, wc, goes to the rest -/
theorem b_putH (hexec : p.tables.exec = Jvm.exec) (hb : c.code = cc) (hts : ∀ w ∈ Ts, w.before args s = true) (hin : ∀ w ∈ u_ws C T N, w ∈ Ts) (ty0 : Nat → FieldType) (hty : ∀ k, k < N → parseFieldDescriptor (T k).2.2.1 = some (ty0 k)) (hnm : ∀ a, a < N → ∀ b, b < N → a ≠ b → (T a).2.1 ≠ (T b).2.1) (hown : s.vm.findClass own = some m.cls) (hin2 : meth.name = "<init>") (hK : KX D cI cZ cT s) (hP : va_P D vwCl (((a, .inr (ci, fs)) :: wr) ++ wc) H) (hD : va_D A (((a, .inr (ci, fs)) :: wr) ++ wc)) (hS : va_S A H0 H locs) (hc : vwCl[ci]? = some (C, T, N)) (k : Nat) (hk : k < N) (hlink : (Cond.fieldLink own index (T k).1 (T k).2.1 (T k).2.2.1).before args s = true) (hfin : (T k).2.2.2 = true) (hdecl : (T k).1 = own) {ty : FieldType} (hty2 : ty0 k = ty) {q : Nat} (hn : narrow ty (.ref q) = .ref q) (hfit : fits ty (.ref q) = true) (hl : k < fs.length) {fs' : List Value} (hfs : fs.set k (.ref q) = fs') (hdg : decode cc pc = .ok (.putfield index, 3))
    (kk : ∀ (H1 : Heap) (locs1 : List Loc), va_P D vwCl ((a, .inr (ci, fs')) :: (wr ++ wc)) H1 → va_D A ((a, .inr (ci, fs')) :: (wr ++ wc)) → va_S A H0 H1 locs1 → W p l e R s m args below meth c H1 locs1 cells slots Q (F0 m (pc + 3) ls rest)) : W p l e R s m args below meth c H locs cells slots Q (F0 m pc ls (.ref q :: .ref a :: rest)) := by
  subst hfs
  have hdd : parseFieldDescriptor (T k).2.2.1 = some ty := by rw [← hty2]; exact hty k hk
  exact va_putF (fs := fs) hexec hb hts hin ty0 hty hnm hown hK.1 hP hD hS 0 rfl hc k hk hlink (fun _ h => h) hfin hin2 hdecl hdd hn hfit hl hdg (fun H1 l1 g1 g2 g3 => kk H1 l1 g1 g2 g3)
/-- 0 into a field that holds 0 -/
theorem b_putO (hexec : p.tables.exec = Jvm.exec) (hb : c.code = cc) (hts : ∀ w ∈ Ts, w.before args s = true) (hin : ∀ w ∈ u_ws C T N, w ∈ Ts) (ty0 : Nat → FieldType) (hty : ∀ k, k < N → parseFieldDescriptor (T k).2.2.1 = some (ty0 k)) (hnm : ∀ a, a < N → ∀ b, b < N → a ≠ b → (T a).2.1 ≠ (T b).2.1) (hown : s.vm.findClass own = some m.cls) (hK : KX D cI cZ cT s) (hP : va_P D vwCl ((a, .inr (ci, fs)) :: wr) H) (hD : va_D A ((a, .inr (ci, fs)) :: wr)) (hS : va_S A H0 H locs) (hc : vwCl[ci]? = some (C, T, N)) (k : Nat) (hk : k < N) (hlink : (Cond.fieldLink own index (T k).1 (T k).2.1 (T k).2.2.1).before args s = true) (hfin : (T k).2.2.2 = false) (hty2 : ty0 k = .int) (hl : k < fs.length) (hfs : fs.set k (.int 0) = fs) (hdg : decode cc pc = .ok (.putfield index, 3))
    (kk : ∀ (H1 : Heap) (locs1 : List Loc), va_P D vwCl ((a, .inr (ci, fs)) :: wr) H1 → va_D A ((a, .inr (ci, fs)) :: wr) → va_S A H0 H1 locs1 → W p l e R s m args below meth c H1 locs1 cells slots Q (F0 m (pc + 3) ls rest)) : W p l e R s m args below meth c H locs cells slots Q (F0 m pc ls (.int 0 :: .ref a :: rest)) := by
  have hdd : parseFieldDescriptor (T k).2.2.1 = some .int := by rw [← hty2]; exact hty k hk
  refine va_put (fs := fs) hexec hb hts hin ty0 hty hnm hown hK.1 hP hD hS 0 rfl hc k hk hlink (fun _ h => h) hfin hdd rfl rfl hl hdg (fun H1 l1 g1 g2 g3 => kk H1 l1 ?_ ?_ g3)
  · rw [hfs] at g1; exact g1
  · rw [hfs] at g2; exact g2
theorem b_getH (hexec : p.tables.exec = Jvm.exec) (hb : c.code = cc) (hts : ∀ w ∈ Ts, w.before args s = true) (hin : ∀ w ∈ u_ws C T N, w ∈ Ts) (hown : s.vm.findClass own = some m.cls) (hK : KX D cI cZ cT s) (hP : va_P D vwCl ((a, .inr (ci, fs)) :: wr) H) (hc : vwCl[ci]? = some (C, T, N)) (k : Nat) (hk : k < N) (hlink : (Cond.fieldLink own index (T k).1 (T k).2.1 (T k).2.2.1).before args s = true) {v : Value} (hv : fs[k]? = some v) (hdg : decode cc pc = .ok (.getfield index, 3))
    (kk : W p l e R s m args below meth c H locs cells slots Q (F0 m (pc + 3) ls (v :: rest))) : W p l e R s m args below meth c H locs cells slots Q (F0 m pc ls (.ref a :: rest)) :=
  va_get (fs := fs) hexec hb hts hin hown hK.1 hP 0 rfl hc k hk hlink (fun _ h => h) hv hdg kk
/-- an array of ints into a field of the object at the head -/
theorem b_mkI (hexec : p.tables.exec = Jvm.exec) (hb : c.code = cc) (hts : ∀ w ∈ Ts, w.before args s = true) (hin : ∀ w ∈ u_ws C T N, w ∈ Ts) (ty0 : Nat → FieldType) (hty : ∀ k, k < N → parseFieldDescriptor (T k).2.2.1 = some (ty0 k)) (hnm : ∀ a, a < N → ∀ b, b < N → a ≠ b → (T a).2.1 ≠ (T b).2.1) (hown : s.vm.findClass own = some m.cls) (hin2 : meth.name = "<init>") (hK : KX D cI cZ cT s) (hP : va_P D vwCl ((a, .inr (ci, fs)) :: wr) H) (hD : va_D A ((a, .inr (ci, fs)) :: wr)) (hS : va_S A H0 H locs) (hA : ∀ q, H0.size ≤ q → A q) (hc : vwCl[ci]? = some (C, T, N)) (harr : (Cond.arrayClass .int).before args s = true) {n : Nat} (hn : n < 2147483648) (hbytes : n * componentBytes .int ≤ 536870912) (hcells : cells + 1 ≤ R.cells) (hslots : slots + n ≤ R.slots) (k : Nat) (hk : k < N) (hlink : (Cond.fieldLink own index (T k).1 (T k).2.1 (T k).2.2.1).before args s = true) (hfin : (T k).2.2.2 = true) (hdecl : (T k).1 = own) (hty2 : ty0 k = .array .int) (hl : k < fs.length) {fs' : Nat → List Value} (hfs : ∀ q, fs.set k (.ref q) = fs' q) (hd1 : decode cc pc = .ok (.newarray .int, 2)) (hd2 : decode cc (pc + 2) = .ok (.putfield index, 3))
    (kk : ∀ (q : Nat) (H1 : Heap) (locs1 : List Loc), va_P D vwCl ((a, .inr (ci, fs' q)) :: (wr ++ [(q, .inl (cI, n, .inl zf))])) H1 → va_D A ((a, .inr (ci, fs' q)) :: (wr ++ [(q, .inl (cI, n, .inl zf))])) → va_S A H0 H1 locs1 → W p l e R s m args below meth c H1 locs1 (cells + 1) (slots + n) Q (F0 m (pc + 2 + 3) ls rest)) : W p l e R s m args below meth c H locs cells slots Q (F0 m pc ls (.int (nI n) :: .ref a :: rest)) :=
  b_newI hexec hb harr hK hP hD hS hA hn hbytes hcells hslots hd1 (fun q _ h1 h2 h3 => b_putH hexec hb hts hin ty0 hty hnm hown hin2 hK h1 h2 h3 hc k hk hlink hfin hdecl hty2 rfl rfl hl (hfs q) hd2 (kk q))
theorem b_mkZ (hexec : p.tables.exec = Jvm.exec) (hb : c.code = cc) (hts : ∀ w ∈ Ts, w.before args s = true) (hin : ∀ w ∈ u_ws C T N, w ∈ Ts) (ty0 : Nat → FieldType) (hty : ∀ k, k < N → parseFieldDescriptor (T k).2.2.1 = some (ty0 k)) (hnm : ∀ a, a < N → ∀ b, b < N → a ≠ b → (T a).2.1 ≠ (T b).2.1) (hown : s.vm.findClass own = some m.cls) (hin2 : meth.name = "<init>") (hK : KX D cI cZ cT s) (hP : va_P D vwCl ((a, .inr (ci, fs)) :: wr) H) (hD : va_D A ((a, .inr (ci, fs)) :: wr)) (hS : va_S A H0 H locs) (hA : ∀ q, H0.size ≤ q → A q) (hc : vwCl[ci]? = some (C, T, N)) (harr : (Cond.arrayClass .boolean).before args s = true) {n : Nat} (hn : n < 2147483648) (hbytes : n * componentBytes .boolean ≤ 536870912) (hcells : cells + 1 ≤ R.cells) (hslots : slots + n ≤ R.slots) (k : Nat) (hk : k < N) (hlink : (Cond.fieldLink own index (T k).1 (T k).2.1 (T k).2.2.1).before args s = true) (hfin : (T k).2.2.2 = true) (hdecl : (T k).1 = own) (hty2 : ty0 k = .array .boolean) (hl : k < fs.length) {fs' : Nat → List Value} (hfs : ∀ q, fs.set k (.ref q) = fs' q) (hd1 : decode cc pc = .ok (.newarray .boolean, 2)) (hd2 : decode cc (pc + 2) = .ok (.putfield index, 3))
    (kk : ∀ (q : Nat) (H1 : Heap) (locs1 : List Loc), va_P D vwCl ((a, .inr (ci, fs' q)) :: (wr ++ [(q, .inl (cZ, n, .inl zf))])) H1 → va_D A ((a, .inr (ci, fs' q)) :: (wr ++ [(q, .inl (cZ, n, .inl zf))])) → va_S A H0 H1 locs1 → W p l e R s m args below meth c H1 locs1 (cells + 1) (slots + n) Q (F0 m (pc + 2 + 3) ls rest)) : W p l e R s m args below meth c H locs cells slots Q (F0 m pc ls (.int (nI n) :: .ref a :: rest)) :=
  b_newZ hexec hb harr hK hP hD hS hA hn hbytes hcells hslots hd1 (fun q _ h1 h2 h3 => b_putH hexec hb hts hin ty0 hty hnm hown hin2 hK h1 h2 h3 hc k hk hlink hfin hdecl hty2 rfl rfl hl (hfs q) hd2 (kk q))
/-- a town, made last, into an array of towns in the middle -/
theorem b_astT (hexec : p.tables.exec = Jvm.exec) (hb : c.code = cc) {o : Nat × va_E} {X Y T1 : va_W} {v n i : Nat} {f : Nat → Option Nat} {an : Nat → Nat} (hK : KX D cI cZ cT s) (hP : va_P D vwCl ((o :: ((X ++ (v, .inl (cT, n, .inr (.inr (.inr (.inr f))))) :: Y) ++ T1)) ++ wTn cI an T0) H) (hD : va_D A ((o :: ((X ++ (v, .inl (cT, n, .inr (.inr (.inr (.inr f))))) :: Y) ++ T1)) ++ wTn cI an T0)) (hS : va_S A H0 H locs) (hi : i < n) (hn : n < 2147483648) (hdg : decode cc pc = .ok (.aastore, 1))
    (kk : ∀ (H1 : Heap) (locs1 : List Loc), va_P D vwCl (o :: ((X ++ (v, .inl (cT, n, .inr (.inr (.inr (.inr (va_up f i (some (an 0)))))))) :: Y) ++ (T1 ++ wTn cI an T0))) H1 → va_D A (o :: ((X ++ (v, .inl (cT, n, .inr (.inr (.inr (.inr (va_up f i (some (an 0)))))))) :: Y) ++ (T1 ++ wTn cI an T0))) → va_S A H0 H1 locs1 → W p l e R s m args below meth c H1 locs1 cells slots Q (F0 m (pc + 1) ls rest)) : W p l e R s m args below meth c H locs cells slots Q (F0 m pc ls (.ref (an 0) :: .int (nI i) :: .ref v :: rest)) := by
  have re : ∀ (x : Nat × va_E) (Z : va_W), (o :: ((X ++ x :: Y) ++ T1)) ++ Z = (o :: X) ++ x :: (Y ++ (T1 ++ Z)) := fun x Z => by simp
  have re2 : ∀ (x : Nat × va_E) (Z : va_W), o :: ((X ++ x :: Y) ++ (T1 ++ Z)) = (o :: X) ++ x :: (Y ++ (T1 ++ Z)) := fun x Z => by simp
  obtain ⟨qk, hqk⟩ := List.getElem?_of_mem (show (an 0, .inr (7, [.int 0, .int 0, .int 0, .int 0, .ref (an 1), .ref (an 2), .ref (an 3), .ref (an 4)])) ∈ (o :: ((X ++ (v, .inl (cT, n, .inr (.inr (.inr (.inr f))))) :: Y) ++ T1)) ++ wTn cI an T0 from List.mem_append_right _ List.mem_cons_self)
  rw [re] at hP hD hqk
  refine va_astq (r := (RX8, TX8, 8)) hexec hb hK.1 hP hD hS (o :: X).length 2 qk 7 (get_mid _ _ _) rfl hqk rfl (vp_in_nI hi hn) hdg (fun H1 l1 g1 g2 g3 => ?_)
  rw [nI_clamp (Nat.lt_trans hi hn), set_mid, ← re2] at g1 g2
  exact kk H1 l1 g1 g2 g3
end BASE9
