/-! MODEL: what its small methods answer -/
abbrev hasb (x : Int32) (k : Nat) : Prop := ((x >>> (nI k &&& 31)) &&& 1) = 1
def ones8 (x : Int32) : Int32 := itr (fun k n => n + ((x >>> (nI k &&& 31)) &&& 1)) 8 0
def cutf (lane v : Int32) : Int32 := if lane = 0 then (v <<< ((24 : Int32) &&& 31)) >>> ((24 : Int32) &&& 31) else if lane = 1 then (v <<< ((16 : Int32) &&& 31)) >>> ((16 : Int32) &&& 31) else v
def kindOf (c : Int32) : Int32 := if c = 112 then 1 else if c = 118 then 2 else if c = 115 then 3 else if c = 99 then 4 else if c = 107 then 5 else 0
def cpy (f : Nat → Int32) (a : Nat) (g : Nat → Int32) (b : Nat) : Nat → Nat → Int32 := fun n => itr (fun k g => upd g (b + k) (f (a + k))) n g
def leastf (x : Int32) : Nat → Nat → Int32
  | _, 0 => 0
  | k, n + 1 => if hasb x k then 1 <<< (nI k &&& 31) else leastf x (k + 1) n
def doesf (kind did notice day : Int32) : Int32 :=
  if kind = 1 then leastf (notice &&& (did ^^^ (-1))) 0 6
  else if kind = 2 then leastf (notice &&& (did ^^^ (-1))) 0 6 ||| leastf ((notice &&& (did ^^^ (-1))) &&& (leastf (notice &&& (did ^^^ (-1))) 0 6 ^^^ (-1))) 0 6
  else if kind = 3 then (if 3 ≤ ones8 (notice &&& (did ^^^ (-1))) then 0 else leastf (notice &&& (did ^^^ (-1))) 0 6)
  else if kind = 4 then leastf ((63 &&& (notice ^^^ (-1))) &&& (did ^^^ (-1))) 0 6
  else (if day - day / 2 * 2 = 0 then leastf ((63 &&& (notice ^^^ (-1))) &&& (did ^^^ (-1))) 0 6 else 0)
theorem leastf_no {x : Int32} {k : Nat} (hk : k < 6) (h : ¬ hasb x k) : leastf x k (6 - k) = leastf x (k + 1) (6 - (k + 1)) := by
  rw [show 6 - k = (6 - (k + 1)) + 1 by omega, leastf, if_neg h]
theorem leastf_yes {x : Int32} {k : Nat} (hk : k < 6) (h : hasb x k) : 1 <<< (nI k &&& 31) = leastf x k (6 - k) := by
  rw [show 6 - k = (6 - (k + 1)) + 1 by omega, leastf, if_pos h]
set_option maxHeartbeats 4000000 in
set_option maxRecDepth 100000 in
theorem c_X12_in (l : Launch) (D : va_G) (cI cZ cT : ClassId) (v lo hi : Int32)  : Met l yX12_in wsX12_in ({ frames := 0, cells := 0, slots := 0, locals := 0 }) (pR D cI cZ cT [.int v, .int lo, .int hi] ([])) (QcRead (bI (¬ v < lo ∧ ¬ hi < v))) 0 0 (fun _ => False) := by
  refine Met.ofW (cc := cX12_in) (maxL := 3) (ret := (some .boolean)) (by decide) rfl ?_
  intro p e s m args below meth c s₁ B hml hv
  obtain ⟨rfl, hP, hK⟩ := hv
  have hx := B.exec
  have hb := B.bytes
  have hr := B.returns
  have hts := atoms_spec (ws := wsX12_in) B.pre
  have hown : s.vm.findClass RX12 = some m.cls := findClass_of_methodNamed B.named
  have hlocks := B.notSynchronized
  have hl := lv_entry ([.int v, .int lo, .int hi]) (n := 3) (Nat.le_of_ble_eq_true rfl)
  rw [lg_entry_eq]
  generalize (lg_sl ([.int v, .int lo, .int hi]) ++ List.replicate (3 - (lg_sl ([.int v, .int lo, .int hi])).length) Slot.unset).toArray = ls at hl ⊢
  have hl : lv_has ls 3 [(0, .int v), (1, .int lo), (2, .int hi)] := hl
  refine lv_iload_n hx hb dX12_in_0 rfl (lv_at hl 0 rfl) ?_
  refine lv_iload_n hx hb dX12_in_1 rfl (lv_at hl 1 rfl) ?_
  refine lv_icmp_lt (tgt := 14) hx hb dX12_in_2 (by decide) (fun c1 => ?_) (fun c1 => ?_)
  · refine lv_iconst (v := 0) hx hb dX12_in_14 (by decide) ?_
    exact b_zret hx hb hr (by first | with_reducible rfl | (simp only [bI, eq_true c1, not_true_eq_false, not_false_eq_true, ite_true, ite_false, if_true, if_false, and_self, and_true, true_and, false_and, and_false, or_true, true_or, or_false, false_or]; done) | (simp [bI, eq_true c1]; done) | omega) dX12_in_15 hlocks
  · refine lv_iload_n hx hb dX12_in_5 rfl (lv_at hl 0 rfl) ?_
    refine lv_iload_n hx hb dX12_in_6 rfl (lv_at hl 2 rfl) ?_
    refine lv_icmp_gt (tgt := 14) hx hb dX12_in_7 (by decide) (fun c2 => ?_) (fun c2 => ?_)
    · refine lv_iconst (v := 0) hx hb dX12_in_14 (by decide) ?_
      exact b_zret hx hb hr (by first | with_reducible rfl | (simp only [bI, eq_false c1, eq_true c2, not_true_eq_false, not_false_eq_true, ite_true, ite_false, if_true, if_false, and_self, and_true, true_and, false_and, and_false, or_true, true_or, or_false, false_or]; done) | (simp [bI, eq_false c1, eq_true c2]; done) | omega) dX12_in_15 hlocks
    · refine lv_iconst (v := 1) hx hb dX12_in_10 (by decide) ?_
      refine lv_goto (tgt := 15) hx hb dX12_in_11 (by decide) ?_
      exact b_zret hx hb hr (by first | with_reducible rfl | (simp only [bI, eq_false c1, eq_false c2, not_true_eq_false, not_false_eq_true, ite_true, ite_false, if_true, if_false, and_self, and_true, true_and, false_and, and_false, or_true, true_or, or_false, false_or]; done) | (simp [bI, eq_false c1, eq_false c2]; done) | omega) dX12_in_15 hlocks
set_option maxHeartbeats 4000000 in
set_option maxRecDepth 100000 in
theorem c_X12_has (l : Launch) (D : va_G) (cI cZ cT : ClassId) (x : Int32) (k : Nat)  : Met l yX12_has wsX12_has ({ frames := 0, cells := 0, slots := 0, locals := 0 }) (pR D cI cZ cT [.int x, .int (nI (k))] ([])) (QcRead (bI (hasb x k))) 0 0 (fun _ => False) := by
  refine Met.ofW (cc := cX12_has) (maxL := 2) (ret := (some .boolean)) (by decide) rfl ?_
  intro p e s m args below meth c s₁ B hml hv
  obtain ⟨rfl, hP, hK⟩ := hv
  have hx := B.exec
  have hb := B.bytes
  have hr := B.returns
  have hts := atoms_spec (ws := wsX12_has) B.pre
  have hown : s.vm.findClass RX12 = some m.cls := findClass_of_methodNamed B.named
  have hlocks := B.notSynchronized
  have hl := lv_entry ([.int x, .int (nI (k))]) (n := 2) (Nat.le_of_ble_eq_true rfl)
  rw [lg_entry_eq]
  generalize (lg_sl ([.int x, .int (nI (k))]) ++ List.replicate (2 - (lg_sl ([.int x, .int (nI (k))])).length) Slot.unset).toArray = ls at hl ⊢
  have hl : lv_has ls 2 [(0, .int x), (1, .int (nI (k)))] := hl
  refine lv_iload_n hx hb dX12_has_0 rfl (lv_at hl 0 rfl) ?_
  refine lv_iload_n hx hb dX12_has_1 rfl (lv_at hl 1 rfl) ?_
  refine lv_ishr hx hb dX12_has_2 ?_
  refine lv_iconst (v := 1) hx hb dX12_has_3 (by decide) ?_
  refine lv_iand hx hb dX12_has_4 ?_
  refine lv_iconst (v := 1) hx hb dX12_has_5 (by decide) ?_
  refine lv_icmp_ne (tgt := 13) hx hb dX12_has_6 (by decide) (fun c1 => ?_) (fun c1 => ?_)
  · refine lv_iconst (v := 0) hx hb dX12_has_13 (by decide) ?_
    exact b_zret hx hb hr (by first | with_reducible rfl | (simp only [bI, eq_false c1, not_true_eq_false, not_false_eq_true, ite_true, ite_false, if_true, if_false, and_self, and_true, true_and, false_and, and_false, or_true, true_or, or_false, false_or]; done) | (simp [bI, eq_false c1]; done) | omega) dX12_has_14 hlocks
  · refine lv_iconst (v := 1) hx hb dX12_has_9 (by decide) ?_
    refine lv_goto (tgt := 14) hx hb dX12_has_10 (by decide) ?_
    exact b_zret hx hb hr (by first | with_reducible rfl | (simp only [bI, eq_true c1, not_true_eq_false, not_false_eq_true, ite_true, ite_false, if_true, if_false, and_self, and_true, true_and, false_and, and_false, or_true, true_or, or_false, false_or]; done) | (simp [bI, eq_true c1]; done) | omega) dX12_has_14 hlocks
set_option maxHeartbeats 4000000 in
set_option maxRecDepth 100000 in
theorem c_X12_ones (l : Launch) (D : va_G) (cI cZ cT : ClassId) (x : Int32)  : Met l yX12_ones wsX12_ones ({ frames := 0, cells := 0, slots := 0, locals := 0 }) (pR D cI cZ cT [.int x] ([])) (QcRead (ones8 x)) 0 0 (fun _ => False) := by
  refine Met.ofW (cc := cX12_ones) (maxL := 3) (ret := (some .int)) (by decide) rfl ?_
  intro p e s m args below meth c s₁ B hml hv
  obtain ⟨rfl, hP, hK⟩ := hv
  have hx := B.exec
  have hb := B.bytes
  have hr := B.returns
  have hts := atoms_spec (ws := wsX12_ones) B.pre
  have hown : s.vm.findClass RX12 = some m.cls := findClass_of_methodNamed B.named
  have hlocks := B.notSynchronized
  have hl := lv_entry ([.int x]) (n := 3) (Nat.le_of_ble_eq_true rfl)
  rw [lg_entry_eq]
  generalize (lg_sl ([.int x]) ++ List.replicate (3 - (lg_sl ([.int x])).length) Slot.unset).toArray = ls at hl ⊢
  have hl : lv_has ls 3 [(0, .int x)] := hl
  refine lv_iconst (v := 0) hx hb dX12_ones_0 (by decide) ?_
  refine lv_istore_n (lv' := [(1, .int 0), (0, .int x)]) hx hb dX12_ones_1 rfl hl (by decide) rfl (fun ls hl => ?_)
  refine lv_iconst (v := (nI 0)) hx hb dX12_ones_2 (by decide) ?_
  refine lv_istore_n (lv' := [(2, .int (nI 0)), (1, .int 0), (0, .int x)]) hx hb dX12_ones_3 rfl hl (by decide) rfl (fun ls hl => ?_)
  refine b_loopR (N := 8) (I := fun k ls => lv_has ls 3 [(2, .int (nI (k))), (1, .int (itr (fun j n => n + ((x >>> (nI j &&& 31)) &&& 1)) k 0)), (0, .int x)]) (fun k hk ih1 ls hI => ?_) 0 (by omega) (lv_sub hl [0, 1, 2] rfl)
  have hl := hI
  have hl : lv_has ls 3 [(2, .int (nI (k))), (1, .int (itr (fun j n => n + ((x >>> (nI j &&& 31)) &&& 1)) k 0)), (0, .int x)] := hl
  refine lv_iload_n hx hb dX12_ones_4 rfl (lv_at hl 0 rfl) ?_
  refine lv_bipush (v := (nI 8)) hx hb dX12_ones_5 (by decide) ?_
  refine b_ge (tgt := 24) hx hb (by omega) (by omega) dX12_ones_7 (by decide) (fun c2 => ?_) (fun c2 => ?_)
  · have h_k : 8 = k := by omega
    subst h_k
    refine lv_iload_n hx hb dX12_ones_24 rfl (lv_at hl 1 rfl) ?_
    exact b_ret hx hb hr rfl dX12_ones_25 hlocks
  · refine lv_iload_n hx hb dX12_ones_10 rfl (lv_at hl 1 rfl) ?_
    refine lv_iload_n hx hb dX12_ones_11 rfl (lv_at hl 2 rfl) ?_
    refine lv_iload_n hx hb dX12_ones_12 rfl (lv_at hl 0 rfl) ?_
    refine lv_ishr hx hb dX12_ones_13 ?_
    refine lv_iconst (v := 1) hx hb dX12_ones_14 (by decide) ?_
    refine lv_iand hx hb dX12_ones_15 ?_
    refine lv_iadd hx hb dX12_ones_16 ?_
    refine lv_topi (fun x3 ex3 => ?_)
    refine lv_istore_n (lv' := [(1, .int x3), (2, .int (nI (k))), (0, .int x)]) hx hb dX12_ones_17 rfl hl (by decide) rfl (fun ls hl => ?_)
    refine lv_iinc (v := (nI (k + 1))) (lv' := [(2, .int (nI (k + 1))), (1, .int x3), (0, .int x)]) hx hb dX12_ones_18 hl (k := 1) rfl (nI_add _ _) (by decide) rfl (fun ls hl => ?_)
    refine lv_goto (tgt := 4) hx hb dX12_ones_21 (by decide) ?_
    try subst ex3
    exact ih1 (by omega) ls (lv_sub hl [0, 1, 2] rfl)
theorem u_X12_found_X12 : ∀ w ∈ wsX120, w ∈ wsX12_found := fun _ h => List.mem_cons_of_mem _ (List.mem_append_right _ h)
set_option maxHeartbeats 4000000 in
set_option maxRecDepth 100000 in
theorem c_X12_found (l : Launch) (D : va_G) (cI cZ cT : ClassId) (A0 : Nat → Nat) (ss tp fk fp ap sp tk vl ac tr : Int32) (la ma it sr bt nw dr pa im kp tc : Nat → Int32) (v : Int32)  : Met l yX12_found wsX12_found ({ frames := 0, cells := 0, slots := 0, locals := 0 }) (pM D cI cZ cT [.ref (A0 0), .int v] (wM cI cZ A0 ss tp fk fp ap sp tk vl ac tr la ma it sr bt nw dr pa im kp tc)) (qM D (some (.int ((-1000010) - v))) (wM cI cZ A0 v tp fk fp ap sp tk vl ac tr la ma it sr bt nw dr pa im kp tc) (adr (wM cI cZ A0 ss tp fk fp ap sp tk vl ac tr la ma it sr bt nw dr pa im kp tc))) 0 0 (adr (wM cI cZ A0 ss tp fk fp ap sp tk vl ac tr la ma it sr bt nw dr pa im kp tc)) := by
  refine Met.ofW (cc := cX12_found) (maxL := 2) (ret := (some .int)) (by decide) rfl ?_
  intro p e s m args below meth c s₁ B hml hv
  obtain ⟨rfl, hP, hD0, hK⟩ := hv
  have hx := B.exec
  have hb := B.bytes
  have hr := B.returns
  have hts := atoms_spec (ws := wsX12_found) B.pre
  have hown : s.vm.findClass RX12 = some m.cls := findClass_of_methodNamed B.named
  have hlocks := B.notSynchronized
  have hD := hD0.toAdr
  have hS : va_S (adr (wM cI cZ A0 ss tp fk fp ap sp tk vl ac tr la ma it sr bt nw dr pa im kp tc)) s.heap s.heap [] := va_S.rf
  generalize adr (wM cI cZ A0 ss tp fk fp ap sp tk vl ac tr la ma it sr bt nw dr pa im kp tc) = A at hD hS ⊢
  have hl := lv_entry ([.ref (A0 0), .int v]) (n := 2) (Nat.le_of_ble_eq_true rfl)
  rw [lg_entry_eq]
  generalize (lg_sl ([.ref (A0 0), .int v]) ++ List.replicate (2 - (lg_sl ([.ref (A0 0), .int v])).length) Slot.unset).toArray = ls at hl ⊢
  have hl : lv_has ls 2 [(0, .ref (A0 0)), (1, .int v)] := hl
  refine lv_aload_n hx hb dX12_found_0 rfl (lv_at hl 0 rfl) ?_
  refine lv_iload_n hx hb dX12_found_1 rfl (lv_at hl 1 rfl) ?_
  refine b_put (C := RX12) (T := TX12) (N := 21) hx hb hts u_X12_found_X12 tyX12 tyX12_ok nmX12 hown hK hP hD hS 0 rfl rfl 4 (by decide) (hts (.fieldLink RX12 45 "NoticeWeekModel" "status" "I") (List.mem_of_getElem? (i := 1) rfl)) rfl (by decide +kernel) (Nat.le_of_ble_eq_true rfl) dX12_found_2 (fun H locs hP hS => ?_)
  have hP : va_P D vwCl (wM cI cZ A0 v tp fk fp ap sp tk vl ac tr la ma it sr bt nw dr pa im kp tc) H := hP
  have hD : va_D A (wM cI cZ A0 v tp fk fp ap sp tk vl ac tr la ma it sr bt nw dr pa im kp tc) := hD.sameA [(A0 0), (A0 1), (A0 2), (A0 3), (A0 4), (A0 5), (A0 6), (A0 7), (A0 8), (A0 9), (A0 10), (A0 11)] rfl rfl
  refine lv_ldc (v := (-1000010)) hx hb hown (hts (.constant RX12 49 (-1000010)) (List.mem_of_getElem? (i := 2) rfl)) dX12_found_5 ?_
  refine lv_iload_n hx hb dX12_found_7 rfl (lv_at hl 1 rfl) ?_
  refine lv_isub hx hb dX12_found_8 ?_
  exact b_retM hx hb hr hP hS (by first | with_reducible rfl | (simp only [bI, not_true_eq_false, not_false_eq_true, ite_true, ite_false, if_true, if_false, and_self, and_true, true_and, false_and, and_false, or_true, true_or, or_false, false_or]; done) | (simp [bI]; done) | omega) dX12_found_9 hlocks
theorem u_X12_well_X12 : ∀ w ∈ wsX120, w ∈ wsX12_well := fun _ h => List.mem_cons_of_mem _ (List.mem_append_right _ h)
set_option maxHeartbeats 4000000 in
set_option maxRecDepth 100000 in
theorem c_X12_well (l : Launch) (D : va_G) (cI cZ cT : ClassId) (A0 : Nat → Nat) (ss tp fk fp ap sp tk vl ac tr : Int32) (la ma it sr bt nw dr pa im kp tc : Nat → Int32) (v : Int32)  : Met l yX12_well wsX12_well ({ frames := 0, cells := 0, slots := 0, locals := 0 }) (pM D cI cZ cT [.ref (A0 0), .int v] (wM cI cZ A0 ss tp fk fp ap sp tk vl ac tr la ma it sr bt nw dr pa im kp tc)) (qM D (some (.int v)) (wM cI cZ A0 0 tp fk fp ap sp tk vl ac tr la ma it sr bt nw dr pa im kp tc) (adr (wM cI cZ A0 ss tp fk fp ap sp tk vl ac tr la ma it sr bt nw dr pa im kp tc))) 0 0 (adr (wM cI cZ A0 ss tp fk fp ap sp tk vl ac tr la ma it sr bt nw dr pa im kp tc)) := by
  refine Met.ofW (cc := cX12_well) (maxL := 2) (ret := (some .int)) (by decide) rfl ?_
  intro p e s m args below meth c s₁ B hml hv
  obtain ⟨rfl, hP, hD0, hK⟩ := hv
  have hx := B.exec
  have hb := B.bytes
  have hr := B.returns
  have hts := atoms_spec (ws := wsX12_well) B.pre
  have hown : s.vm.findClass RX12 = some m.cls := findClass_of_methodNamed B.named
  have hlocks := B.notSynchronized
  have hD := hD0.toAdr
  have hS : va_S (adr (wM cI cZ A0 ss tp fk fp ap sp tk vl ac tr la ma it sr bt nw dr pa im kp tc)) s.heap s.heap [] := va_S.rf
  generalize adr (wM cI cZ A0 ss tp fk fp ap sp tk vl ac tr la ma it sr bt nw dr pa im kp tc) = A at hD hS ⊢
  have hl := lv_entry ([.ref (A0 0), .int v]) (n := 2) (Nat.le_of_ble_eq_true rfl)
  rw [lg_entry_eq]
  generalize (lg_sl ([.ref (A0 0), .int v]) ++ List.replicate (2 - (lg_sl ([.ref (A0 0), .int v])).length) Slot.unset).toArray = ls at hl ⊢
  have hl : lv_has ls 2 [(0, .ref (A0 0)), (1, .int v)] := hl
  refine lv_aload_n hx hb dX12_well_0 rfl (lv_at hl 0 rfl) ?_
  refine lv_iconst (v := 0) hx hb dX12_well_1 (by decide) ?_
  refine b_put (C := RX12) (T := TX12) (N := 21) hx hb hts u_X12_well_X12 tyX12 tyX12_ok nmX12 hown hK hP hD hS 0 rfl rfl 4 (by decide) (hts (.fieldLink RX12 45 "NoticeWeekModel" "status" "I") (List.mem_of_getElem? (i := 1) rfl)) rfl (by decide +kernel) (Nat.le_of_ble_eq_true rfl) dX12_well_2 (fun H locs hP hS => ?_)
  have hP : va_P D vwCl (wM cI cZ A0 0 tp fk fp ap sp tk vl ac tr la ma it sr bt nw dr pa im kp tc) H := hP
  have hD : va_D A (wM cI cZ A0 0 tp fk fp ap sp tk vl ac tr la ma it sr bt nw dr pa im kp tc) := hD.sameA [(A0 0), (A0 1), (A0 2), (A0 3), (A0 4), (A0 5), (A0 6), (A0 7), (A0 8), (A0 9), (A0 10), (A0 11)] rfl rfl
  refine lv_iload_n hx hb dX12_well_5 rfl (lv_at hl 1 rfl) ?_
  exact b_retM hx hb hr hP hS (by first | with_reducible rfl | (simp only [bI, not_true_eq_false, not_false_eq_true, ite_true, ite_false, if_true, if_false, and_self, and_true, true_and, false_and, and_false, or_true, true_or, or_false, false_or]; done) | (simp [bI]; done) | omega) dX12_well_6 hlocks
set_option maxHeartbeats 4000000 in
set_option maxRecDepth 100000 in
theorem c_X12_isRow (l : Launch) (D : va_G) (cI cZ cT : ClassId) (r : Int32)  : Met l yX12_isRow wsX12_isRow ({ frames := 1, cells := 0, slots := 0, locals := 22 }) (pR D cI cZ cT [.int r] ([])) (QcRead (bI (¬ r < 0 ∧ ¬ 7 < r))) 0 0 (fun _ => False) := by
  refine Met.ofW (cc := cX12_isRow) (maxL := 1) (ret := (some .boolean)) (by decide) rfl ?_
  intro p e s m args below meth c s₁ B hml hv
  obtain ⟨rfl, hP, hK⟩ := hv
  have hx := B.exec
  have hb := B.bytes
  have hr := B.returns
  have hts := atoms_spec (ws := wsX12_isRow) B.pre
  have hown : s.vm.findClass RX12 = some m.cls := findClass_of_methodNamed B.named
  have hlocks := B.notSynchronized
  have hl := lv_entry ([.int r]) (n := 1) (Nat.le_of_ble_eq_true rfl)
  rw [lg_entry_eq]
  generalize (lg_sl ([.int r]) ++ List.replicate (1 - (lg_sl ([.int r])).length) Slot.unset).toArray = ls at hl ⊢
  have hl : lv_has ls 1 [(0, .int r)] := hl
  refine lv_iload_n hx hb dX12_isRow_0 rfl (lv_at hl 0 rfl) ?_
  refine lv_iconst (v := 0) hx hb dX12_isRow_1 (by decide) ?_
  refine lv_bipush (v := 7) hx hb dX12_isRow_2 (by decide) ?_
  refine b_call (va_runS (As := [.int r, .int 0, .int 7]) (rest := []) ⟨hx, hb, hml, hown, hts⟩ (c_X12_in l D cI cZ cT r 0 7) (va_cwS 3 hts gX12_isRow_X12_in rfl rfl rfl (by decide +kernel) ⟨(Nat.le_of_ble_eq_true rfl), (Nat.le_of_ble_eq_true rfl)⟩) (b_pS0 hK) rfl rfl hl.1 rfl (lv_room (Nat.le_of_ble_eq_true rfl)) dX12_isRow_4 ⟨Nat.zero_le _, Nat.zero_le _⟩).run ?_
  exact b_zret hx hb hr (by first | with_reducible rfl | (simp only [bI, not_true_eq_false, not_false_eq_true, ite_true, ite_false, if_true, if_false, and_self, and_true, true_and, false_and, and_false, or_true, true_or, or_false, false_or]; done) | (simp [bI]; done) | omega) dX12_isRow_7 hlocks
theorem u_X12_isMissing_X12 : ∀ w ∈ wsX120, w ∈ wsX12_isMissing := fun _ h => List.mem_cons_of_mem _ (List.mem_append_right _ h)
set_option maxHeartbeats 4000000 in
set_option maxRecDepth 100000 in
theorem c_X12_isMissing (l : Launch) (D : va_G) (cI cZ cT : ClassId) (A0 : Nat → Nat) (ss tp fk fp ap sp tk vl ac tr : Int32) (la ma it sr bt nw dr pa im kp tc : Nat → Int32) (r : Nat) (hr : r ≤ 7) : Met l yX12_isMissing wsX12_isMissing ({ frames := 0, cells := 0, slots := 0, locals := 0 }) (pR D cI cZ cT [.ref (A0 0), .int (nI (r))] (wM cI cZ A0 ss tp fk fp ap sp tk vl ac tr la ma it sr bt nw dr pa im kp tc)) (QcRead (bI (la r = -1000000))) 0 0 (fun _ => False) := by
  refine Met.ofW (cc := cX12_isMissing) (maxL := 2) (ret := (some .boolean)) (by decide) rfl ?_
  intro p e s m args below meth c s₁ B hml hv
  obtain ⟨rfl, hP, hK⟩ := hv
  have hx := B.exec
  have hb := B.bytes
  have hr := B.returns
  have hts := atoms_spec (ws := wsX12_isMissing) B.pre
  have hown : s.vm.findClass RX12 = some m.cls := findClass_of_methodNamed B.named
  have hlocks := B.notSynchronized
  have hl := lv_entry ([.ref (A0 0), .int (nI (r))]) (n := 2) (Nat.le_of_ble_eq_true rfl)
  rw [lg_entry_eq]
  generalize (lg_sl ([.ref (A0 0), .int (nI (r))]) ++ List.replicate (2 - (lg_sl ([.ref (A0 0), .int (nI (r))])).length) Slot.unset).toArray = ls at hl ⊢
  have hl : lv_has ls 2 [(0, .ref (A0 0)), (1, .int (nI (r)))] := hl
  refine lv_aload_n hx hb dX12_isMissing_0 rfl (lv_at hl 0 rfl) ?_
  refine va_get (D := D) (ci := 11) (v := .ref (A0 1)) (C := RX12) (T := TX12) (N := 21) hx hb hts u_X12_isMissing_X12 hown hK.1 hP 0 rfl rfl 0 (by decide) (hts (.fieldLink RX12 7 "NoticeWeekModel" "lane" "[I") (List.mem_of_getElem? (i := 1) rfl)) (fun _ h9 => h9) rfl dX12_isMissing_1 ?_
  refine lv_iload_n hx hb dX12_isMissing_4 rfl (lv_at hl 1 rfl) ?_
  refine b_ald hx hb hK hP 1 rfl (by omega) (by decide) dX12_isMissing_5 ?_
  refine lv_ldc (v := (-1000000)) hx hb hown (hts (.constant RX12 44 (-1000000)) (List.mem_of_getElem? (i := 2) rfl)) dX12_isMissing_6 ?_
  refine lv_icmp_ne (tgt := 15) hx hb dX12_isMissing_8 (by decide) (fun c1 => ?_) (fun c1 => ?_)
  · refine lv_iconst (v := 0) hx hb dX12_isMissing_15 (by decide) ?_
    exact b_zret hx hb hr (by first | with_reducible rfl | (simp only [bI, eq_false c1, not_true_eq_false, not_false_eq_true, ite_true, ite_false, if_true, if_false, and_self, and_true, true_and, false_and, and_false, or_true, true_or, or_false, false_or]; done) | (simp [bI, eq_false c1]; done) | omega) dX12_isMissing_16 hlocks
  · refine lv_iconst (v := 1) hx hb dX12_isMissing_11 (by decide) ?_
    refine lv_goto (tgt := 16) hx hb dX12_isMissing_12 (by decide) ?_
    exact b_zret hx hb hr (by first | with_reducible rfl | (simp only [bI, eq_true c1, not_true_eq_false, not_false_eq_true, ite_true, ite_false, if_true, if_false, and_self, and_true, true_and, false_and, and_false, or_true, true_or, or_false, false_or]; done) | (simp [bI, eq_true c1]; done) | omega) dX12_isMissing_16 hlocks
set_option maxHeartbeats 4000000 in
set_option maxRecDepth 100000 in
theorem c_X12_cut (l : Launch) (D : va_G) (cI cZ cT : ClassId) (lane v : Int32)  : Met l yX12_cut wsX12_cut ({ frames := 0, cells := 0, slots := 0, locals := 0 }) (pR D cI cZ cT [.int lane, .int v] ([])) (QcRead (cutf lane v)) 0 0 (fun _ => False) := by
  refine Met.ofW (cc := cX12_cut) (maxL := 2) (ret := (some .int)) (by decide) rfl ?_
  intro p e s m args below meth c s₁ B hml hv
  obtain ⟨rfl, hP, hK⟩ := hv
  have hx := B.exec
  have hb := B.bytes
  have hr := B.returns
  have hts := atoms_spec (ws := wsX12_cut) B.pre
  have hown : s.vm.findClass RX12 = some m.cls := findClass_of_methodNamed B.named
  have hlocks := B.notSynchronized
  have hl := lv_entry ([.int lane, .int v]) (n := 2) (Nat.le_of_ble_eq_true rfl)
  rw [lg_entry_eq]
  generalize (lg_sl ([.int lane, .int v]) ++ List.replicate (2 - (lg_sl ([.int lane, .int v])).length) Slot.unset).toArray = ls at hl ⊢
  have hl : lv_has ls 2 [(0, .int lane), (1, .int v)] := hl
  refine lv_iload_n hx hb dX12_cut_0 rfl (lv_at hl 0 rfl) ?_
  refine lv_if_ne (tgt := 14) hx hb dX12_cut_1 (by decide) (fun c1 => ?_) (fun c1 => ?_)
  · refine lv_iload_n hx hb dX12_cut_14 rfl (lv_at hl 0 rfl) ?_
    refine lv_iconst (v := 1) hx hb dX12_cut_15 (by decide) ?_
    refine lv_icmp_ne (tgt := 29) hx hb dX12_cut_16 (by decide) (fun c2 => ?_) (fun c2 => ?_)
    · refine lv_iload_n hx hb dX12_cut_29 rfl (lv_at hl 1 rfl) ?_
      exact b_ret hx hb hr (by first | with_reducible rfl | (simp only [bI, cutf, eq_false c1, eq_false c2, not_true_eq_false, not_false_eq_true, ite_true, ite_false, if_true, if_false, and_self, and_true, true_and, false_and, and_false, or_true, true_or, or_false, false_or]; done) | (simp [bI, cutf, eq_false c1, eq_false c2]; done) | omega) dX12_cut_30 hlocks
    · refine lv_iload_n hx hb dX12_cut_19 rfl (lv_at hl 1 rfl) ?_
      refine lv_bipush (v := 16) hx hb dX12_cut_20 (by decide) ?_
      refine lv_ishl hx hb dX12_cut_22 ?_
      refine lv_bipush (v := 16) hx hb dX12_cut_23 (by decide) ?_
      refine lv_ishr hx hb dX12_cut_25 ?_
      refine lv_goto (tgt := 30) hx hb dX12_cut_26 (by decide) ?_
      exact b_ret hx hb hr (by first | with_reducible rfl | (simp only [bI, cutf, eq_false c1, eq_true c2, not_true_eq_false, not_false_eq_true, ite_true, ite_false, if_true, if_false, and_self, and_true, true_and, false_and, and_false, or_true, true_or, or_false, false_or]; done) | (simp [bI, cutf, eq_false c1, eq_true c2]; done) | omega) dX12_cut_30 hlocks
  · refine lv_iload_n hx hb dX12_cut_4 rfl (lv_at hl 1 rfl) ?_
    refine lv_bipush (v := 24) hx hb dX12_cut_5 (by decide) ?_
    refine lv_ishl hx hb dX12_cut_7 ?_
    refine lv_bipush (v := 24) hx hb dX12_cut_8 (by decide) ?_
    refine lv_ishr hx hb dX12_cut_10 ?_
    refine lv_goto (tgt := 30) hx hb dX12_cut_11 (by decide) ?_
    exact b_ret hx hb hr (by first | with_reducible rfl | (simp only [bI, cutf, eq_true c1, not_true_eq_false, not_false_eq_true, ite_true, ite_false, if_true, if_false, and_self, and_true, true_and, false_and, and_false, or_true, true_or, or_false, false_or]; done) | (simp [bI, cutf, eq_true c1]; done) | omega) dX12_cut_30 hlocks
theorem u_X12_isPart_X12 : ∀ w ∈ wsX120, w ∈ wsX12_isPart := fun _ h => List.mem_cons_of_mem _ (List.mem_append_right _ h)
set_option maxHeartbeats 4000000 in
set_option maxRecDepth 100000 in
theorem c_X12_isPart (l : Launch) (D : va_G) (cI cZ cT : ClassId) (A0 : Nat → Nat) (ss tp fk fp ap sp tk vl ac tr : Int32) (la ma it sr bt nw dr pa im kp tc : Nat → Int32) (r : Nat) (i n : Int32) (hr : r ≤ 7) : Met l yX12_isPart wsX12_isPart ({ frames := 0, cells := 0, slots := 0, locals := 0 }) (pR D cI cZ cT [.ref (A0 0), .int (nI (r)), .int i, .int n] (wM cI cZ A0 ss tp fk fp ap sp tk vl ac tr la ma it sr bt nw dr pa im kp tc)) (QcRead (bI (¬ i < 0 ∧ ¬ n < 0 ∧ ¬ ma r < i ∧ ¬ ma r - i < n))) 0 0 (fun _ => False) := by
  refine Met.ofW (cc := cX12_isPart) (maxL := 4) (ret := (some .boolean)) (by decide) rfl ?_
  intro p e s m args below meth c s₁ B hml hv
  obtain ⟨rfl, hP, hK⟩ := hv
  have hx := B.exec
  have hb := B.bytes
  have hr := B.returns
  have hts := atoms_spec (ws := wsX12_isPart) B.pre
  have hown : s.vm.findClass RX12 = some m.cls := findClass_of_methodNamed B.named
  have hlocks := B.notSynchronized
  have hl := lv_entry ([.ref (A0 0), .int (nI (r)), .int i, .int n]) (n := 4) (Nat.le_of_ble_eq_true rfl)
  rw [lg_entry_eq]
  generalize (lg_sl ([.ref (A0 0), .int (nI (r)), .int i, .int n]) ++ List.replicate (4 - (lg_sl ([.ref (A0 0), .int (nI (r)), .int i, .int n])).length) Slot.unset).toArray = ls at hl ⊢
  have hl : lv_has ls 4 [(0, .ref (A0 0)), (1, .int (nI (r))), (2, .int i), (3, .int n)] := hl
  refine lv_iload_n hx hb dX12_isPart_0 rfl (lv_at hl 2 rfl) ?_
  refine lv_if_lt (tgt := 34) hx hb dX12_isPart_1 (by decide) (fun c1 => ?_) (fun c1 => ?_)
  · refine lv_iconst (v := 0) hx hb dX12_isPart_34 (by decide) ?_
    exact b_zret hx hb hr (by first | with_reducible rfl | (simp only [bI, eq_true c1, not_true_eq_false, not_false_eq_true, ite_true, ite_false, if_true, if_false, and_self, and_true, true_and, false_and, and_false, or_true, true_or, or_false, false_or]; done) | (simp [bI, eq_true c1]; done) | omega) dX12_isPart_35 hlocks
  · refine lv_iload_n hx hb dX12_isPart_4 rfl (lv_at hl 3 rfl) ?_
    refine lv_if_lt (tgt := 34) hx hb dX12_isPart_5 (by decide) (fun c2 => ?_) (fun c2 => ?_)
    · refine lv_iconst (v := 0) hx hb dX12_isPart_34 (by decide) ?_
      exact b_zret hx hb hr (by first | with_reducible rfl | (simp only [bI, eq_false c1, eq_true c2, not_true_eq_false, not_false_eq_true, ite_true, ite_false, if_true, if_false, and_self, and_true, true_and, false_and, and_false, or_true, true_or, or_false, false_or]; done) | (simp [bI, eq_false c1, eq_true c2]; done) | omega) dX12_isPart_35 hlocks
    · refine lv_iload_n hx hb dX12_isPart_8 rfl (lv_at hl 2 rfl) ?_
      refine lv_aload_n hx hb dX12_isPart_9 rfl (lv_at hl 0 rfl) ?_
      refine va_get (D := D) (ci := 11) (v := .ref (A0 2)) (C := RX12) (T := TX12) (N := 21) hx hb hts u_X12_isPart_X12 hown hK.1 hP 0 rfl rfl 1 (by decide) (hts (.fieldLink RX12 13 "NoticeWeekModel" "many" "[I") (List.mem_of_getElem? (i := 1) rfl)) (fun _ h9 => h9) rfl dX12_isPart_10 ?_
      refine lv_iload_n hx hb dX12_isPart_13 rfl (lv_at hl 1 rfl) ?_
      refine b_ald hx hb hK hP 2 rfl (by omega) (by decide) dX12_isPart_14 ?_
      refine lv_icmp_gt (tgt := 34) hx hb dX12_isPart_15 (by decide) (fun c3 => ?_) (fun c3 => ?_)
      · refine lv_iconst (v := 0) hx hb dX12_isPart_34 (by decide) ?_
        exact b_zret hx hb hr (by first | with_reducible rfl | (simp only [bI, eq_false c1, eq_false c2, eq_true c3, not_true_eq_false, not_false_eq_true, ite_true, ite_false, if_true, if_false, and_self, and_true, true_and, false_and, and_false, or_true, true_or, or_false, false_or]; done) | (simp [bI, eq_false c1, eq_false c2, eq_true c3]; done) | omega) dX12_isPart_35 hlocks
      · refine lv_iload_n hx hb dX12_isPart_18 rfl (lv_at hl 3 rfl) ?_
        refine lv_aload_n hx hb dX12_isPart_19 rfl (lv_at hl 0 rfl) ?_
        refine va_get (D := D) (ci := 11) (v := .ref (A0 2)) (C := RX12) (T := TX12) (N := 21) hx hb hts u_X12_isPart_X12 hown hK.1 hP 0 rfl rfl 1 (by decide) (hts (.fieldLink RX12 13 "NoticeWeekModel" "many" "[I") (List.mem_of_getElem? (i := 1) rfl)) (fun _ h9 => h9) rfl dX12_isPart_20 ?_
        refine lv_iload_n hx hb dX12_isPart_23 rfl (lv_at hl 1 rfl) ?_
        refine b_ald hx hb hK hP 2 rfl (by omega) (by decide) dX12_isPart_24 ?_
        refine lv_iload_n hx hb dX12_isPart_25 rfl (lv_at hl 2 rfl) ?_
        refine lv_isub hx hb dX12_isPart_26 ?_
        refine lv_icmp_gt (tgt := 34) hx hb dX12_isPart_27 (by decide) (fun c4 => ?_) (fun c4 => ?_)
        · refine lv_iconst (v := 0) hx hb dX12_isPart_34 (by decide) ?_
          exact b_zret hx hb hr (by first | with_reducible rfl | (simp only [bI, eq_false c1, eq_false c2, eq_false c3, eq_true c4, not_true_eq_false, not_false_eq_true, ite_true, ite_false, if_true, if_false, and_self, and_true, true_and, false_and, and_false, or_true, true_or, or_false, false_or]; done) | (simp [bI, eq_false c1, eq_false c2, eq_false c3, eq_true c4]; done) | omega) dX12_isPart_35 hlocks
        · refine lv_iconst (v := 1) hx hb dX12_isPart_30 (by decide) ?_
          refine lv_goto (tgt := 35) hx hb dX12_isPart_31 (by decide) ?_
          exact b_zret hx hb hr (by first | with_reducible rfl | (simp only [bI, eq_false c1, eq_false c2, eq_false c3, eq_false c4, not_true_eq_false, not_false_eq_true, ite_true, ite_false, if_true, if_false, and_self, and_true, true_and, false_and, and_false, or_true, true_or, or_false, false_or]; done) | (simp [bI, eq_false c1, eq_false c2, eq_false c3, eq_false c4]; done) | omega) dX12_isPart_35 hlocks
theorem u_X12_isWell_X12 : ∀ w ∈ wsX120, w ∈ wsX12_isWell := fun _ h => List.mem_cons_of_mem _ (List.mem_append_right _ h)
set_option maxHeartbeats 4000000 in
set_option maxRecDepth 100000 in
theorem c_X12_isWell (l : Launch) (D : va_G) (cI cZ cT : ClassId) (A0 : Nat → Nat) (ss tp fk fp ap sp tk vl ac tr : Int32) (la ma it sr bt nw dr pa im kp tc : Nat → Int32)  : Met l yX12_isWell wsX12_isWell ({ frames := 0, cells := 0, slots := 0, locals := 0 }) (pR D cI cZ cT [.ref (A0 0)] (wM cI cZ A0 ss tp fk fp ap sp tk vl ac tr la ma it sr bt nw dr pa im kp tc)) (QcRead (bI (fp < 0))) 0 0 (fun _ => False) := by
  refine Met.ofW (cc := cX12_isWell) (maxL := 1) (ret := (some .boolean)) (by decide) rfl ?_
  intro p e s m args below meth c s₁ B hml hv
  obtain ⟨rfl, hP, hK⟩ := hv
  have hx := B.exec
  have hb := B.bytes
  have hr := B.returns
  have hts := atoms_spec (ws := wsX12_isWell) B.pre
  have hown : s.vm.findClass RX12 = some m.cls := findClass_of_methodNamed B.named
  have hlocks := B.notSynchronized
  have hl := lv_entry ([.ref (A0 0)]) (n := 1) (Nat.le_of_ble_eq_true rfl)
  rw [lg_entry_eq]
  generalize (lg_sl ([.ref (A0 0)]) ++ List.replicate (1 - (lg_sl ([.ref (A0 0)])).length) Slot.unset).toArray = ls at hl ⊢
  have hl : lv_has ls 1 [(0, .ref (A0 0))] := hl
  refine lv_aload_n hx hb dX12_isWell_0 rfl (lv_at hl 0 rfl) ?_
  refine va_get (D := D) (ci := 11) (v := .int fp) (C := RX12) (T := TX12) (N := 21) hx hb hts u_X12_isWell_X12 hown hK.1 hP 0 rfl rfl 8 (by decide) (hts (.fieldLink RX12 95 "NoticeWeekModel" "faultPlace" "I") (List.mem_of_getElem? (i := 1) rfl)) (fun _ h9 => h9) rfl dX12_isWell_1 ?_
  refine lv_if_ge (tgt := 11) hx hb dX12_isWell_4 (by decide) (fun c1 => ?_) (fun c1 => ?_)
  · refine lv_iconst (v := 0) hx hb dX12_isWell_11 (by decide) ?_
    exact b_zret hx hb hr (by first | with_reducible rfl | (simp only [bI, eq_true c1, not_true_eq_false, not_false_eq_true, ite_true, ite_false, if_true, if_false, and_self, and_true, true_and, false_and, and_false, or_true, true_or, or_false, false_or]; done) | (simp [bI, eq_true c1]; done) | omega) dX12_isWell_12 hlocks
  · refine lv_iconst (v := 1) hx hb dX12_isWell_7 (by decide) ?_
    refine lv_goto (tgt := 12) hx hb dX12_isWell_8 (by decide) ?_
    exact b_zret hx hb hr (by first | with_reducible rfl | (simp only [bI, eq_false c1, not_true_eq_false, not_false_eq_true, ite_true, ite_false, if_true, if_false, and_self, and_true, true_and, false_and, and_false, or_true, true_or, or_false, false_or]; done) | (simp [bI, eq_false c1]; done) | omega) dX12_isWell_12 hlocks
set_option maxHeartbeats 4000000 in
set_option maxRecDepth 100000 in
theorem c_X12_kindOf (l : Launch) (D : va_G) (cI cZ cT : ClassId) (ch : Int32)  : Met l yX12_kindOf wsX12_kindOf ({ frames := 0, cells := 0, slots := 0, locals := 0 }) (pR D cI cZ cT [.int ch] ([])) (QcRead (kindOf ch)) 0 0 (fun _ => False) := by
  refine Met.ofW (cc := cX12_kindOf) (maxL := 1) (ret := (some .int)) (by decide) rfl ?_
  intro p e s m args below meth c s₁ B hml hv
  obtain ⟨rfl, hP, hK⟩ := hv
  have hx := B.exec
  have hb := B.bytes
  have hr := B.returns
  have hts := atoms_spec (ws := wsX12_kindOf) B.pre
  have hown : s.vm.findClass RX12 = some m.cls := findClass_of_methodNamed B.named
  have hlocks := B.notSynchronized
  have hl := lv_entry ([.int ch]) (n := 1) (Nat.le_of_ble_eq_true rfl)
  rw [lg_entry_eq]
  generalize (lg_sl ([.int ch]) ++ List.replicate (1 - (lg_sl ([.int ch])).length) Slot.unset).toArray = ls at hl ⊢
  have hl : lv_has ls 1 [(0, .int ch)] := hl
  refine lv_iload_n hx hb dX12_kindOf_0 rfl (lv_at hl 0 rfl) ?_
  refine lv_bipush (v := 112) hx hb dX12_kindOf_1 (by decide) ?_
  refine lv_icmp_ne (tgt := 10) hx hb dX12_kindOf_3 (by decide) (fun c1 => ?_) (fun c1 => ?_)
  · refine lv_iload_n hx hb dX12_kindOf_10 rfl (lv_at hl 0 rfl) ?_
    refine lv_bipush (v := 118) hx hb dX12_kindOf_11 (by decide) ?_
    refine lv_icmp_ne (tgt := 20) hx hb dX12_kindOf_13 (by decide) (fun c2 => ?_) (fun c2 => ?_)
    · refine lv_iload_n hx hb dX12_kindOf_20 rfl (lv_at hl 0 rfl) ?_
      refine lv_bipush (v := 115) hx hb dX12_kindOf_21 (by decide) ?_
      refine lv_icmp_ne (tgt := 30) hx hb dX12_kindOf_23 (by decide) (fun c3 => ?_) (fun c3 => ?_)
      · refine lv_iload_n hx hb dX12_kindOf_30 rfl (lv_at hl 0 rfl) ?_
        refine lv_bipush (v := 99) hx hb dX12_kindOf_31 (by decide) ?_
        refine lv_icmp_ne (tgt := 40) hx hb dX12_kindOf_33 (by decide) (fun c4 => ?_) (fun c4 => ?_)
        · refine lv_iload_n hx hb dX12_kindOf_40 rfl (lv_at hl 0 rfl) ?_
          refine lv_bipush (v := 107) hx hb dX12_kindOf_41 (by decide) ?_
          refine lv_icmp_ne (tgt := 50) hx hb dX12_kindOf_43 (by decide) (fun c5 => ?_) (fun c5 => ?_)
          · refine lv_iconst (v := 0) hx hb dX12_kindOf_50 (by decide) ?_
            exact b_ret hx hb hr (by first | with_reducible rfl | (simp only [bI, kindOf, eq_false c1, eq_false c2, eq_false c3, eq_false c4, eq_false c5, not_true_eq_false, not_false_eq_true, ite_true, ite_false, if_true, if_false, and_self, and_true, true_and, false_and, and_false, or_true, true_or, or_false, false_or]; done) | (simp [bI, kindOf, eq_false c1, eq_false c2, eq_false c3, eq_false c4, eq_false c5]; done) | omega) dX12_kindOf_51 hlocks
          · refine lv_iconst (v := 5) hx hb dX12_kindOf_46 (by decide) ?_
            refine lv_goto (tgt := 51) hx hb dX12_kindOf_47 (by decide) ?_
            exact b_ret hx hb hr (by first | with_reducible rfl | (simp only [bI, kindOf, eq_false c1, eq_false c2, eq_false c3, eq_false c4, eq_true c5, not_true_eq_false, not_false_eq_true, ite_true, ite_false, if_true, if_false, and_self, and_true, true_and, false_and, and_false, or_true, true_or, or_false, false_or]; done) | (simp [bI, kindOf, eq_false c1, eq_false c2, eq_false c3, eq_false c4, eq_true c5]; done) | omega) dX12_kindOf_51 hlocks
        · refine lv_iconst (v := 4) hx hb dX12_kindOf_36 (by decide) ?_
          refine lv_goto (tgt := 51) hx hb dX12_kindOf_37 (by decide) ?_
          exact b_ret hx hb hr (by first | with_reducible rfl | (simp only [bI, kindOf, eq_false c1, eq_false c2, eq_false c3, eq_true c4, not_true_eq_false, not_false_eq_true, ite_true, ite_false, if_true, if_false, and_self, and_true, true_and, false_and, and_false, or_true, true_or, or_false, false_or]; done) | (simp [bI, kindOf, eq_false c1, eq_false c2, eq_false c3, eq_true c4]; done) | omega) dX12_kindOf_51 hlocks
      · refine lv_iconst (v := 3) hx hb dX12_kindOf_26 (by decide) ?_
        refine lv_goto (tgt := 51) hx hb dX12_kindOf_27 (by decide) ?_
        exact b_ret hx hb hr (by first | with_reducible rfl | (simp only [bI, kindOf, eq_false c1, eq_false c2, eq_true c3, not_true_eq_false, not_false_eq_true, ite_true, ite_false, if_true, if_false, and_self, and_true, true_and, false_and, and_false, or_true, true_or, or_false, false_or]; done) | (simp [bI, kindOf, eq_false c1, eq_false c2, eq_true c3]; done) | omega) dX12_kindOf_51 hlocks
    · refine lv_iconst (v := 2) hx hb dX12_kindOf_16 (by decide) ?_
      refine lv_goto (tgt := 51) hx hb dX12_kindOf_17 (by decide) ?_
      exact b_ret hx hb hr (by first | with_reducible rfl | (simp only [bI, kindOf, eq_false c1, eq_true c2, not_true_eq_false, not_false_eq_true, ite_true, ite_false, if_true, if_false, and_self, and_true, true_and, false_and, and_false, or_true, true_or, or_false, false_or]; done) | (simp [bI, kindOf, eq_false c1, eq_true c2]; done) | omega) dX12_kindOf_51 hlocks
  · refine lv_iconst (v := 1) hx hb dX12_kindOf_6 (by decide) ?_
    refine lv_goto (tgt := 51) hx hb dX12_kindOf_7 (by decide) ?_
    exact b_ret hx hb hr (by first | with_reducible rfl | (simp only [bI, kindOf, eq_true c1, not_true_eq_false, not_false_eq_true, ite_true, ite_false, if_true, if_false, and_self, and_true, true_and, false_and, and_false, or_true, true_or, or_false, false_or]; done) | (simp [bI, kindOf, eq_true c1]; done) | omega) dX12_kindOf_51 hlocks
set_option maxHeartbeats 4000000 in
set_option maxRecDepth 100000 in
theorem c_X12_copies_np (l : Launch) (D : va_G) (cI cZ cT : ClassId) (A0 : Nat → Nat) (ss tp fk fp ap sp tk vl ac tr : Int32) (la ma it sr bt nw dr pa im kp tc : Nat → Int32) (a b : Nat) (ha : a = 0) (hb_ : b ≤ 644) : Met l yX12_copies wsX12_copies ({ frames := 0, cells := 0, slots := 0, locals := 0 }) (pM D cI cZ cT [.ref (A0 6), .int (nI (a)), .ref (A0 8), .int (nI (b))] (wM cI cZ A0 ss tp fk fp ap sp tk vl ac tr la ma it sr bt nw dr pa im kp tc)) (qM D none (wM cI cZ A0 ss tp fk fp ap sp tk vl ac tr la ma it sr bt nw dr (cpy nw a pa b 28) im kp tc) (adr (wM cI cZ A0 ss tp fk fp ap sp tk vl ac tr la ma it sr bt nw dr pa im kp tc))) 0 0 (adr (wM cI cZ A0 ss tp fk fp ap sp tk vl ac tr la ma it sr bt nw dr pa im kp tc)) := by
  refine Met.ofW (cc := cX12_copies) (maxL := 5) (ret := none) (by decide) rfl ?_
  intro p e s m args below meth c s₁ B hml hv
  obtain ⟨rfl, hP, hD0, hK⟩ := hv
  have hx := B.exec
  have hb := B.bytes
  have hr := B.returns
  have hts := atoms_spec (ws := wsX12_copies) B.pre
  have hown : s.vm.findClass RX12 = some m.cls := findClass_of_methodNamed B.named
  have hlocks := B.notSynchronized
  have hD := hD0.toAdr
  have hS : va_S (adr (wM cI cZ A0 ss tp fk fp ap sp tk vl ac tr la ma it sr bt nw dr pa im kp tc)) s.heap s.heap [] := va_S.rf
  generalize adr (wM cI cZ A0 ss tp fk fp ap sp tk vl ac tr la ma it sr bt nw dr pa im kp tc) = A at hD hS ⊢
  have hl := lv_entry ([.ref (A0 6), .int (nI (a)), .ref (A0 8), .int (nI (b))]) (n := 5) (Nat.le_of_ble_eq_true rfl)
  rw [lg_entry_eq]
  generalize (lg_sl ([.ref (A0 6), .int (nI (a)), .ref (A0 8), .int (nI (b))]) ++ List.replicate (5 - (lg_sl ([.ref (A0 6), .int (nI (a)), .ref (A0 8), .int (nI (b))])).length) Slot.unset).toArray = ls at hl ⊢
  have hl : lv_has ls 5 [(0, .ref (A0 6)), (1, .int (nI (a))), (2, .ref (A0 8)), (3, .int (nI (b)))] := hl
  refine lv_iconst (v := (nI 0)) hx hb dX12_copies_0 (by decide) ?_
  refine lv_istore (lv' := [(4, .int (nI 0)), (0, .ref (A0 6)), (1, .int (nI (a))), (2, .ref (A0 8)), (3, .int (nI (b)))]) hx hb dX12_copies_1 hl (by decide) rfl (fun ls hl => ?_)
  refine b_loopM (N := 28) (I := fun k ls H locs => lv_has ls 5 [(4, .int (nI (k))), (0, .ref (A0 6)), (1, .int (nI (a))), (2, .ref (A0 8)), (3, .int (nI (b)))] ∧ va_P D vwCl (wM cI cZ A0 ss tp fk fp ap sp tk vl ac tr la ma it sr bt nw dr (cpy nw a pa b k) im kp tc) H ∧ va_S A s.heap H locs) (fun k hk ih1 ls H locs hI => ?_) 0 (by omega) ⟨lv_sub hl [0, 1, 2, 3, 4] rfl, hP, hS⟩
  obtain ⟨hl, hP, hS⟩ := hI
  have hl : lv_has ls 5 [(4, .int (nI (k))), (0, .ref (A0 6)), (1, .int (nI (a))), (2, .ref (A0 8)), (3, .int (nI (b)))] := hl
  have hP : va_P D vwCl (wM cI cZ A0 ss tp fk fp ap sp tk vl ac tr la ma it sr bt nw dr (cpy nw a pa b k) im kp tc) H := hP
  have hD : va_D A (wM cI cZ A0 ss tp fk fp ap sp tk vl ac tr la ma it sr bt nw dr (cpy nw a pa b k) im kp tc) := hD.sameA [(A0 0), (A0 1), (A0 2), (A0 3), (A0 4), (A0 5), (A0 6), (A0 7), (A0 8), (A0 9), (A0 10), (A0 11)] rfl rfl
  refine lv_iload hx hb dX12_copies_3 (lv_at hl 0 rfl) ?_
  refine lv_bipush (v := (nI 28)) hx hb dX12_copies_5 (by decide) ?_
  refine b_ge (tgt := 28) hx hb (by omega) (by omega) dX12_copies_7 (by decide) (fun c2 => ?_) (fun c2 => ?_)
  · have h_k : 28 = k := by omega
    subst h_k
    exact b_vretM hx hb hr hP hS dX12_copies_28 hlocks
  · refine lv_aload_n hx hb dX12_copies_10 rfl (lv_at hl 3 rfl) ?_
    refine lv_iload_n hx hb dX12_copies_11 rfl (lv_at hl 4 rfl) ?_
    refine lv_iload hx hb dX12_copies_12 (lv_at hl 0 rfl) ?_
    refine b_add hx hb dX12_copies_14 ?_
    refine lv_aload_n hx hb dX12_copies_15 rfl (lv_at hl 1 rfl) ?_
    refine lv_iload_n hx hb dX12_copies_16 rfl (lv_at hl 2 rfl) ?_
    refine lv_iload hx hb dX12_copies_17 (lv_at hl 0 rfl) ?_
    refine b_add hx hb dX12_copies_19 ?_
    refine b_ald hx hb hK hP 6 rfl (by omega) (by decide) dX12_copies_20 ?_
    refine b_ast hx hb hK hP hD hS 8 rfl (by omega) (by decide) dX12_copies_21 (fun H locs hP hS => ?_)
    have hP : va_P D vwCl (wM cI cZ A0 ss tp fk fp ap sp tk vl ac tr la ma it sr bt nw dr (upd (cpy nw a pa b k) (b + k) (nw (a + k))) im kp tc) H := hP
    have hD : va_D A (wM cI cZ A0 ss tp fk fp ap sp tk vl ac tr la ma it sr bt nw dr (upd (cpy nw a pa b k) (b + k) (nw (a + k))) im kp tc) := hD.sameA [(A0 0), (A0 1), (A0 2), (A0 3), (A0 4), (A0 5), (A0 6), (A0 7), (A0 8), (A0 9), (A0 10), (A0 11)] rfl rfl
    refine lv_iinc (v := (nI (k + 1))) (lv' := [(4, .int (nI (k + 1))), (0, .ref (A0 6)), (1, .int (nI (a))), (2, .ref (A0 8)), (3, .int (nI (b)))]) hx hb dX12_copies_22 hl (k := 0) rfl (nI_add _ _) (by decide) rfl (fun ls hl => ?_)
    refine lv_goto (tgt := 3) hx hb dX12_copies_25 (by decide) ?_
    exact ih1 (by omega) ls H locs ⟨lv_sub hl [0, 1, 2, 3, 4] rfl, hP, hS⟩
set_option maxHeartbeats 4000000 in
set_option maxRecDepth 100000 in
theorem c_X12_copies_pn (l : Launch) (D : va_G) (cI cZ cT : ClassId) (A0 : Nat → Nat) (ss tp fk fp ap sp tk vl ac tr : Int32) (la ma it sr bt nw dr pa im kp tc : Nat → Int32) (a b : Nat) (ha : a ≤ 644) (hb_ : b = 0) : Met l yX12_copies wsX12_copies ({ frames := 0, cells := 0, slots := 0, locals := 0 }) (pM D cI cZ cT [.ref (A0 8), .int (nI (a)), .ref (A0 6), .int (nI (b))] (wM cI cZ A0 ss tp fk fp ap sp tk vl ac tr la ma it sr bt nw dr pa im kp tc)) (qM D none (wM cI cZ A0 ss tp fk fp ap sp tk vl ac tr la ma it sr bt (cpy pa a nw b 28) dr pa im kp tc) (adr (wM cI cZ A0 ss tp fk fp ap sp tk vl ac tr la ma it sr bt nw dr pa im kp tc))) 0 0 (adr (wM cI cZ A0 ss tp fk fp ap sp tk vl ac tr la ma it sr bt nw dr pa im kp tc)) := by
  refine Met.ofW (cc := cX12_copies) (maxL := 5) (ret := none) (by decide) rfl ?_
  intro p e s m args below meth c s₁ B hml hv
  obtain ⟨rfl, hP, hD0, hK⟩ := hv
  have hx := B.exec
  have hb := B.bytes
  have hr := B.returns
  have hts := atoms_spec (ws := wsX12_copies) B.pre
  have hown : s.vm.findClass RX12 = some m.cls := findClass_of_methodNamed B.named
  have hlocks := B.notSynchronized
  have hD := hD0.toAdr
  have hS : va_S (adr (wM cI cZ A0 ss tp fk fp ap sp tk vl ac tr la ma it sr bt nw dr pa im kp tc)) s.heap s.heap [] := va_S.rf
  generalize adr (wM cI cZ A0 ss tp fk fp ap sp tk vl ac tr la ma it sr bt nw dr pa im kp tc) = A at hD hS ⊢
  have hl := lv_entry ([.ref (A0 8), .int (nI (a)), .ref (A0 6), .int (nI (b))]) (n := 5) (Nat.le_of_ble_eq_true rfl)
  rw [lg_entry_eq]
  generalize (lg_sl ([.ref (A0 8), .int (nI (a)), .ref (A0 6), .int (nI (b))]) ++ List.replicate (5 - (lg_sl ([.ref (A0 8), .int (nI (a)), .ref (A0 6), .int (nI (b))])).length) Slot.unset).toArray = ls at hl ⊢
  have hl : lv_has ls 5 [(0, .ref (A0 8)), (1, .int (nI (a))), (2, .ref (A0 6)), (3, .int (nI (b)))] := hl
  refine lv_iconst (v := (nI 0)) hx hb dX12_copies_0 (by decide) ?_
  refine lv_istore (lv' := [(4, .int (nI 0)), (0, .ref (A0 8)), (1, .int (nI (a))), (2, .ref (A0 6)), (3, .int (nI (b)))]) hx hb dX12_copies_1 hl (by decide) rfl (fun ls hl => ?_)
  refine b_loopM (N := 28) (I := fun k ls H locs => lv_has ls 5 [(4, .int (nI (k))), (0, .ref (A0 8)), (1, .int (nI (a))), (2, .ref (A0 6)), (3, .int (nI (b)))] ∧ va_P D vwCl (wM cI cZ A0 ss tp fk fp ap sp tk vl ac tr la ma it sr bt (cpy pa a nw b k) dr pa im kp tc) H ∧ va_S A s.heap H locs) (fun k hk ih1 ls H locs hI => ?_) 0 (by omega) ⟨lv_sub hl [0, 1, 2, 3, 4] rfl, hP, hS⟩
  obtain ⟨hl, hP, hS⟩ := hI
  have hl : lv_has ls 5 [(4, .int (nI (k))), (0, .ref (A0 8)), (1, .int (nI (a))), (2, .ref (A0 6)), (3, .int (nI (b)))] := hl
  have hP : va_P D vwCl (wM cI cZ A0 ss tp fk fp ap sp tk vl ac tr la ma it sr bt (cpy pa a nw b k) dr pa im kp tc) H := hP
  have hD : va_D A (wM cI cZ A0 ss tp fk fp ap sp tk vl ac tr la ma it sr bt (cpy pa a nw b k) dr pa im kp tc) := hD.sameA [(A0 0), (A0 1), (A0 2), (A0 3), (A0 4), (A0 5), (A0 6), (A0 7), (A0 8), (A0 9), (A0 10), (A0 11)] rfl rfl
  refine lv_iload hx hb dX12_copies_3 (lv_at hl 0 rfl) ?_
  refine lv_bipush (v := (nI 28)) hx hb dX12_copies_5 (by decide) ?_
  refine b_ge (tgt := 28) hx hb (by omega) (by omega) dX12_copies_7 (by decide) (fun c2 => ?_) (fun c2 => ?_)
  · have h_k : 28 = k := by omega
    subst h_k
    exact b_vretM hx hb hr hP hS dX12_copies_28 hlocks
  · refine lv_aload_n hx hb dX12_copies_10 rfl (lv_at hl 3 rfl) ?_
    refine lv_iload_n hx hb dX12_copies_11 rfl (lv_at hl 4 rfl) ?_
    refine lv_iload hx hb dX12_copies_12 (lv_at hl 0 rfl) ?_
    refine b_add hx hb dX12_copies_14 ?_
    refine lv_aload_n hx hb dX12_copies_15 rfl (lv_at hl 1 rfl) ?_
    refine lv_iload_n hx hb dX12_copies_16 rfl (lv_at hl 2 rfl) ?_
    refine lv_iload hx hb dX12_copies_17 (lv_at hl 0 rfl) ?_
    refine b_add hx hb dX12_copies_19 ?_
    refine b_ald hx hb hK hP 8 rfl (by omega) (by decide) dX12_copies_20 ?_
    refine b_ast hx hb hK hP hD hS 6 rfl (by omega) (by decide) dX12_copies_21 (fun H locs hP hS => ?_)
    have hP : va_P D vwCl (wM cI cZ A0 ss tp fk fp ap sp tk vl ac tr la ma it sr bt (upd (cpy pa a nw b k) (b + k) (pa (a + k))) dr pa im kp tc) H := hP
    have hD : va_D A (wM cI cZ A0 ss tp fk fp ap sp tk vl ac tr la ma it sr bt (upd (cpy pa a nw b k) (b + k) (pa (a + k))) dr pa im kp tc) := hD.sameA [(A0 0), (A0 1), (A0 2), (A0 3), (A0 4), (A0 5), (A0 6), (A0 7), (A0 8), (A0 9), (A0 10), (A0 11)] rfl rfl
    refine lv_iinc (v := (nI (k + 1))) (lv' := [(4, .int (nI (k + 1))), (0, .ref (A0 8)), (1, .int (nI (a))), (2, .ref (A0 6)), (3, .int (nI (b)))]) hx hb dX12_copies_22 hl (k := 0) rfl (nI_add _ _) (by decide) rfl (fun ls hl => ?_)
    refine lv_goto (tgt := 3) hx hb dX12_copies_25 (by decide) ?_
    exact ih1 (by omega) ls H locs ⟨lv_sub hl [0, 1, 2, 3, 4] rfl, hP, hS⟩
set_option maxHeartbeats 4000000 in
set_option maxRecDepth 100000 in
theorem c_X12_copies_dn (l : Launch) (D : va_G) (cI cZ cT : ClassId) (A0 : Nat → Nat) (ss tp fk fp ap sp tk vl ac tr : Int32) (la ma it sr bt nw dr pa im kp tc : Nat → Int32) (a b : Nat) (ha : a = 0) (hb_ : b = 0) : Met l yX12_copies wsX12_copies ({ frames := 0, cells := 0, slots := 0, locals := 0 }) (pM D cI cZ cT [.ref (A0 7), .int (nI (a)), .ref (A0 6), .int (nI (b))] (wM cI cZ A0 ss tp fk fp ap sp tk vl ac tr la ma it sr bt nw dr pa im kp tc)) (qM D none (wM cI cZ A0 ss tp fk fp ap sp tk vl ac tr la ma it sr bt (cpy dr a nw b 28) dr pa im kp tc) (adr (wM cI cZ A0 ss tp fk fp ap sp tk vl ac tr la ma it sr bt nw dr pa im kp tc))) 0 0 (adr (wM cI cZ A0 ss tp fk fp ap sp tk vl ac tr la ma it sr bt nw dr pa im kp tc)) := by
  refine Met.ofW (cc := cX12_copies) (maxL := 5) (ret := none) (by decide) rfl ?_
  intro p e s m args below meth c s₁ B hml hv
  obtain ⟨rfl, hP, hD0, hK⟩ := hv
  have hx := B.exec
  have hb := B.bytes
  have hr := B.returns
  have hts := atoms_spec (ws := wsX12_copies) B.pre
  have hown : s.vm.findClass RX12 = some m.cls := findClass_of_methodNamed B.named
  have hlocks := B.notSynchronized
  have hD := hD0.toAdr
  have hS : va_S (adr (wM cI cZ A0 ss tp fk fp ap sp tk vl ac tr la ma it sr bt nw dr pa im kp tc)) s.heap s.heap [] := va_S.rf
  generalize adr (wM cI cZ A0 ss tp fk fp ap sp tk vl ac tr la ma it sr bt nw dr pa im kp tc) = A at hD hS ⊢
  have hl := lv_entry ([.ref (A0 7), .int (nI (a)), .ref (A0 6), .int (nI (b))]) (n := 5) (Nat.le_of_ble_eq_true rfl)
  rw [lg_entry_eq]
  generalize (lg_sl ([.ref (A0 7), .int (nI (a)), .ref (A0 6), .int (nI (b))]) ++ List.replicate (5 - (lg_sl ([.ref (A0 7), .int (nI (a)), .ref (A0 6), .int (nI (b))])).length) Slot.unset).toArray = ls at hl ⊢
  have hl : lv_has ls 5 [(0, .ref (A0 7)), (1, .int (nI (a))), (2, .ref (A0 6)), (3, .int (nI (b)))] := hl
  refine lv_iconst (v := (nI 0)) hx hb dX12_copies_0 (by decide) ?_
  refine lv_istore (lv' := [(4, .int (nI 0)), (0, .ref (A0 7)), (1, .int (nI (a))), (2, .ref (A0 6)), (3, .int (nI (b)))]) hx hb dX12_copies_1 hl (by decide) rfl (fun ls hl => ?_)
  refine b_loopM (N := 28) (I := fun k ls H locs => lv_has ls 5 [(4, .int (nI (k))), (0, .ref (A0 7)), (1, .int (nI (a))), (2, .ref (A0 6)), (3, .int (nI (b)))] ∧ va_P D vwCl (wM cI cZ A0 ss tp fk fp ap sp tk vl ac tr la ma it sr bt (cpy dr a nw b k) dr pa im kp tc) H ∧ va_S A s.heap H locs) (fun k hk ih1 ls H locs hI => ?_) 0 (by omega) ⟨lv_sub hl [0, 1, 2, 3, 4] rfl, hP, hS⟩
  obtain ⟨hl, hP, hS⟩ := hI
  have hl : lv_has ls 5 [(4, .int (nI (k))), (0, .ref (A0 7)), (1, .int (nI (a))), (2, .ref (A0 6)), (3, .int (nI (b)))] := hl
  have hP : va_P D vwCl (wM cI cZ A0 ss tp fk fp ap sp tk vl ac tr la ma it sr bt (cpy dr a nw b k) dr pa im kp tc) H := hP
  have hD : va_D A (wM cI cZ A0 ss tp fk fp ap sp tk vl ac tr la ma it sr bt (cpy dr a nw b k) dr pa im kp tc) := hD.sameA [(A0 0), (A0 1), (A0 2), (A0 3), (A0 4), (A0 5), (A0 6), (A0 7), (A0 8), (A0 9), (A0 10), (A0 11)] rfl rfl
  refine lv_iload hx hb dX12_copies_3 (lv_at hl 0 rfl) ?_
  refine lv_bipush (v := (nI 28)) hx hb dX12_copies_5 (by decide) ?_
  refine b_ge (tgt := 28) hx hb (by omega) (by omega) dX12_copies_7 (by decide) (fun c2 => ?_) (fun c2 => ?_)
  · have h_k : 28 = k := by omega
    subst h_k
    exact b_vretM hx hb hr hP hS dX12_copies_28 hlocks
  · refine lv_aload_n hx hb dX12_copies_10 rfl (lv_at hl 3 rfl) ?_
    refine lv_iload_n hx hb dX12_copies_11 rfl (lv_at hl 4 rfl) ?_
    refine lv_iload hx hb dX12_copies_12 (lv_at hl 0 rfl) ?_
    refine b_add hx hb dX12_copies_14 ?_
    refine lv_aload_n hx hb dX12_copies_15 rfl (lv_at hl 1 rfl) ?_
    refine lv_iload_n hx hb dX12_copies_16 rfl (lv_at hl 2 rfl) ?_
    refine lv_iload hx hb dX12_copies_17 (lv_at hl 0 rfl) ?_
    refine b_add hx hb dX12_copies_19 ?_
    refine b_ald hx hb hK hP 7 rfl (by omega) (by decide) dX12_copies_20 ?_
    refine b_ast hx hb hK hP hD hS 6 rfl (by omega) (by decide) dX12_copies_21 (fun H locs hP hS => ?_)
    have hP : va_P D vwCl (wM cI cZ A0 ss tp fk fp ap sp tk vl ac tr la ma it sr bt (upd (cpy dr a nw b k) (b + k) (dr (a + k))) dr pa im kp tc) H := hP
    have hD : va_D A (wM cI cZ A0 ss tp fk fp ap sp tk vl ac tr la ma it sr bt (upd (cpy dr a nw b k) (b + k) (dr (a + k))) dr pa im kp tc) := hD.sameA [(A0 0), (A0 1), (A0 2), (A0 3), (A0 4), (A0 5), (A0 6), (A0 7), (A0 8), (A0 9), (A0 10), (A0 11)] rfl rfl
    refine lv_iinc (v := (nI (k + 1))) (lv' := [(4, .int (nI (k + 1))), (0, .ref (A0 7)), (1, .int (nI (a))), (2, .ref (A0 6)), (3, .int (nI (b)))]) hx hb dX12_copies_22 hl (k := 0) rfl (nI_add _ _) (by decide) rfl (fun ls hl => ?_)
    refine lv_goto (tgt := 3) hx hb dX12_copies_25 (by decide) ?_
    exact ih1 (by omega) ls H locs ⟨lv_sub hl [0, 1, 2, 3, 4] rfl, hP, hS⟩
set_option maxHeartbeats 4000000 in
set_option maxRecDepth 100000 in
theorem c_X12_copies_ni (l : Launch) (D : va_G) (cI cZ cT : ClassId) (A0 : Nat → Nat) (ss tp fk fp ap sp tk vl ac tr : Int32) (la ma it sr bt nw dr pa im kp tc : Nat → Int32) (a b : Nat) (ha : a = 0) (hb_ : b ≤ 28) : Met l yX12_copies wsX12_copies ({ frames := 0, cells := 0, slots := 0, locals := 0 }) (pM D cI cZ cT [.ref (A0 6), .int (nI (a)), .ref (A0 9), .int (nI (b))] (wM cI cZ A0 ss tp fk fp ap sp tk vl ac tr la ma it sr bt nw dr pa im kp tc)) (qM D none (wM cI cZ A0 ss tp fk fp ap sp tk vl ac tr la ma it sr bt nw dr pa (cpy nw a im b 28) kp tc) (adr (wM cI cZ A0 ss tp fk fp ap sp tk vl ac tr la ma it sr bt nw dr pa im kp tc))) 0 0 (adr (wM cI cZ A0 ss tp fk fp ap sp tk vl ac tr la ma it sr bt nw dr pa im kp tc)) := by
  refine Met.ofW (cc := cX12_copies) (maxL := 5) (ret := none) (by decide) rfl ?_
  intro p e s m args below meth c s₁ B hml hv
  obtain ⟨rfl, hP, hD0, hK⟩ := hv
  have hx := B.exec
  have hb := B.bytes
  have hr := B.returns
  have hts := atoms_spec (ws := wsX12_copies) B.pre
  have hown : s.vm.findClass RX12 = some m.cls := findClass_of_methodNamed B.named
  have hlocks := B.notSynchronized
  have hD := hD0.toAdr
  have hS : va_S (adr (wM cI cZ A0 ss tp fk fp ap sp tk vl ac tr la ma it sr bt nw dr pa im kp tc)) s.heap s.heap [] := va_S.rf
  generalize adr (wM cI cZ A0 ss tp fk fp ap sp tk vl ac tr la ma it sr bt nw dr pa im kp tc) = A at hD hS ⊢
  have hl := lv_entry ([.ref (A0 6), .int (nI (a)), .ref (A0 9), .int (nI (b))]) (n := 5) (Nat.le_of_ble_eq_true rfl)
  rw [lg_entry_eq]
  generalize (lg_sl ([.ref (A0 6), .int (nI (a)), .ref (A0 9), .int (nI (b))]) ++ List.replicate (5 - (lg_sl ([.ref (A0 6), .int (nI (a)), .ref (A0 9), .int (nI (b))])).length) Slot.unset).toArray = ls at hl ⊢
  have hl : lv_has ls 5 [(0, .ref (A0 6)), (1, .int (nI (a))), (2, .ref (A0 9)), (3, .int (nI (b)))] := hl
  refine lv_iconst (v := (nI 0)) hx hb dX12_copies_0 (by decide) ?_
  refine lv_istore (lv' := [(4, .int (nI 0)), (0, .ref (A0 6)), (1, .int (nI (a))), (2, .ref (A0 9)), (3, .int (nI (b)))]) hx hb dX12_copies_1 hl (by decide) rfl (fun ls hl => ?_)
  refine b_loopM (N := 28) (I := fun k ls H locs => lv_has ls 5 [(4, .int (nI (k))), (0, .ref (A0 6)), (1, .int (nI (a))), (2, .ref (A0 9)), (3, .int (nI (b)))] ∧ va_P D vwCl (wM cI cZ A0 ss tp fk fp ap sp tk vl ac tr la ma it sr bt nw dr pa (cpy nw a im b k) kp tc) H ∧ va_S A s.heap H locs) (fun k hk ih1 ls H locs hI => ?_) 0 (by omega) ⟨lv_sub hl [0, 1, 2, 3, 4] rfl, hP, hS⟩
  obtain ⟨hl, hP, hS⟩ := hI
  have hl : lv_has ls 5 [(4, .int (nI (k))), (0, .ref (A0 6)), (1, .int (nI (a))), (2, .ref (A0 9)), (3, .int (nI (b)))] := hl
  have hP : va_P D vwCl (wM cI cZ A0 ss tp fk fp ap sp tk vl ac tr la ma it sr bt nw dr pa (cpy nw a im b k) kp tc) H := hP
  have hD : va_D A (wM cI cZ A0 ss tp fk fp ap sp tk vl ac tr la ma it sr bt nw dr pa (cpy nw a im b k) kp tc) := hD.sameA [(A0 0), (A0 1), (A0 2), (A0 3), (A0 4), (A0 5), (A0 6), (A0 7), (A0 8), (A0 9), (A0 10), (A0 11)] rfl rfl
  refine lv_iload hx hb dX12_copies_3 (lv_at hl 0 rfl) ?_
  refine lv_bipush (v := (nI 28)) hx hb dX12_copies_5 (by decide) ?_
  refine b_ge (tgt := 28) hx hb (by omega) (by omega) dX12_copies_7 (by decide) (fun c2 => ?_) (fun c2 => ?_)
  · have h_k : 28 = k := by omega
    subst h_k
    exact b_vretM hx hb hr hP hS dX12_copies_28 hlocks
  · refine lv_aload_n hx hb dX12_copies_10 rfl (lv_at hl 3 rfl) ?_
    refine lv_iload_n hx hb dX12_copies_11 rfl (lv_at hl 4 rfl) ?_
    refine lv_iload hx hb dX12_copies_12 (lv_at hl 0 rfl) ?_
    refine b_add hx hb dX12_copies_14 ?_
    refine lv_aload_n hx hb dX12_copies_15 rfl (lv_at hl 1 rfl) ?_
    refine lv_iload_n hx hb dX12_copies_16 rfl (lv_at hl 2 rfl) ?_
    refine lv_iload hx hb dX12_copies_17 (lv_at hl 0 rfl) ?_
    refine b_add hx hb dX12_copies_19 ?_
    refine b_ald hx hb hK hP 6 rfl (by omega) (by decide) dX12_copies_20 ?_
    refine b_ast hx hb hK hP hD hS 9 rfl (by omega) (by decide) dX12_copies_21 (fun H locs hP hS => ?_)
    have hP : va_P D vwCl (wM cI cZ A0 ss tp fk fp ap sp tk vl ac tr la ma it sr bt nw dr pa (upd (cpy nw a im b k) (b + k) (nw (a + k))) kp tc) H := hP
    have hD : va_D A (wM cI cZ A0 ss tp fk fp ap sp tk vl ac tr la ma it sr bt nw dr pa (upd (cpy nw a im b k) (b + k) (nw (a + k))) kp tc) := hD.sameA [(A0 0), (A0 1), (A0 2), (A0 3), (A0 4), (A0 5), (A0 6), (A0 7), (A0 8), (A0 9), (A0 10), (A0 11)] rfl rfl
    refine lv_iinc (v := (nI (k + 1))) (lv' := [(4, .int (nI (k + 1))), (0, .ref (A0 6)), (1, .int (nI (a))), (2, .ref (A0 9)), (3, .int (nI (b)))]) hx hb dX12_copies_22 hl (k := 0) rfl (nI_add _ _) (by decide) rfl (fun ls hl => ?_)
    refine lv_goto (tgt := 3) hx hb dX12_copies_25 (by decide) ?_
    exact ih1 (by omega) ls H locs ⟨lv_sub hl [0, 1, 2, 3, 4] rfl, hP, hS⟩
set_option maxHeartbeats 4000000 in
set_option maxRecDepth 100000 in
theorem c_X12_copies_in (l : Launch) (D : va_G) (cI cZ cT : ClassId) (A0 : Nat → Nat) (ss tp fk fp ap sp tk vl ac tr : Int32) (la ma it sr bt nw dr pa im kp tc : Nat → Int32) (a b : Nat) (ha : a ≤ 28) (hb_ : b = 0) : Met l yX12_copies wsX12_copies ({ frames := 0, cells := 0, slots := 0, locals := 0 }) (pM D cI cZ cT [.ref (A0 9), .int (nI (a)), .ref (A0 6), .int (nI (b))] (wM cI cZ A0 ss tp fk fp ap sp tk vl ac tr la ma it sr bt nw dr pa im kp tc)) (qM D none (wM cI cZ A0 ss tp fk fp ap sp tk vl ac tr la ma it sr bt (cpy im a nw b 28) dr pa im kp tc) (adr (wM cI cZ A0 ss tp fk fp ap sp tk vl ac tr la ma it sr bt nw dr pa im kp tc))) 0 0 (adr (wM cI cZ A0 ss tp fk fp ap sp tk vl ac tr la ma it sr bt nw dr pa im kp tc)) := by
  refine Met.ofW (cc := cX12_copies) (maxL := 5) (ret := none) (by decide) rfl ?_
  intro p e s m args below meth c s₁ B hml hv
  obtain ⟨rfl, hP, hD0, hK⟩ := hv
  have hx := B.exec
  have hb := B.bytes
  have hr := B.returns
  have hts := atoms_spec (ws := wsX12_copies) B.pre
  have hown : s.vm.findClass RX12 = some m.cls := findClass_of_methodNamed B.named
  have hlocks := B.notSynchronized
  have hD := hD0.toAdr
  have hS : va_S (adr (wM cI cZ A0 ss tp fk fp ap sp tk vl ac tr la ma it sr bt nw dr pa im kp tc)) s.heap s.heap [] := va_S.rf
  generalize adr (wM cI cZ A0 ss tp fk fp ap sp tk vl ac tr la ma it sr bt nw dr pa im kp tc) = A at hD hS ⊢
  have hl := lv_entry ([.ref (A0 9), .int (nI (a)), .ref (A0 6), .int (nI (b))]) (n := 5) (Nat.le_of_ble_eq_true rfl)
  rw [lg_entry_eq]
  generalize (lg_sl ([.ref (A0 9), .int (nI (a)), .ref (A0 6), .int (nI (b))]) ++ List.replicate (5 - (lg_sl ([.ref (A0 9), .int (nI (a)), .ref (A0 6), .int (nI (b))])).length) Slot.unset).toArray = ls at hl ⊢
  have hl : lv_has ls 5 [(0, .ref (A0 9)), (1, .int (nI (a))), (2, .ref (A0 6)), (3, .int (nI (b)))] := hl
  refine lv_iconst (v := (nI 0)) hx hb dX12_copies_0 (by decide) ?_
  refine lv_istore (lv' := [(4, .int (nI 0)), (0, .ref (A0 9)), (1, .int (nI (a))), (2, .ref (A0 6)), (3, .int (nI (b)))]) hx hb dX12_copies_1 hl (by decide) rfl (fun ls hl => ?_)
  refine b_loopM (N := 28) (I := fun k ls H locs => lv_has ls 5 [(4, .int (nI (k))), (0, .ref (A0 9)), (1, .int (nI (a))), (2, .ref (A0 6)), (3, .int (nI (b)))] ∧ va_P D vwCl (wM cI cZ A0 ss tp fk fp ap sp tk vl ac tr la ma it sr bt (cpy im a nw b k) dr pa im kp tc) H ∧ va_S A s.heap H locs) (fun k hk ih1 ls H locs hI => ?_) 0 (by omega) ⟨lv_sub hl [0, 1, 2, 3, 4] rfl, hP, hS⟩
  obtain ⟨hl, hP, hS⟩ := hI
  have hl : lv_has ls 5 [(4, .int (nI (k))), (0, .ref (A0 9)), (1, .int (nI (a))), (2, .ref (A0 6)), (3, .int (nI (b)))] := hl
  have hP : va_P D vwCl (wM cI cZ A0 ss tp fk fp ap sp tk vl ac tr la ma it sr bt (cpy im a nw b k) dr pa im kp tc) H := hP
  have hD : va_D A (wM cI cZ A0 ss tp fk fp ap sp tk vl ac tr la ma it sr bt (cpy im a nw b k) dr pa im kp tc) := hD.sameA [(A0 0), (A0 1), (A0 2), (A0 3), (A0 4), (A0 5), (A0 6), (A0 7), (A0 8), (A0 9), (A0 10), (A0 11)] rfl rfl
  refine lv_iload hx hb dX12_copies_3 (lv_at hl 0 rfl) ?_
  refine lv_bipush (v := (nI 28)) hx hb dX12_copies_5 (by decide) ?_
  refine b_ge (tgt := 28) hx hb (by omega) (by omega) dX12_copies_7 (by decide) (fun c2 => ?_) (fun c2 => ?_)
  · have h_k : 28 = k := by omega
    subst h_k
    exact b_vretM hx hb hr hP hS dX12_copies_28 hlocks
  · refine lv_aload_n hx hb dX12_copies_10 rfl (lv_at hl 3 rfl) ?_
    refine lv_iload_n hx hb dX12_copies_11 rfl (lv_at hl 4 rfl) ?_
    refine lv_iload hx hb dX12_copies_12 (lv_at hl 0 rfl) ?_
    refine b_add hx hb dX12_copies_14 ?_
    refine lv_aload_n hx hb dX12_copies_15 rfl (lv_at hl 1 rfl) ?_
    refine lv_iload_n hx hb dX12_copies_16 rfl (lv_at hl 2 rfl) ?_
    refine lv_iload hx hb dX12_copies_17 (lv_at hl 0 rfl) ?_
    refine b_add hx hb dX12_copies_19 ?_
    refine b_ald hx hb hK hP 9 rfl (by omega) (by decide) dX12_copies_20 ?_
    refine b_ast hx hb hK hP hD hS 6 rfl (by omega) (by decide) dX12_copies_21 (fun H locs hP hS => ?_)
    have hP : va_P D vwCl (wM cI cZ A0 ss tp fk fp ap sp tk vl ac tr la ma it sr bt (upd (cpy im a nw b k) (b + k) (im (a + k))) dr pa im kp tc) H := hP
    have hD : va_D A (wM cI cZ A0 ss tp fk fp ap sp tk vl ac tr la ma it sr bt (upd (cpy im a nw b k) (b + k) (im (a + k))) dr pa im kp tc) := hD.sameA [(A0 0), (A0 1), (A0 2), (A0 3), (A0 4), (A0 5), (A0 6), (A0 7), (A0 8), (A0 9), (A0 10), (A0 11)] rfl rfl
    refine lv_iinc (v := (nI (k + 1))) (lv' := [(4, .int (nI (k + 1))), (0, .ref (A0 9)), (1, .int (nI (a))), (2, .ref (A0 6)), (3, .int (nI (b)))]) hx hb dX12_copies_22 hl (k := 0) rfl (nI_add _ _) (by decide) rfl (fun ls hl => ?_)
    refine lv_goto (tgt := 3) hx hb dX12_copies_25 (by decide) ?_
    exact ih1 (by omega) ls H locs ⟨lv_sub hl [0, 1, 2, 3, 4] rfl, hP, hS⟩
set_option maxHeartbeats 4000000 in
set_option maxRecDepth 100000 in
theorem c_X12_least (l : Launch) (D : va_G) (cI cZ cT : ClassId) (x : Int32)  : Met l yX12_least wsX12_least ({ frames := 1, cells := 0, slots := 0, locals := 21 }) (pR D cI cZ cT [.int x] ([])) (QcRead (leastf x 0 6)) 0 0 (fun _ => False) := by
  refine Met.ofW (cc := cX12_least) (maxL := 2) (ret := (some .int)) (by decide) rfl ?_
  intro p e s m args below meth c s₁ B hml hv
  obtain ⟨rfl, hP, hK⟩ := hv
  have hx := B.exec
  have hb := B.bytes
  have hr := B.returns
  have hts := atoms_spec (ws := wsX12_least) B.pre
  have hown : s.vm.findClass RX12 = some m.cls := findClass_of_methodNamed B.named
  have hlocks := B.notSynchronized
  have hl := lv_entry ([.int x]) (n := 2) (Nat.le_of_ble_eq_true rfl)
  rw [lg_entry_eq]
  generalize (lg_sl ([.int x]) ++ List.replicate (2 - (lg_sl ([.int x])).length) Slot.unset).toArray = ls at hl ⊢
  have hl : lv_has ls 2 [(0, .int x)] := hl
  refine lv_iconst (v := (nI 0)) hx hb dX12_least_0 (by decide) ?_
  refine lv_istore_n (lv' := [(1, .int (nI 0)), (0, .int x)]) hx hb dX12_least_1 rfl hl (by decide) rfl (fun ls hl => ?_)
  refine b_loopR (N := 6) (I := fun k ls => lv_has ls 2 [(1, .int (nI (k))), (0, .int x)] ∧ (leastf x 0 6 = leastf x k (6 - k))) (fun k hk ih1 ls hI => ?_) 0 (by omega) ⟨lv_sub hl [0, 1] rfl, rfl⟩
  obtain ⟨hl, hF⟩ := hI
  have hl : lv_has ls 2 [(1, .int (nI (k))), (0, .int x)] := hl
  refine lv_iload_n hx hb dX12_least_2 rfl (lv_at hl 0 rfl) ?_
  refine lv_bipush (v := (nI 6)) hx hb dX12_least_3 (by decide) ?_
  refine b_ge (tgt := 26) hx hb (by omega) (by omega) dX12_least_5 (by decide) (fun c2 => ?_) (fun c2 => ?_)
  · refine lv_iconst (v := 0) hx hb dX12_least_26 (by decide) ?_
    exact b_ret hx hb hr (by rw [hF, show 6 - k = 0 by omega]; rfl) dX12_least_27 hlocks
  · refine lv_iload_n hx hb dX12_least_8 rfl (lv_at hl 1 rfl) ?_
    refine lv_iload_n hx hb dX12_least_9 rfl (lv_at hl 0 rfl) ?_
    refine b_call (va_runS (As := [.int x, .int (nI (k))]) (rest := []) ⟨hx, hb, hml, hown, hts⟩ (c_X12_has l D cI cZ cT x k) (va_cwS 2 hts gX12_least_X12_has rfl rfl rfl (by decide +kernel) ⟨(Nat.le_of_ble_eq_true rfl), (Nat.le_of_ble_eq_true rfl)⟩) (b_pS0 hK) rfl rfl hl.1 rfl (lv_room (Nat.le_of_ble_eq_true rfl)) dX12_least_10 ⟨Nat.zero_le _, Nat.zero_le _⟩).run ?_
    refine b_ifeq (tgt := 20) hx hb dX12_least_13 (by decide) (fun c3 => ?_) (fun c3 => ?_)
    · refine lv_iinc (v := (nI (k + 1))) (lv' := [(1, .int (nI (k + 1))), (0, .int x)]) hx hb dX12_least_20 hl (k := 0) rfl (nI_add _ _) (by decide) rfl (fun ls hl => ?_)
      refine lv_goto (tgt := 2) hx hb dX12_least_23 (by decide) ?_
      exact ih1 (by omega) ls ⟨lv_sub hl [0, 1] rfl, (hF.trans (leastf_no (by omega) c3))⟩
    · refine lv_iconst (v := 1) hx hb dX12_least_16 (by decide) ?_
      refine lv_iload_n hx hb dX12_least_17 rfl (lv_at hl 0 rfl) ?_
      refine lv_ishl hx hb dX12_least_18 ?_
      exact b_ret hx hb hr (by rw [hF, leastf_yes (by omega) c3]) dX12_least_19 hlocks
set_option maxHeartbeats 4000000 in
set_option maxRecDepth 100000 in
theorem c_X12_does (l : Launch) (D : va_G) (cI cZ cT : ClassId) (kd did nt day : Int32)  : Met l yX12_does wsX12_does ({ frames := 2, cells := 0, slots := 0, locals := 42 }) (pR D cI cZ cT [.int kd, .int did, .int nt, .int day] ([])) (QcRead (doesf kd did nt day)) 0 0 (fun _ => False) := by
  refine Met.ofW (cc := cX12_does) (maxL := 6) (ret := (some .int)) (by decide) rfl ?_
  intro p e s m args below meth c s₁ B hml hv
  obtain ⟨rfl, hP, hK⟩ := hv
  have hx := B.exec
  have hb := B.bytes
  have hr := B.returns
  have hts := atoms_spec (ws := wsX12_does) B.pre
  have hown : s.vm.findClass RX12 = some m.cls := findClass_of_methodNamed B.named
  have hlocks := B.notSynchronized
  have hl := lv_entry ([.int kd, .int did, .int nt, .int day]) (n := 6) (Nat.le_of_ble_eq_true rfl)
  rw [lg_entry_eq]
  generalize (lg_sl ([.int kd, .int did, .int nt, .int day]) ++ List.replicate (6 - (lg_sl ([.int kd, .int did, .int nt, .int day])).length) Slot.unset).toArray = ls at hl ⊢
  have hl : lv_has ls 6 [(0, .int kd), (1, .int did), (2, .int nt), (3, .int day)] := hl
  refine lv_iload_n hx hb dX12_does_0 rfl (lv_at hl 2 rfl) ?_
  refine lv_iload_n hx hb dX12_does_1 rfl (lv_at hl 1 rfl) ?_
  refine lv_iconst (v := (-1)) hx hb dX12_does_2 (by decide) ?_
  refine lv_ixor hx hb dX12_does_3 ?_
  refine lv_iand hx hb dX12_does_4 ?_
  refine lv_topi (fun x1 ex1 => ?_)
  refine lv_istore (lv' := [(4, .int x1), (0, .int kd), (1, .int did), (2, .int nt), (3, .int day)]) hx hb dX12_does_5 hl (by decide) rfl (fun ls hl => ?_)
  refine lv_bipush (v := 63) hx hb dX12_does_7 (by decide) ?_
  refine lv_iload_n hx hb dX12_does_9 rfl (lv_at hl 3 rfl) ?_
  refine lv_iconst (v := (-1)) hx hb dX12_does_10 (by decide) ?_
  refine lv_ixor hx hb dX12_does_11 ?_
  refine lv_iand hx hb dX12_does_12 ?_
  refine lv_iload_n hx hb dX12_does_13 rfl (lv_at hl 2 rfl) ?_
  refine lv_iconst (v := (-1)) hx hb dX12_does_14 (by decide) ?_
  refine lv_ixor hx hb dX12_does_15 ?_
  refine lv_iand hx hb dX12_does_16 ?_
  refine lv_topi (fun x2 ex2 => ?_)
  refine lv_istore (lv' := [(5, .int x2), (4, .int x1), (0, .int kd), (1, .int did), (2, .int nt), (3, .int day)]) hx hb dX12_does_17 hl (by decide) rfl (fun ls hl => ?_)
  refine lv_iload_n hx hb dX12_does_19 rfl (lv_at hl 2 rfl) ?_
  by_cases c3 : kd = 1
  · refine lv_tableIn (tgt := 52) hx hb dX12_does_20 (by rw [c3]; decide) (by rw [c3]; decide) (off := 32) (by rw [c3]; decide) (by decide) ?_
    refine lv_iload hx hb dX12_does_52 (lv_at hl 1 rfl) ?_
    refine b_call (va_runS (As := [.int x1]) (rest := []) ⟨hx, hb, hml, hown, hts⟩ (c_X12_least l D cI cZ cT x1) (va_cwS 1 hts gX12_does_X12_least rfl rfl rfl (by decide +kernel) ⟨(Nat.le_of_ble_eq_true rfl), (Nat.le_of_ble_eq_true rfl)⟩) (b_pS0 hK) rfl rfl hl.1 rfl (lv_room (Nat.le_of_ble_eq_true rfl)) dX12_does_54 ⟨Nat.zero_le _, Nat.zero_le _⟩).run ?_
    exact b_ret hx hb hr (by subst ex2; subst ex1; first | (simp only [doesf, eq_true c3, bI, not_true_eq_false, not_false_eq_true, ite_true, ite_false, if_true, if_false, and_self, and_true, true_and, false_and, and_false, or_true, true_or, or_false, false_or, eq_self]; done) | (simp [doesf, eq_true c3, bI]; done)) dX12_does_57 hlocks
  by_cases c4 : kd = 2
  · refine lv_tableIn (tgt := 58) hx hb dX12_does_20 (by rw [c4]; decide) (by rw [c4]; decide) (off := 38) (by rw [c4]; decide) (by decide) ?_
    refine lv_iload hx hb dX12_does_58 (lv_at hl 1 rfl) ?_
    refine b_call (va_runS (As := [.int x1]) (rest := []) ⟨hx, hb, hml, hown, hts⟩ (c_X12_least l D cI cZ cT x1) (va_cwS 1 hts gX12_does_X12_least rfl rfl rfl (by decide +kernel) ⟨(Nat.le_of_ble_eq_true rfl), (Nat.le_of_ble_eq_true rfl)⟩) (b_pS0 hK) rfl rfl hl.1 rfl (lv_room (Nat.le_of_ble_eq_true rfl)) dX12_does_60 ⟨Nat.zero_le _, Nat.zero_le _⟩).run ?_
    refine lv_iload hx hb dX12_does_63 (lv_at hl 1 rfl) ?_
    refine lv_iload hx hb dX12_does_65 (lv_at hl 1 rfl) ?_
    refine b_call (va_runS (As := [.int x1]) (rest := [.int x1, .int (leastf x1 0 6)]) ⟨hx, hb, hml, hown, hts⟩ (c_X12_least l D cI cZ cT x1) (va_cwS 1 hts gX12_does_X12_least rfl rfl rfl (by decide +kernel) ⟨(Nat.le_of_ble_eq_true rfl), (Nat.le_of_ble_eq_true rfl)⟩) (b_pS0 hK) rfl rfl hl.1 rfl (lv_room (Nat.le_of_ble_eq_true rfl)) dX12_does_67 ⟨Nat.zero_le _, Nat.zero_le _⟩).run ?_
    refine lv_iconst (v := (-1)) hx hb dX12_does_70 (by decide) ?_
    refine lv_ixor hx hb dX12_does_71 ?_
    refine lv_iand hx hb dX12_does_72 ?_
    refine b_call (va_runS (As := [.int (x1 &&& ((leastf x1 0 6) ^^^ (-1)))]) (rest := [.int (leastf x1 0 6)]) ⟨hx, hb, hml, hown, hts⟩ (c_X12_least l D cI cZ cT (x1 &&& ((leastf x1 0 6) ^^^ (-1)))) (va_cwS 1 hts gX12_does_X12_least rfl rfl rfl (by decide +kernel) ⟨(Nat.le_of_ble_eq_true rfl), (Nat.le_of_ble_eq_true rfl)⟩) (b_pS0 hK) rfl rfl hl.1 rfl (lv_room (Nat.le_of_ble_eq_true rfl)) dX12_does_73 ⟨Nat.zero_le _, Nat.zero_le _⟩).run ?_
    refine lv_ior hx hb dX12_does_76 ?_
    exact b_ret hx hb hr (by subst ex2; subst ex1; first | (simp only [doesf, eq_false c3, eq_true c4, bI, not_true_eq_false, not_false_eq_true, ite_true, ite_false, if_true, if_false, and_self, and_true, true_and, false_and, and_false, or_true, true_or, or_false, false_or, eq_self]; done) | (simp [doesf, eq_false c3, eq_true c4, bI]; done)) dX12_does_77 hlocks
  by_cases c5 : kd = 3
  · refine lv_tableIn (tgt := 78) hx hb dX12_does_20 (by rw [c5]; decide) (by rw [c5]; decide) (off := 58) (by rw [c5]; decide) (by decide) ?_
    refine lv_iload hx hb dX12_does_78 (lv_at hl 1 rfl) ?_
    refine b_call (va_runS (As := [.int x1]) (rest := []) ⟨hx, hb, hml, hown, hts⟩ (c_X12_ones l D cI cZ cT x1) (va_cwS 1 hts gX12_does_X12_ones rfl rfl rfl (by decide +kernel) ⟨(Nat.le_of_ble_eq_true rfl), (Nat.le_of_ble_eq_true rfl)⟩) (b_pS0 hK) rfl rfl hl.1 rfl (lv_room (Nat.le_of_ble_eq_true rfl)) dX12_does_80 ⟨Nat.zero_le _, Nat.zero_le _⟩).run ?_
    refine lv_iconst (v := 3) hx hb dX12_does_83 (by decide) ?_
    refine lv_icmp_ge (tgt := 95) hx hb dX12_does_84 (by decide) (fun c6 => ?_) (fun c6 => ?_)
    · refine lv_iconst (v := 0) hx hb dX12_does_95 (by decide) ?_
      exact b_ret hx hb hr (by subst ex2; subst ex1; first | (simp only [doesf, eq_false c3, eq_false c4, eq_true c5, eq_true c6, bI, not_true_eq_false, not_false_eq_true, ite_true, ite_false, if_true, if_false, and_self, and_true, true_and, false_and, and_false, or_true, true_or, or_false, false_or, eq_self]; done) | (simp [doesf, eq_false c3, eq_false c4, eq_true c5, eq_true c6, bI]; done)) dX12_does_96 hlocks
    · refine lv_iload hx hb dX12_does_87 (lv_at hl 1 rfl) ?_
      refine b_call (va_runS (As := [.int x1]) (rest := []) ⟨hx, hb, hml, hown, hts⟩ (c_X12_least l D cI cZ cT x1) (va_cwS 1 hts gX12_does_X12_least rfl rfl rfl (by decide +kernel) ⟨(Nat.le_of_ble_eq_true rfl), (Nat.le_of_ble_eq_true rfl)⟩) (b_pS0 hK) rfl rfl hl.1 rfl (lv_room (Nat.le_of_ble_eq_true rfl)) dX12_does_89 ⟨Nat.zero_le _, Nat.zero_le _⟩).run ?_
      refine lv_goto (tgt := 96) hx hb dX12_does_92 (by decide) ?_
      exact b_ret hx hb hr (by subst ex2; subst ex1; first | (simp only [doesf, eq_false c3, eq_false c4, eq_true c5, eq_false c6, bI, not_true_eq_false, not_false_eq_true, ite_true, ite_false, if_true, if_false, and_self, and_true, true_and, false_and, and_false, or_true, true_or, or_false, false_or, eq_self]; done) | (simp [doesf, eq_false c3, eq_false c4, eq_true c5, eq_false c6, bI]; done)) dX12_does_96 hlocks
  by_cases c7 : kd = 4
  · refine lv_tableIn (tgt := 97) hx hb dX12_does_20 (by rw [c7]; decide) (by rw [c7]; decide) (off := 77) (by rw [c7]; decide) (by decide) ?_
    refine lv_iload hx hb dX12_does_97 (lv_at hl 0 rfl) ?_
    refine b_call (va_runS (As := [.int x2]) (rest := []) ⟨hx, hb, hml, hown, hts⟩ (c_X12_least l D cI cZ cT x2) (va_cwS 1 hts gX12_does_X12_least rfl rfl rfl (by decide +kernel) ⟨(Nat.le_of_ble_eq_true rfl), (Nat.le_of_ble_eq_true rfl)⟩) (b_pS0 hK) rfl rfl hl.1 rfl (lv_room (Nat.le_of_ble_eq_true rfl)) dX12_does_99 ⟨Nat.zero_le _, Nat.zero_le _⟩).run ?_
    exact b_ret hx hb hr (by subst ex2; subst ex1; first | (simp only [doesf, eq_false c3, eq_false c4, eq_false c5, eq_true c7, bI, not_true_eq_false, not_false_eq_true, ite_true, ite_false, if_true, if_false, and_self, and_true, true_and, false_and, and_false, or_true, true_or, or_false, false_or, eq_self]; done) | (simp [doesf, eq_false c3, eq_false c4, eq_false c5, eq_true c7, bI]; done)) dX12_does_102 hlocks
  refine lv_tableOut (tgt := 103) hx hb dX12_does_20 (sw_out1_4 c3 c4 c5 c7) (by decide) ?_
  refine lv_iload_n hx hb dX12_does_103 rfl (lv_at hl 5 rfl) ?_
  refine lv_iconst (v := 2) hx hb dX12_does_104 (by decide) ?_
  refine lv_irem hx hb dX12_does_105 (by decide) ?_
  refine lv_if_ne (tgt := 117) hx hb dX12_does_106 (by decide) (fun c8 => ?_) (fun c8 => ?_)
  · refine lv_iconst (v := 0) hx hb dX12_does_117 (by decide) ?_
    exact b_ret hx hb hr (by subst ex2; subst ex1; first | (simp only [doesf, eq_false c3, eq_false c4, eq_false c5, eq_false c7, eq_false c8, bI, not_true_eq_false, not_false_eq_true, ite_true, ite_false, if_true, if_false, and_self, and_true, true_and, false_and, and_false, or_true, true_or, or_false, false_or, eq_self]; done) | (simp [doesf, eq_false c3, eq_false c4, eq_false c5, eq_false c7, eq_false c8, bI]; done)) dX12_does_118 hlocks
  · refine lv_iload hx hb dX12_does_109 (lv_at hl 0 rfl) ?_
    refine b_call (va_runS (As := [.int x2]) (rest := []) ⟨hx, hb, hml, hown, hts⟩ (c_X12_least l D cI cZ cT x2) (va_cwS 1 hts gX12_does_X12_least rfl rfl rfl (by decide +kernel) ⟨(Nat.le_of_ble_eq_true rfl), (Nat.le_of_ble_eq_true rfl)⟩) (b_pS0 hK) rfl rfl hl.1 rfl (lv_room (Nat.le_of_ble_eq_true rfl)) dX12_does_111 ⟨Nat.zero_le _, Nat.zero_le _⟩).run ?_
    refine lv_goto (tgt := 118) hx hb dX12_does_114 (by decide) ?_
    exact b_ret hx hb hr (by subst ex2; subst ex1; first | (simp only [doesf, eq_false c3, eq_false c4, eq_false c5, eq_false c7, eq_true c8, bI, not_true_eq_false, not_false_eq_true, ite_true, ite_false, if_true, if_false, and_self, and_true, true_and, false_and, and_false, or_true, true_or, or_false, false_or, eq_self]; done) | (simp [doesf, eq_false c3, eq_false c4, eq_false c5, eq_false c7, eq_true c8, bI]; done)) dX12_does_118 hlocks
