def m_pmark (nw : Nat → Int32) (r : Nat) (z : Nat × (Nat → Int32)) : Int32 × Nat × (Nat → Int32) :=
  if nw (4 + 4 * r) = 1 then (nI r + ones8 (nw (4 + 4 * r + 1)), m_beg (m_beg z 21) 20)
  else if nw (4 + 4 * r) = 2 then (2 * (nI r + ones8 (nw (4 + 4 * r + 1))), m_beg (m_beg (m_beg z 24) 21) 20)
  else if nw (4 + 4 * r) = 3 then (nI r + ones8 (nw (4 + 4 * r + 1)) - 1000, m_beg (m_beg (m_beg z 22) 21) 20)
  else (nI r + ones8 (nw (4 + 4 * r + 1)), m_beg (m_beg (m_beg z 22) 21) 20)
def m_csize (nw : Nat → Int32) (r : Nat) (z : Nat × (Nat → Int32)) : Int32 × Nat × (Nat → Int32) :=
  if nw (4 + 4 * r) = 5 then (2 * (ones8 (nw (4 + 4 * r + 2)) - 100), m_beg (m_beg (m_beg z 14) 13) 10) else (ones8 (nw (4 + 4 * r + 2)) - 100, m_beg (m_beg z 13) 10)
def m_psize (nw : Nat → Int32) (r : Nat) (z : Nat × (Nat → Int32)) : Int32 × Nat × (Nat → Int32) :=
  if nw (4 + 4 * r) = 2 then (-(ones8 (nw (4 + 4 * r + 2)) + (m_pmark nw r (m_beg (m_beg (m_beg z 12) 11) 10)).1), (m_pmark nw r (m_beg (m_beg (m_beg z 12) 11) 10)).2)
  else (ones8 (nw (4 + 4 * r + 2)) + (m_pmark nw r (m_beg (m_beg z 11) 10)).1, (m_pmark nw r (m_beg (m_beg z 11) 10)).2)
def m_cmark (nw : Nat → Int32) (r : Nat) (z : Nat × (Nat → Int32)) : Int32 × Nat × (Nat → Int32) := (nI r - (m_csize nw r (m_beg (m_beg z 23) 20)).1, (m_csize nw r (m_beg (m_beg z 23) 20)).2)
def m_ask (nw : Nat → Int32) (z : Nat × (Nat → Int32)) (reader what : Int32) : Int32 × Nat × (Nat → Int32) :=
  if ¬ isR nw reader then (-1000001, z) else if ¬ cho what then (-1000001, z)
  else if what = 0 then (if ¬ nw (4 + 4 * tn reader) < 4 then m_csize nw (tn reader) (0, z.2) else m_psize nw (tn reader) (0, z.2))
  else (if ¬ nw (4 + 4 * tn reader) < 4 then m_cmark nw (tn reader) (0, z.2) else m_pmark nw (tn reader) (0, z.2))
theorem m_pmark_le {nw : Nat → Int32} {r : Nat} {z : Nat × (Nat → Int32)} (h : z.1 ≤ 16) : (m_pmark nw r z).2.1 ≤ 16 := by
  unfold m_pmark
  split
  · exact m_beg_le (m_beg_le h)
  · split
    · exact m_beg_le (m_beg_le (m_beg_le h))
    · split <;> exact m_beg_le (m_beg_le (m_beg_le h))
theorem m_csize_le {nw : Nat → Int32} {r : Nat} {z : Nat × (Nat → Int32)} (h : z.1 ≤ 16) : (m_csize nw r z).2.1 ≤ 16 := by
  unfold m_csize; split
  · exact m_beg_le (m_beg_le (m_beg_le h))
  · exact m_beg_le (m_beg_le h)
theorem m_psize_le {nw : Nat → Int32} {r : Nat} {z : Nat × (Nat → Int32)} (h : z.1 ≤ 16) : (m_psize nw r z).2.1 ≤ 16 := by
  unfold m_psize; split
  · exact m_pmark_le (m_beg_le (m_beg_le (m_beg_le h)))
  · exact m_pmark_le (m_beg_le (m_beg_le h))
theorem m_cmark_le {nw : Nat → Int32} {r : Nat} {z : Nat × (Nat → Int32)} (h : z.1 ≤ 16) : (m_cmark nw r z).2.1 ≤ 16 := m_csize_le (m_beg_le (m_beg_le h))
theorem m_ask_le {nw : Nat → Int32} {z : Nat × (Nat → Int32)} {reader what : Int32} (h : z.1 ≤ 16) : (m_ask nw z reader what).2.1 ≤ 16 := by
  have h0 : ((0, z.2) : Nat × (Nat → Int32)).1 ≤ 16 := Nat.zero_le 16
  unfold m_ask
  split
  · exact h
  · split
    · exact h
    · split
      · split
        · exact m_csize_le h0
        · exact m_psize_le h0
      · split
        · exact m_cmark_le h0
        · exact m_pmark_le h0
def m_trace (zr : Nat) (tc : Nat → Int32) (i : Int32) : Int32 := if ¬ (¬ i < 0 ∧ ¬ nI zr - 1 < i) then -1000000 else tc (tn i)
def rwF (la : Nat → Int32) (k : Nat) : Int32 := itr (fun j x => x + (if la j = -1000000 then 0 else 1)) k 0
def trF (nw : Nat → Int32) (k : Nat) : Int32 := itr (fun j x => x + (if fsI nw j 0 = 0 then 1 else 0)) k 0
def m_count (nw la : Nat → Int32) (n nc t : Nat) (what : Int32) : Int32 :=
  if what = 0 then rwF la 8 else if what = 1 then nw 3 else if what = 2 then ones8 (lvI nw n) else if what = 3 then nw 2 else if what = 4 then nw 1 else if what = 5 then trF nw n else if what = 6 then nI nc else if what = 7 then nI t else -1000001
theorem u_X12_proudMark_X12 : ∀ w ∈ wsX120, w ∈ wsX12_proudMark := fun _ h => List.mem_cons_of_mem _ (List.mem_append_right _ h)
set_option maxHeartbeats 4000000 in
set_option maxRecDepth 100000 in
theorem c_X12_proudMark (l : Launch) (D : va_G) (cI cZ cT : ClassId) (A0 : Nat → Nat) (ss tp fk fp ap sp tk vl ac : Int32) (la ma it sr bt nw dr pa im kp : Nat → Int32) (σ : Nat × (Nat → Int32)) (r : Nat) (hr_ : r ≤ 5) (hz : σ.1 ≤ 16) : Met l yX12_proudMark wsX12_proudMark ({ frames := 1, cells := 0, slots := 0, locals := 22 }) (pM D cI cZ cT [.ref (A0 0), .int (nI (r))] (wM cI cZ A0 ss tp fk fp ap sp tk vl ac (nI σ.1) la ma it sr bt nw dr pa im kp σ.2)) (qM D (some (.int ((m_pmark nw r σ).1))) (wM cI cZ A0 ss tp fk fp ap sp tk vl ac (nI (m_pmark nw r σ).2.1) la ma it sr bt nw dr pa im kp ((m_pmark nw r σ).2.2)) (adr (wM cI cZ A0 ss tp fk fp ap sp tk vl ac (nI σ.1) la ma it sr bt nw dr pa im kp σ.2))) 0 0 (adr (wM cI cZ A0 ss tp fk fp ap sp tk vl ac (nI σ.1) la ma it sr bt nw dr pa im kp σ.2)) := by
  refine Met.ofW (cc := cX12_proudMark) (maxL := 4) (ret := (some .int)) (by decide) rfl ?_
  intro p e s m args below meth c s₁ B hml hv
  obtain ⟨rfl, hP, hD0, hK⟩ := hv
  have hx := B.exec
  have hb := B.bytes
  have hr := B.returns
  have hts := atoms_spec (ws := wsX12_proudMark) B.pre
  have hown : s.vm.findClass RX12 = some m.cls := findClass_of_methodNamed B.named
  have hlocks := B.notSynchronized
  have hD := hD0.toAdr
  have hS : va_S (adr (wM cI cZ A0 ss tp fk fp ap sp tk vl ac (nI σ.1) la ma it sr bt nw dr pa im kp σ.2)) s.heap s.heap [] := va_S.rf
  generalize adr (wM cI cZ A0 ss tp fk fp ap sp tk vl ac (nI σ.1) la ma it sr bt nw dr pa im kp σ.2) = A at hD hS ⊢
  have hl := lv_entry ([.ref (A0 0), .int (nI (r))]) (n := 4) (Nat.le_of_ble_eq_true rfl)
  rw [lg_entry_eq]
  generalize (lg_sl ([.ref (A0 0), .int (nI (r))]) ++ List.replicate (4 - (lg_sl ([.ref (A0 0), .int (nI (r))])).length) Slot.unset).toArray = ls at hl ⊢
  have hl : lv_has ls 4 [(0, .ref (A0 0)), (1, .int (nI (r)))] := hl
  refine lv_aload_n hx hb dX12_proudMark_0 rfl (lv_at hl 0 rfl) ?_
  refine lv_iload_n hx hb dX12_proudMark_1 rfl (lv_at hl 1 rfl) ?_
  refine b_call (va_runV (As := [.int (nI (r))]) (rest := []) ⟨hx, hb, hml, hown, hts⟩ (c_X12_kindIn l D cI cZ cT A0 ss tp fk fp ap sp tk vl ac (nI σ.1) la ma it sr bt nw dr pa im kp σ.2 r hr_) (cwV 1 hts gX12_proudMark_X12_kindIn rfl rfl rfl (by decide +kernel) ⟨(Nat.le_of_ble_eq_true rfl), (Nat.le_of_ble_eq_true rfl)⟩) (b_pV hK hP [0, 1, 2, 3, 4, 5, 6, 7, 8, 9, 10, 11] rfl 0 rfl rfl) rfl rfl hl.1 rfl (lv_room (Nat.le_of_ble_eq_true rfl)) dX12_proudMark_2 ⟨Nat.zero_le _, Nat.zero_le _⟩).run ?_
  refine lv_topi (fun x1 ex1 => ?_)
  refine lv_istore_n (lv' := [(2, .int x1), (0, .ref (A0 0)), (1, .int (nI (r)))]) hx hb dX12_proudMark_5 rfl hl (by decide) rfl (fun ls hl => ?_)
  refine lv_iload_n hx hb dX12_proudMark_6 rfl (lv_at hl 0 rfl) ?_
  refine lv_iconst (v := 1) hx hb dX12_proudMark_7 (by decide) ?_
  refine lv_icmp_eq (tgt := 27) hx hb dX12_proudMark_8 (by decide) (fun c2 => ?_) (fun c2 => ?_)
  · refine lv_aload_n hx hb dX12_proudMark_27 rfl (lv_at hl 1 rfl) ?_
    refine lv_bipush (v := 21) hx hb dX12_proudMark_28 (by decide) ?_
    refine b_callM [0, 1, 2, 3, 4, 5, 6, 7, 8, 9, 10, 11] (va_runV (As := [.int 21]) (rest := []) ⟨hx, hb, hml, hown, hts⟩ (c_X12_begins l D cI cZ cT A0 ss tp fk fp ap sp tk vl ac la ma it sr bt nw dr pa im kp σ 21 hz) (cwV 1 hts gX12_proudMark_X12_begins rfl rfl rfl (by decide +kernel) ⟨(Nat.le_of_ble_eq_true rfl), (Nat.le_of_ble_eq_true rfl)⟩) (b_pVM hK hP hD [0, 1, 2, 3, 4, 5, 6, 7, 8, 9, 10, 11] (by decide) rfl rfl 0 rfl rfl) rfl rfl hl.1 rfl (lv_room (Nat.le_of_ble_eq_true rfl)) dX12_proudMark_30 ⟨Nat.zero_le _, Nat.zero_le _⟩).run hP hD hS rfl (Nat.le_of_ble_eq_true rfl) (fun H locs hP hS => ?_)
    have hP : va_P D vwCl (wM cI cZ A0 ss tp fk fp ap sp tk vl ac (nI (m_beg σ 21).1) la ma it sr bt nw dr pa im kp ((m_beg σ 21).2)) H := hP
    generalize eq30 : m_beg σ 21 = q30 at hP ⊢
    have hP : va_P D vwCl (wM cI cZ A0 ss tp fk fp ap sp tk vl ac (nI q30.1) la ma it sr bt nw dr pa im kp q30.2) H := hP
    have hD : va_D A (wM cI cZ A0 ss tp fk fp ap sp tk vl ac (nI q30.1) la ma it sr bt nw dr pa im kp q30.2) := hD.sameA [(A0 0), (A0 1), (A0 2), (A0 3), (A0 4), (A0 5), (A0 6), (A0 7), (A0 8), (A0 9), (A0 10), (A0 11)] rfl rfl
    have hq30 : q30.1 ≤ 16 := by rw [← eq30]; exact m_beg_le hz
    refine lv_aload_n hx hb dX12_proudMark_33 rfl (lv_at hl 1 rfl) ?_
    refine lv_bipush (v := 20) hx hb dX12_proudMark_34 (by decide) ?_
    refine b_callM [0, 1, 2, 3, 4, 5, 6, 7, 8, 9, 10, 11] (va_runV (As := [.int 20]) (rest := []) ⟨hx, hb, hml, hown, hts⟩ (c_X12_begins l D cI cZ cT A0 ss tp fk fp ap sp tk vl ac la ma it sr bt nw dr pa im kp q30 20 hq30) (cwV 1 hts gX12_proudMark_X12_begins rfl rfl rfl (by decide +kernel) ⟨(Nat.le_of_ble_eq_true rfl), (Nat.le_of_ble_eq_true rfl)⟩) (b_pVM hK hP hD [0, 1, 2, 3, 4, 5, 6, 7, 8, 9, 10, 11] (by decide) rfl rfl 0 rfl rfl) rfl rfl hl.1 rfl (lv_room (Nat.le_of_ble_eq_true rfl)) dX12_proudMark_36 ⟨Nat.zero_le _, Nat.zero_le _⟩).run hP hD hS rfl (Nat.le_of_ble_eq_true rfl) (fun H locs hP hS => ?_)
    have hP : va_P D vwCl (wM cI cZ A0 ss tp fk fp ap sp tk vl ac (nI (m_beg q30 20).1) la ma it sr bt nw dr pa im kp ((m_beg q30 20).2)) H := hP
    generalize eq36 : m_beg q30 20 = q36 at hP ⊢
    have hP : va_P D vwCl (wM cI cZ A0 ss tp fk fp ap sp tk vl ac (nI q36.1) la ma it sr bt nw dr pa im kp q36.2) H := hP
    have hD : va_D A (wM cI cZ A0 ss tp fk fp ap sp tk vl ac (nI q36.1) la ma it sr bt nw dr pa im kp q36.2) := hD.sameA [(A0 0), (A0 1), (A0 2), (A0 3), (A0 4), (A0 5), (A0 6), (A0 7), (A0 8), (A0 9), (A0 10), (A0 11)] rfl rfl
    have hq36 : q36.1 ≤ 16 := by rw [← eq36]; exact m_beg_le hq30
    refine lv_iload_n hx hb dX12_proudMark_39 rfl (lv_at hl 2 rfl) ?_
    refine lv_aload_n hx hb dX12_proudMark_40 rfl (lv_at hl 1 rfl) ?_
    refine va_get (D := D) (ci := 11) (v := .ref (A0 6)) (C := RX12) (T := TX12) (N := 21) hx hb hts u_X12_proudMark_X12 hown hK.1 hP 0 rfl rfl 13 (by decide) (hts (.fieldLink RX12 25 "NoticeWeekModel" "now" "[I") (List.mem_of_getElem? (i := 1) rfl)) (fun _ h9 => h9) rfl dX12_proudMark_41 ?_
    refine lv_iconst (v := (nI 4)) hx hb dX12_proudMark_44 (by decide) ?_
    refine lv_iconst (v := (nI 4)) hx hb dX12_proudMark_45 (by decide) ?_
    refine lv_iload_n hx hb dX12_proudMark_46 rfl (lv_at hl 2 rfl) ?_
    refine b_mul hx hb dX12_proudMark_47 ?_
    refine b_add hx hb dX12_proudMark_48 ?_
    refine lv_iconst (v := (nI 1)) hx hb dX12_proudMark_49 (by decide) ?_
    refine b_add hx hb dX12_proudMark_50 ?_
    refine b_ald hx hb hK hP 6 rfl (by omega) (by decide) dX12_proudMark_51 ?_
    refine b_call (va_runS (As := [.int (nw (4 + (4 * r) + 1))]) (rest := [.int (nI (r))]) ⟨hx, hb, hml, hown, hts⟩ (c_X12_ones l D cI cZ cT (nw (4 + (4 * r) + 1))) (va_cwS 1 hts gX12_proudMark_X12_ones rfl rfl rfl (by decide +kernel) ⟨(Nat.le_of_ble_eq_true rfl), (Nat.le_of_ble_eq_true rfl)⟩) (b_pS0 hK) rfl rfl hl.1 rfl (lv_room (Nat.le_of_ble_eq_true rfl)) dX12_proudMark_52 ⟨Nat.zero_le _, Nat.zero_le _⟩).run ?_
    refine lv_iadd hx hb dX12_proudMark_55 ?_
    refine lv_topi (fun x3 ex3 => ?_)
    refine lv_istore_n (lv' := [(3, .int x3), (2, .int x1), (0, .ref (A0 0)), (1, .int (nI (r)))]) hx hb dX12_proudMark_56 rfl hl (by decide) rfl (fun ls hl => ?_)
    refine lv_iload_n hx hb dX12_proudMark_57 rfl (lv_at hl 1 rfl) ?_
    refine lv_iconst (v := 2) hx hb dX12_proudMark_58 (by decide) ?_
    refine lv_icmp_ne (tgt := 68) hx hb dX12_proudMark_59 (by decide) (fun c4 => ?_) (fun c4 => ?_)
    · refine lv_iload_n hx hb dX12_proudMark_68 rfl (lv_at hl 1 rfl) ?_
      refine lv_iconst (v := 3) hx hb dX12_proudMark_69 (by decide) ?_
      refine lv_icmp_ne (tgt := 81) hx hb dX12_proudMark_70 (by decide) (fun c5 => ?_) (fun c5 => ?_)
      · refine lv_iload_n hx hb dX12_proudMark_81 rfl (lv_at hl 0 rfl) ?_
        have E : m_pmark nw r σ = (x3, q36) := (by subst ex3; subst ex1; rw [← eq36, ← eq30]; first | (simp only [m_pmark, eq_true c2, eq_false c4, eq_false c5, not_true_eq_false, not_false_eq_true, ite_true, ite_false, if_true, if_false, and_self, and_true, true_and, false_and, and_false, or_true, true_or, or_false, false_or]; done))
        rw [E]
        exact b_retM hx hb hr hP hS rfl dX12_proudMark_82 hlocks
      · refine lv_iload_n hx hb dX12_proudMark_73 rfl (lv_at hl 0 rfl) ?_
        refine lv_sipush (v := 1000) hx hb dX12_proudMark_74 (by decide) ?_
        refine lv_isub hx hb dX12_proudMark_77 ?_
        refine lv_goto (tgt := 82) hx hb dX12_proudMark_78 (by decide) ?_
        have E : m_pmark nw r σ = ((x3 - 1000), q36) := (by subst ex3; subst ex1; rw [← eq36, ← eq30]; first | (simp only [m_pmark, eq_true c2, eq_false c4, eq_true c5, not_true_eq_false, not_false_eq_true, ite_true, ite_false, if_true, if_false, and_self, and_true, true_and, false_and, and_false, or_true, true_or, or_false, false_or]; done) | exact absurd (c2.symm.trans c5) (by decide))
        rw [E]
        exact b_retM hx hb hr hP hS rfl dX12_proudMark_82 hlocks
    · refine lv_iconst (v := 2) hx hb dX12_proudMark_62 (by decide) ?_
      refine lv_iload_n hx hb dX12_proudMark_63 rfl (lv_at hl 0 rfl) ?_
      refine lv_imul hx hb dX12_proudMark_64 ?_
      refine lv_goto (tgt := 82) hx hb dX12_proudMark_65 (by decide) ?_
      have E : m_pmark nw r σ = ((2 * x3), q36) := (by subst ex3; subst ex1; rw [← eq36, ← eq30]; first | (simp only [m_pmark, eq_true c2, eq_true c4, not_true_eq_false, not_false_eq_true, ite_true, ite_false, if_true, if_false, and_self, and_true, true_and, false_and, and_false, or_true, true_or, or_false, false_or]; done) | exact absurd (c2.symm.trans c4) (by decide))
      rw [E]
      exact b_retM hx hb hr hP hS rfl dX12_proudMark_82 hlocks
  · refine lv_aload_n hx hb dX12_proudMark_11 rfl (lv_at hl 1 rfl) ?_
    refine b_join (jpc := 24) (rest' := [.ref (A0 0)]) (P := fun v : Int32 => v = ((if x1 = 2 then 24 else 22) : Int32)) (fun v6 ev6 => ?_) (fun K7 => ?_)
    · subst ev6
      refine b_callM [0, 1, 2, 3, 4, 5, 6, 7, 8, 9, 10, 11] (va_runV (As := [.int (if x1 = 2 then 24 else 22)]) (rest := []) ⟨hx, hb, hml, hown, hts⟩ (c_X12_begins l D cI cZ cT A0 ss tp fk fp ap sp tk vl ac la ma it sr bt nw dr pa im kp σ (if x1 = 2 then 24 else 22) hz) (cwV 1 hts gX12_proudMark_X12_begins rfl rfl rfl (by decide +kernel) ⟨(Nat.le_of_ble_eq_true rfl), (Nat.le_of_ble_eq_true rfl)⟩) (b_pVM hK hP hD [0, 1, 2, 3, 4, 5, 6, 7, 8, 9, 10, 11] (by decide) rfl rfl 0 rfl rfl) rfl rfl hl.1 rfl (lv_room (Nat.le_of_ble_eq_true rfl)) dX12_proudMark_24 ⟨Nat.zero_le _, Nat.zero_le _⟩).run hP hD hS rfl (Nat.le_of_ble_eq_true rfl) (fun H locs hP hS => ?_)
      have hP : va_P D vwCl (wM cI cZ A0 ss tp fk fp ap sp tk vl ac (nI (m_beg σ (if x1 = 2 then 24 else 22)).1) la ma it sr bt nw dr pa im kp ((m_beg σ (if x1 = 2 then 24 else 22)).2)) H := hP
      generalize eq24 : m_beg σ (if x1 = 2 then 24 else 22) = q24 at hP ⊢
      have hP : va_P D vwCl (wM cI cZ A0 ss tp fk fp ap sp tk vl ac (nI q24.1) la ma it sr bt nw dr pa im kp q24.2) H := hP
      have hD : va_D A (wM cI cZ A0 ss tp fk fp ap sp tk vl ac (nI q24.1) la ma it sr bt nw dr pa im kp q24.2) := hD.sameA [(A0 0), (A0 1), (A0 2), (A0 3), (A0 4), (A0 5), (A0 6), (A0 7), (A0 8), (A0 9), (A0 10), (A0 11)] rfl rfl
      have hq24 : q24.1 ≤ 16 := by rw [← eq24]; exact m_beg_le hz
      refine lv_aload_n hx hb dX12_proudMark_27 rfl (lv_at hl 1 rfl) ?_
      refine lv_bipush (v := 21) hx hb dX12_proudMark_28 (by decide) ?_
      refine b_callM [0, 1, 2, 3, 4, 5, 6, 7, 8, 9, 10, 11] (va_runV (As := [.int 21]) (rest := []) ⟨hx, hb, hml, hown, hts⟩ (c_X12_begins l D cI cZ cT A0 ss tp fk fp ap sp tk vl ac la ma it sr bt nw dr pa im kp q24 21 hq24) (cwV 1 hts gX12_proudMark_X12_begins rfl rfl rfl (by decide +kernel) ⟨(Nat.le_of_ble_eq_true rfl), (Nat.le_of_ble_eq_true rfl)⟩) (b_pVM hK hP hD [0, 1, 2, 3, 4, 5, 6, 7, 8, 9, 10, 11] (by decide) rfl rfl 0 rfl rfl) rfl rfl hl.1 rfl (lv_room (Nat.le_of_ble_eq_true rfl)) dX12_proudMark_30 ⟨Nat.zero_le _, Nat.zero_le _⟩).run hP hD hS rfl (Nat.le_of_ble_eq_true rfl) (fun H locs hP hS => ?_)
      have hP : va_P D vwCl (wM cI cZ A0 ss tp fk fp ap sp tk vl ac (nI (m_beg q24 21).1) la ma it sr bt nw dr pa im kp ((m_beg q24 21).2)) H := hP
      generalize eq30 : m_beg q24 21 = q30 at hP ⊢
      have hP : va_P D vwCl (wM cI cZ A0 ss tp fk fp ap sp tk vl ac (nI q30.1) la ma it sr bt nw dr pa im kp q30.2) H := hP
      have hD : va_D A (wM cI cZ A0 ss tp fk fp ap sp tk vl ac (nI q30.1) la ma it sr bt nw dr pa im kp q30.2) := hD.sameA [(A0 0), (A0 1), (A0 2), (A0 3), (A0 4), (A0 5), (A0 6), (A0 7), (A0 8), (A0 9), (A0 10), (A0 11)] rfl rfl
      have hq30 : q30.1 ≤ 16 := by rw [← eq30]; exact m_beg_le hq24
      refine lv_aload_n hx hb dX12_proudMark_33 rfl (lv_at hl 1 rfl) ?_
      refine lv_bipush (v := 20) hx hb dX12_proudMark_34 (by decide) ?_
      refine b_callM [0, 1, 2, 3, 4, 5, 6, 7, 8, 9, 10, 11] (va_runV (As := [.int 20]) (rest := []) ⟨hx, hb, hml, hown, hts⟩ (c_X12_begins l D cI cZ cT A0 ss tp fk fp ap sp tk vl ac la ma it sr bt nw dr pa im kp q30 20 hq30) (cwV 1 hts gX12_proudMark_X12_begins rfl rfl rfl (by decide +kernel) ⟨(Nat.le_of_ble_eq_true rfl), (Nat.le_of_ble_eq_true rfl)⟩) (b_pVM hK hP hD [0, 1, 2, 3, 4, 5, 6, 7, 8, 9, 10, 11] (by decide) rfl rfl 0 rfl rfl) rfl rfl hl.1 rfl (lv_room (Nat.le_of_ble_eq_true rfl)) dX12_proudMark_36 ⟨Nat.zero_le _, Nat.zero_le _⟩).run hP hD hS rfl (Nat.le_of_ble_eq_true rfl) (fun H locs hP hS => ?_)
      have hP : va_P D vwCl (wM cI cZ A0 ss tp fk fp ap sp tk vl ac (nI (m_beg q30 20).1) la ma it sr bt nw dr pa im kp ((m_beg q30 20).2)) H := hP
      generalize eq36 : m_beg q30 20 = q36 at hP ⊢
      have hP : va_P D vwCl (wM cI cZ A0 ss tp fk fp ap sp tk vl ac (nI q36.1) la ma it sr bt nw dr pa im kp q36.2) H := hP
      have hD : va_D A (wM cI cZ A0 ss tp fk fp ap sp tk vl ac (nI q36.1) la ma it sr bt nw dr pa im kp q36.2) := hD.sameA [(A0 0), (A0 1), (A0 2), (A0 3), (A0 4), (A0 5), (A0 6), (A0 7), (A0 8), (A0 9), (A0 10), (A0 11)] rfl rfl
      have hq36 : q36.1 ≤ 16 := by rw [← eq36]; exact m_beg_le hq30
      refine lv_iload_n hx hb dX12_proudMark_39 rfl (lv_at hl 2 rfl) ?_
      refine lv_aload_n hx hb dX12_proudMark_40 rfl (lv_at hl 1 rfl) ?_
      refine va_get (D := D) (ci := 11) (v := .ref (A0 6)) (C := RX12) (T := TX12) (N := 21) hx hb hts u_X12_proudMark_X12 hown hK.1 hP 0 rfl rfl 13 (by decide) (hts (.fieldLink RX12 25 "NoticeWeekModel" "now" "[I") (List.mem_of_getElem? (i := 1) rfl)) (fun _ h9 => h9) rfl dX12_proudMark_41 ?_
      refine lv_iconst (v := (nI 4)) hx hb dX12_proudMark_44 (by decide) ?_
      refine lv_iconst (v := (nI 4)) hx hb dX12_proudMark_45 (by decide) ?_
      refine lv_iload_n hx hb dX12_proudMark_46 rfl (lv_at hl 2 rfl) ?_
      refine b_mul hx hb dX12_proudMark_47 ?_
      refine b_add hx hb dX12_proudMark_48 ?_
      refine lv_iconst (v := (nI 1)) hx hb dX12_proudMark_49 (by decide) ?_
      refine b_add hx hb dX12_proudMark_50 ?_
      refine b_ald hx hb hK hP 6 rfl (by omega) (by decide) dX12_proudMark_51 ?_
      refine b_call (va_runS (As := [.int (nw (4 + (4 * r) + 1))]) (rest := [.int (nI (r))]) ⟨hx, hb, hml, hown, hts⟩ (c_X12_ones l D cI cZ cT (nw (4 + (4 * r) + 1))) (va_cwS 1 hts gX12_proudMark_X12_ones rfl rfl rfl (by decide +kernel) ⟨(Nat.le_of_ble_eq_true rfl), (Nat.le_of_ble_eq_true rfl)⟩) (b_pS0 hK) rfl rfl hl.1 rfl (lv_room (Nat.le_of_ble_eq_true rfl)) dX12_proudMark_52 ⟨Nat.zero_le _, Nat.zero_le _⟩).run ?_
      refine lv_iadd hx hb dX12_proudMark_55 ?_
      refine lv_topi (fun x8 ex8 => ?_)
      refine lv_istore_n (lv' := [(3, .int x8), (2, .int x1), (0, .ref (A0 0)), (1, .int (nI (r)))]) hx hb dX12_proudMark_56 rfl hl (by decide) rfl (fun ls hl => ?_)
      refine lv_iload_n hx hb dX12_proudMark_57 rfl (lv_at hl 1 rfl) ?_
      refine lv_iconst (v := 2) hx hb dX12_proudMark_58 (by decide) ?_
      refine lv_icmp_ne (tgt := 68) hx hb dX12_proudMark_59 (by decide) (fun c9 => ?_) (fun c9 => ?_)
      · refine lv_iload_n hx hb dX12_proudMark_68 rfl (lv_at hl 1 rfl) ?_
        refine lv_iconst (v := 3) hx hb dX12_proudMark_69 (by decide) ?_
        refine lv_icmp_ne (tgt := 81) hx hb dX12_proudMark_70 (by decide) (fun c10 => ?_) (fun c10 => ?_)
        · refine lv_iload_n hx hb dX12_proudMark_81 rfl (lv_at hl 0 rfl) ?_
          have E : m_pmark nw r σ = (x8, q36) := (by subst ex8; subst ex1; rw [← eq36, ← eq30, ← eq24]; first | (simp only [m_pmark, eq_false c2, eq_false c9, eq_false c10, not_true_eq_false, not_false_eq_true, ite_true, ite_false, if_true, if_false, and_self, and_true, true_and, false_and, and_false, or_true, true_or, or_false, false_or]; done))
          rw [E]
          exact b_retM hx hb hr hP hS rfl dX12_proudMark_82 hlocks
        · refine lv_iload_n hx hb dX12_proudMark_73 rfl (lv_at hl 0 rfl) ?_
          refine lv_sipush (v := 1000) hx hb dX12_proudMark_74 (by decide) ?_
          refine lv_isub hx hb dX12_proudMark_77 ?_
          refine lv_goto (tgt := 82) hx hb dX12_proudMark_78 (by decide) ?_
          have E : m_pmark nw r σ = ((x8 - 1000), q36) := (by subst ex8; subst ex1; rw [← eq36, ← eq30, ← eq24]; first | (simp only [m_pmark, eq_false c2, eq_false c9, eq_true c10, not_true_eq_false, not_false_eq_true, ite_true, ite_false, if_true, if_false, and_self, and_true, true_and, false_and, and_false, or_true, true_or, or_false, false_or]; done))
          rw [E]
          exact b_retM hx hb hr hP hS rfl dX12_proudMark_82 hlocks
      · refine lv_iconst (v := 2) hx hb dX12_proudMark_62 (by decide) ?_
        refine lv_iload_n hx hb dX12_proudMark_63 rfl (lv_at hl 0 rfl) ?_
        refine lv_imul hx hb dX12_proudMark_64 ?_
        refine lv_goto (tgt := 82) hx hb dX12_proudMark_65 (by decide) ?_
        have E : m_pmark nw r σ = ((2 * x8), q36) := (by subst ex8; subst ex1; rw [← eq36, ← eq30, ← eq24]; first | (simp only [m_pmark, eq_false c2, eq_true c9, not_true_eq_false, not_false_eq_true, ite_true, ite_false, if_true, if_false, and_self, and_true, true_and, false_and, and_false, or_true, true_or, or_false, false_or]; done))
        rw [E]
        exact b_retM hx hb hr hP hS rfl dX12_proudMark_82 hlocks
    · refine lv_iload_n hx hb dX12_proudMark_12 rfl (lv_at hl 0 rfl) ?_
      refine lv_iconst (v := 2) hx hb dX12_proudMark_13 (by decide) ?_
      refine lv_icmp_ne (tgt := 22) hx hb dX12_proudMark_14 (by decide) (fun c11 => ?_) (fun c11 => ?_)
      · refine lv_bipush (v := 22) hx hb dX12_proudMark_22 (by decide) ?_
        exact K7 _ (by first | with_reducible rfl | (simp only [bI, eq_false c2, eq_false c11, not_true_eq_false, not_false_eq_true, ite_true, ite_false, if_true, if_false, and_self, and_true, true_and, false_and, and_false, or_true, true_or, or_false, false_or]; done) | (simp [bI, eq_false c2, eq_false c11]; done) | omega)
      · refine lv_bipush (v := 24) hx hb dX12_proudMark_17 (by decide) ?_
        refine lv_goto (tgt := 24) hx hb dX12_proudMark_19 (by decide) ?_
        exact K7 _ (by first | with_reducible rfl | (simp only [bI, eq_false c2, eq_true c11, not_true_eq_false, not_false_eq_true, ite_true, ite_false, if_true, if_false, and_self, and_true, true_and, false_and, and_false, or_true, true_or, or_false, false_or]; done) | (simp [bI, eq_false c2, eq_true c11]; done) | omega)
theorem u_X12_crossSize_X12 : ∀ w ∈ wsX120, w ∈ wsX12_crossSize := fun _ h => List.mem_cons_of_mem _ (List.mem_append_right _ h)
set_option maxHeartbeats 4000000 in
set_option maxRecDepth 100000 in
theorem c_X12_crossSize (l : Launch) (D : va_G) (cI cZ cT : ClassId) (A0 : Nat → Nat) (ss tp fk fp ap sp tk vl ac : Int32) (la ma it sr bt nw dr pa im kp : Nat → Int32) (σ : Nat × (Nat → Int32)) (r : Nat) (hr_ : r ≤ 5) (hz : σ.1 ≤ 16) : Met l yX12_crossSize wsX12_crossSize ({ frames := 1, cells := 0, slots := 0, locals := 22 }) (pM D cI cZ cT [.ref (A0 0), .int (nI (r))] (wM cI cZ A0 ss tp fk fp ap sp tk vl ac (nI σ.1) la ma it sr bt nw dr pa im kp σ.2)) (qM D (some (.int ((m_csize nw r σ).1))) (wM cI cZ A0 ss tp fk fp ap sp tk vl ac (nI (m_csize nw r σ).2.1) la ma it sr bt nw dr pa im kp ((m_csize nw r σ).2.2)) (adr (wM cI cZ A0 ss tp fk fp ap sp tk vl ac (nI σ.1) la ma it sr bt nw dr pa im kp σ.2))) 0 0 (adr (wM cI cZ A0 ss tp fk fp ap sp tk vl ac (nI σ.1) la ma it sr bt nw dr pa im kp σ.2)) := by
  refine Met.ofW (cc := cX12_crossSize) (maxL := 4) (ret := (some .int)) (by decide) rfl ?_
  intro p e s m args below meth c s₁ B hml hv
  obtain ⟨rfl, hP, hD0, hK⟩ := hv
  have hx := B.exec
  have hb := B.bytes
  have hr := B.returns
  have hts := atoms_spec (ws := wsX12_crossSize) B.pre
  have hown : s.vm.findClass RX12 = some m.cls := findClass_of_methodNamed B.named
  have hlocks := B.notSynchronized
  have hD := hD0.toAdr
  have hS : va_S (adr (wM cI cZ A0 ss tp fk fp ap sp tk vl ac (nI σ.1) la ma it sr bt nw dr pa im kp σ.2)) s.heap s.heap [] := va_S.rf
  generalize adr (wM cI cZ A0 ss tp fk fp ap sp tk vl ac (nI σ.1) la ma it sr bt nw dr pa im kp σ.2) = A at hD hS ⊢
  have hl := lv_entry ([.ref (A0 0), .int (nI (r))]) (n := 4) (Nat.le_of_ble_eq_true rfl)
  rw [lg_entry_eq]
  generalize (lg_sl ([.ref (A0 0), .int (nI (r))]) ++ List.replicate (4 - (lg_sl ([.ref (A0 0), .int (nI (r))])).length) Slot.unset).toArray = ls at hl ⊢
  have hl : lv_has ls 4 [(0, .ref (A0 0)), (1, .int (nI (r)))] := hl
  refine b_join (jpc := 14) (rest' := []) (P := fun v : Int32 => v = ((bI (nw (4 + 4 * r) = 5)) : Int32)) (fun v1 ev1 => ?_) (fun K2 => ?_)
  · subst ev1
    refine lv_istore_n (lv' := [(2, .int (bI (nw (4 + 4 * r) = 5))), (0, .ref (A0 0)), (1, .int (nI (r)))]) hx hb dX12_crossSize_14 rfl hl (by decide) rfl (fun ls hl => ?_)
    refine lv_iload_n hx hb dX12_crossSize_15 rfl (lv_at hl 0 rfl) ?_
    refine b_ifeq (tgt := 25) hx hb dX12_crossSize_16 (by decide) (fun c3 => ?_) (fun c3 => ?_)
    · refine lv_aload_n hx hb dX12_crossSize_25 rfl (lv_at hl 1 rfl) ?_
      refine lv_bipush (v := 13) hx hb dX12_crossSize_26 (by decide) ?_
      refine b_callM [0, 1, 2, 3, 4, 5, 6, 7, 8, 9, 10, 11] (va_runV (As := [.int 13]) (rest := []) ⟨hx, hb, hml, hown, hts⟩ (c_X12_begins l D cI cZ cT A0 ss tp fk fp ap sp tk vl ac la ma it sr bt nw dr pa im kp σ 13 hz) (cwV 1 hts gX12_crossSize_X12_begins rfl rfl rfl (by decide +kernel) ⟨(Nat.le_of_ble_eq_true rfl), (Nat.le_of_ble_eq_true rfl)⟩) (b_pVM hK hP hD [0, 1, 2, 3, 4, 5, 6, 7, 8, 9, 10, 11] (by decide) rfl rfl 0 rfl rfl) rfl rfl hl.1 rfl (lv_room (Nat.le_of_ble_eq_true rfl)) dX12_crossSize_28 ⟨Nat.zero_le _, Nat.zero_le _⟩).run hP hD hS rfl (Nat.le_of_ble_eq_true rfl) (fun H locs hP hS => ?_)
      have hP : va_P D vwCl (wM cI cZ A0 ss tp fk fp ap sp tk vl ac (nI (m_beg σ 13).1) la ma it sr bt nw dr pa im kp ((m_beg σ 13).2)) H := hP
      generalize eq28 : m_beg σ 13 = q28 at hP ⊢
      have hP : va_P D vwCl (wM cI cZ A0 ss tp fk fp ap sp tk vl ac (nI q28.1) la ma it sr bt nw dr pa im kp q28.2) H := hP
      have hD : va_D A (wM cI cZ A0 ss tp fk fp ap sp tk vl ac (nI q28.1) la ma it sr bt nw dr pa im kp q28.2) := hD.sameA [(A0 0), (A0 1), (A0 2), (A0 3), (A0 4), (A0 5), (A0 6), (A0 7), (A0 8), (A0 9), (A0 10), (A0 11)] rfl rfl
      have hq28 : q28.1 ≤ 16 := by rw [← eq28]; exact m_beg_le hz
      refine lv_aload_n hx hb dX12_crossSize_31 rfl (lv_at hl 1 rfl) ?_
      refine lv_bipush (v := 10) hx hb dX12_crossSize_32 (by decide) ?_
      refine b_callM [0, 1, 2, 3, 4, 5, 6, 7, 8, 9, 10, 11] (va_runV (As := [.int 10]) (rest := []) ⟨hx, hb, hml, hown, hts⟩ (c_X12_begins l D cI cZ cT A0 ss tp fk fp ap sp tk vl ac la ma it sr bt nw dr pa im kp q28 10 hq28) (cwV 1 hts gX12_crossSize_X12_begins rfl rfl rfl (by decide +kernel) ⟨(Nat.le_of_ble_eq_true rfl), (Nat.le_of_ble_eq_true rfl)⟩) (b_pVM hK hP hD [0, 1, 2, 3, 4, 5, 6, 7, 8, 9, 10, 11] (by decide) rfl rfl 0 rfl rfl) rfl rfl hl.1 rfl (lv_room (Nat.le_of_ble_eq_true rfl)) dX12_crossSize_34 ⟨Nat.zero_le _, Nat.zero_le _⟩).run hP hD hS rfl (Nat.le_of_ble_eq_true rfl) (fun H locs hP hS => ?_)
      have hP : va_P D vwCl (wM cI cZ A0 ss tp fk fp ap sp tk vl ac (nI (m_beg q28 10).1) la ma it sr bt nw dr pa im kp ((m_beg q28 10).2)) H := hP
      generalize eq34 : m_beg q28 10 = q34 at hP ⊢
      have hP : va_P D vwCl (wM cI cZ A0 ss tp fk fp ap sp tk vl ac (nI q34.1) la ma it sr bt nw dr pa im kp q34.2) H := hP
      have hD : va_D A (wM cI cZ A0 ss tp fk fp ap sp tk vl ac (nI q34.1) la ma it sr bt nw dr pa im kp q34.2) := hD.sameA [(A0 0), (A0 1), (A0 2), (A0 3), (A0 4), (A0 5), (A0 6), (A0 7), (A0 8), (A0 9), (A0 10), (A0 11)] rfl rfl
      have hq34 : q34.1 ≤ 16 := by rw [← eq34]; exact m_beg_le hq28
      refine lv_aload_n hx hb dX12_crossSize_37 rfl (lv_at hl 1 rfl) ?_
      refine va_get (D := D) (ci := 11) (v := .ref (A0 6)) (C := RX12) (T := TX12) (N := 21) hx hb hts u_X12_crossSize_X12 hown hK.1 hP 0 rfl rfl 13 (by decide) (hts (.fieldLink RX12 25 "NoticeWeekModel" "now" "[I") (List.mem_of_getElem? (i := 1) rfl)) (fun _ h9 => h9) rfl dX12_crossSize_38 ?_
      refine lv_iconst (v := (nI 4)) hx hb dX12_crossSize_41 (by decide) ?_
      refine lv_iconst (v := (nI 4)) hx hb dX12_crossSize_42 (by decide) ?_
      refine lv_iload_n hx hb dX12_crossSize_43 rfl (lv_at hl 2 rfl) ?_
      refine b_mul hx hb dX12_crossSize_44 ?_
      refine b_add hx hb dX12_crossSize_45 ?_
      refine lv_iconst (v := (nI 2)) hx hb dX12_crossSize_46 (by decide) ?_
      refine b_add hx hb dX12_crossSize_47 ?_
      refine b_ald hx hb hK hP 6 rfl (by omega) (by decide) dX12_crossSize_48 ?_
      refine b_call (va_runS (As := [.int (nw (4 + (4 * r) + 2))]) (rest := []) ⟨hx, hb, hml, hown, hts⟩ (c_X12_ones l D cI cZ cT (nw (4 + (4 * r) + 2))) (va_cwS 1 hts gX12_crossSize_X12_ones rfl rfl rfl (by decide +kernel) ⟨(Nat.le_of_ble_eq_true rfl), (Nat.le_of_ble_eq_true rfl)⟩) (b_pS0 hK) rfl rfl hl.1 rfl (lv_room (Nat.le_of_ble_eq_true rfl)) dX12_crossSize_49 ⟨Nat.zero_le _, Nat.zero_le _⟩).run ?_
      refine lv_bipush (v := 100) hx hb dX12_crossSize_52 (by decide) ?_
      refine lv_isub hx hb dX12_crossSize_54 ?_
      refine lv_topi (fun x4 ex4 => ?_)
      refine lv_istore_n (lv' := [(3, .int x4), (2, .int (bI (nw (4 + 4 * r) = 5))), (0, .ref (A0 0)), (1, .int (nI (r)))]) hx hb dX12_crossSize_55 rfl hl (by decide) rfl (fun ls hl => ?_)
      refine lv_iload_n hx hb dX12_crossSize_56 rfl (lv_at hl 1 rfl) ?_
      refine b_ifeq (tgt := 66) hx hb dX12_crossSize_57 (by decide) (fun c5 => ?_) (fun c5 => (c3 c5).elim)
      refine lv_iload_n hx hb dX12_crossSize_66 rfl (lv_at hl 0 rfl) ?_
      have E : m_csize nw r σ = (x4, q34) := (by subst ex4; rw [← eq34, ← eq28]; first | (simp only [m_csize, eq_false c3, not_true_eq_false, not_false_eq_true, ite_true, ite_false, if_true, if_false, and_self, and_true, true_and, false_and, and_false, or_true, true_or, or_false, false_or]; done))
      rw [E]
      exact b_retM hx hb hr hP hS rfl dX12_crossSize_67 hlocks
    · refine lv_aload_n hx hb dX12_crossSize_19 rfl (lv_at hl 1 rfl) ?_
      refine lv_bipush (v := 14) hx hb dX12_crossSize_20 (by decide) ?_
      refine b_callM [0, 1, 2, 3, 4, 5, 6, 7, 8, 9, 10, 11] (va_runV (As := [.int 14]) (rest := []) ⟨hx, hb, hml, hown, hts⟩ (c_X12_begins l D cI cZ cT A0 ss tp fk fp ap sp tk vl ac la ma it sr bt nw dr pa im kp σ 14 hz) (cwV 1 hts gX12_crossSize_X12_begins rfl rfl rfl (by decide +kernel) ⟨(Nat.le_of_ble_eq_true rfl), (Nat.le_of_ble_eq_true rfl)⟩) (b_pVM hK hP hD [0, 1, 2, 3, 4, 5, 6, 7, 8, 9, 10, 11] (by decide) rfl rfl 0 rfl rfl) rfl rfl hl.1 rfl (lv_room (Nat.le_of_ble_eq_true rfl)) dX12_crossSize_22 ⟨Nat.zero_le _, Nat.zero_le _⟩).run hP hD hS rfl (Nat.le_of_ble_eq_true rfl) (fun H locs hP hS => ?_)
      have hP : va_P D vwCl (wM cI cZ A0 ss tp fk fp ap sp tk vl ac (nI (m_beg σ 14).1) la ma it sr bt nw dr pa im kp ((m_beg σ 14).2)) H := hP
      generalize eq22 : m_beg σ 14 = q22 at hP ⊢
      have hP : va_P D vwCl (wM cI cZ A0 ss tp fk fp ap sp tk vl ac (nI q22.1) la ma it sr bt nw dr pa im kp q22.2) H := hP
      have hD : va_D A (wM cI cZ A0 ss tp fk fp ap sp tk vl ac (nI q22.1) la ma it sr bt nw dr pa im kp q22.2) := hD.sameA [(A0 0), (A0 1), (A0 2), (A0 3), (A0 4), (A0 5), (A0 6), (A0 7), (A0 8), (A0 9), (A0 10), (A0 11)] rfl rfl
      have hq22 : q22.1 ≤ 16 := by rw [← eq22]; exact m_beg_le hz
      refine lv_aload_n hx hb dX12_crossSize_25 rfl (lv_at hl 1 rfl) ?_
      refine lv_bipush (v := 13) hx hb dX12_crossSize_26 (by decide) ?_
      refine b_callM [0, 1, 2, 3, 4, 5, 6, 7, 8, 9, 10, 11] (va_runV (As := [.int 13]) (rest := []) ⟨hx, hb, hml, hown, hts⟩ (c_X12_begins l D cI cZ cT A0 ss tp fk fp ap sp tk vl ac la ma it sr bt nw dr pa im kp q22 13 hq22) (cwV 1 hts gX12_crossSize_X12_begins rfl rfl rfl (by decide +kernel) ⟨(Nat.le_of_ble_eq_true rfl), (Nat.le_of_ble_eq_true rfl)⟩) (b_pVM hK hP hD [0, 1, 2, 3, 4, 5, 6, 7, 8, 9, 10, 11] (by decide) rfl rfl 0 rfl rfl) rfl rfl hl.1 rfl (lv_room (Nat.le_of_ble_eq_true rfl)) dX12_crossSize_28 ⟨Nat.zero_le _, Nat.zero_le _⟩).run hP hD hS rfl (Nat.le_of_ble_eq_true rfl) (fun H locs hP hS => ?_)
      have hP : va_P D vwCl (wM cI cZ A0 ss tp fk fp ap sp tk vl ac (nI (m_beg q22 13).1) la ma it sr bt nw dr pa im kp ((m_beg q22 13).2)) H := hP
      generalize eq28 : m_beg q22 13 = q28 at hP ⊢
      have hP : va_P D vwCl (wM cI cZ A0 ss tp fk fp ap sp tk vl ac (nI q28.1) la ma it sr bt nw dr pa im kp q28.2) H := hP
      have hD : va_D A (wM cI cZ A0 ss tp fk fp ap sp tk vl ac (nI q28.1) la ma it sr bt nw dr pa im kp q28.2) := hD.sameA [(A0 0), (A0 1), (A0 2), (A0 3), (A0 4), (A0 5), (A0 6), (A0 7), (A0 8), (A0 9), (A0 10), (A0 11)] rfl rfl
      have hq28 : q28.1 ≤ 16 := by rw [← eq28]; exact m_beg_le hq22
      refine lv_aload_n hx hb dX12_crossSize_31 rfl (lv_at hl 1 rfl) ?_
      refine lv_bipush (v := 10) hx hb dX12_crossSize_32 (by decide) ?_
      refine b_callM [0, 1, 2, 3, 4, 5, 6, 7, 8, 9, 10, 11] (va_runV (As := [.int 10]) (rest := []) ⟨hx, hb, hml, hown, hts⟩ (c_X12_begins l D cI cZ cT A0 ss tp fk fp ap sp tk vl ac la ma it sr bt nw dr pa im kp q28 10 hq28) (cwV 1 hts gX12_crossSize_X12_begins rfl rfl rfl (by decide +kernel) ⟨(Nat.le_of_ble_eq_true rfl), (Nat.le_of_ble_eq_true rfl)⟩) (b_pVM hK hP hD [0, 1, 2, 3, 4, 5, 6, 7, 8, 9, 10, 11] (by decide) rfl rfl 0 rfl rfl) rfl rfl hl.1 rfl (lv_room (Nat.le_of_ble_eq_true rfl)) dX12_crossSize_34 ⟨Nat.zero_le _, Nat.zero_le _⟩).run hP hD hS rfl (Nat.le_of_ble_eq_true rfl) (fun H locs hP hS => ?_)
      have hP : va_P D vwCl (wM cI cZ A0 ss tp fk fp ap sp tk vl ac (nI (m_beg q28 10).1) la ma it sr bt nw dr pa im kp ((m_beg q28 10).2)) H := hP
      generalize eq34 : m_beg q28 10 = q34 at hP ⊢
      have hP : va_P D vwCl (wM cI cZ A0 ss tp fk fp ap sp tk vl ac (nI q34.1) la ma it sr bt nw dr pa im kp q34.2) H := hP
      have hD : va_D A (wM cI cZ A0 ss tp fk fp ap sp tk vl ac (nI q34.1) la ma it sr bt nw dr pa im kp q34.2) := hD.sameA [(A0 0), (A0 1), (A0 2), (A0 3), (A0 4), (A0 5), (A0 6), (A0 7), (A0 8), (A0 9), (A0 10), (A0 11)] rfl rfl
      have hq34 : q34.1 ≤ 16 := by rw [← eq34]; exact m_beg_le hq28
      refine lv_aload_n hx hb dX12_crossSize_37 rfl (lv_at hl 1 rfl) ?_
      refine va_get (D := D) (ci := 11) (v := .ref (A0 6)) (C := RX12) (T := TX12) (N := 21) hx hb hts u_X12_crossSize_X12 hown hK.1 hP 0 rfl rfl 13 (by decide) (hts (.fieldLink RX12 25 "NoticeWeekModel" "now" "[I") (List.mem_of_getElem? (i := 1) rfl)) (fun _ h9 => h9) rfl dX12_crossSize_38 ?_
      refine lv_iconst (v := (nI 4)) hx hb dX12_crossSize_41 (by decide) ?_
      refine lv_iconst (v := (nI 4)) hx hb dX12_crossSize_42 (by decide) ?_
      refine lv_iload_n hx hb dX12_crossSize_43 rfl (lv_at hl 2 rfl) ?_
      refine b_mul hx hb dX12_crossSize_44 ?_
      refine b_add hx hb dX12_crossSize_45 ?_
      refine lv_iconst (v := (nI 2)) hx hb dX12_crossSize_46 (by decide) ?_
      refine b_add hx hb dX12_crossSize_47 ?_
      refine b_ald hx hb hK hP 6 rfl (by omega) (by decide) dX12_crossSize_48 ?_
      refine b_call (va_runS (As := [.int (nw (4 + (4 * r) + 2))]) (rest := []) ⟨hx, hb, hml, hown, hts⟩ (c_X12_ones l D cI cZ cT (nw (4 + (4 * r) + 2))) (va_cwS 1 hts gX12_crossSize_X12_ones rfl rfl rfl (by decide +kernel) ⟨(Nat.le_of_ble_eq_true rfl), (Nat.le_of_ble_eq_true rfl)⟩) (b_pS0 hK) rfl rfl hl.1 rfl (lv_room (Nat.le_of_ble_eq_true rfl)) dX12_crossSize_49 ⟨Nat.zero_le _, Nat.zero_le _⟩).run ?_
      refine lv_bipush (v := 100) hx hb dX12_crossSize_52 (by decide) ?_
      refine lv_isub hx hb dX12_crossSize_54 ?_
      refine lv_topi (fun x6 ex6 => ?_)
      refine lv_istore_n (lv' := [(3, .int x6), (2, .int (bI (nw (4 + 4 * r) = 5))), (0, .ref (A0 0)), (1, .int (nI (r)))]) hx hb dX12_crossSize_55 rfl hl (by decide) rfl (fun ls hl => ?_)
      refine lv_iload_n hx hb dX12_crossSize_56 rfl (lv_at hl 1 rfl) ?_
      refine b_ifeq (tgt := 66) hx hb dX12_crossSize_57 (by decide) (fun c7 => (c7 c3).elim) (fun c7 => ?_)
      refine lv_iconst (v := 2) hx hb dX12_crossSize_60 (by decide) ?_
      refine lv_iload_n hx hb dX12_crossSize_61 rfl (lv_at hl 0 rfl) ?_
      refine lv_imul hx hb dX12_crossSize_62 ?_
      refine lv_goto (tgt := 67) hx hb dX12_crossSize_63 (by decide) ?_
      have E : m_csize nw r σ = ((2 * x6), q34) := (by subst ex6; rw [← eq34, ← eq28, ← eq22]; first | (simp only [m_csize, eq_true c3, not_true_eq_false, not_false_eq_true, ite_true, ite_false, if_true, if_false, and_self, and_true, true_and, false_and, and_false, or_true, true_or, or_false, false_or]; done))
      rw [E]
      exact b_retM hx hb hr hP hS rfl dX12_crossSize_67 hlocks
  · refine lv_aload_n hx hb dX12_crossSize_0 rfl (lv_at hl 0 rfl) ?_
    refine lv_iload_n hx hb dX12_crossSize_1 rfl (lv_at hl 1 rfl) ?_
    refine b_call (va_runV (As := [.int (nI (r))]) (rest := []) ⟨hx, hb, hml, hown, hts⟩ (c_X12_kindIn l D cI cZ cT A0 ss tp fk fp ap sp tk vl ac (nI σ.1) la ma it sr bt nw dr pa im kp σ.2 r hr_) (cwV 1 hts gX12_crossSize_X12_kindIn rfl rfl rfl (by decide +kernel) ⟨(Nat.le_of_ble_eq_true rfl), (Nat.le_of_ble_eq_true rfl)⟩) (b_pV hK hP [0, 1, 2, 3, 4, 5, 6, 7, 8, 9, 10, 11] rfl 0 rfl rfl) rfl rfl hl.1 rfl (lv_room (Nat.le_of_ble_eq_true rfl)) dX12_crossSize_2 ⟨Nat.zero_le _, Nat.zero_le _⟩).run ?_
    refine lv_iconst (v := 5) hx hb dX12_crossSize_5 (by decide) ?_
    refine lv_icmp_ne (tgt := 13) hx hb dX12_crossSize_6 (by decide) (fun c8 => ?_) (fun c8 => ?_)
    · refine lv_iconst (v := 0) hx hb dX12_crossSize_13 (by decide) ?_
      exact K2 _ (by first | with_reducible rfl | (simp only [bI, eq_false c8, not_true_eq_false, not_false_eq_true, ite_true, ite_false, if_true, if_false, and_self, and_true, true_and, false_and, and_false, or_true, true_or, or_false, false_or]; done) | (simp [bI, eq_false c8]; done) | omega)
    · refine lv_iconst (v := 1) hx hb dX12_crossSize_9 (by decide) ?_
      refine lv_goto (tgt := 14) hx hb dX12_crossSize_10 (by decide) ?_
      exact K2 _ (by first | with_reducible rfl | (simp only [bI, eq_true c8, not_true_eq_false, not_false_eq_true, ite_true, ite_false, if_true, if_false, and_self, and_true, true_and, false_and, and_false, or_true, true_or, or_false, false_or]; done) | (simp [bI, eq_true c8]; done) | omega)
theorem u_X12_proudSize_X12 : ∀ w ∈ wsX120, w ∈ wsX12_proudSize := fun _ h => List.mem_cons_of_mem _ (List.mem_append_right _ h)
set_option maxHeartbeats 4000000 in
set_option maxRecDepth 100000 in
theorem c_X12_proudSize (l : Launch) (D : va_G) (cI cZ cT : ClassId) (A0 : Nat → Nat) (ss tp fk fp ap sp tk vl ac : Int32) (la ma it sr bt nw dr pa im kp : Nat → Int32) (σ : Nat × (Nat → Int32)) (r : Nat) (hr_ : r ≤ 5) (hz : σ.1 ≤ 16) : Met l yX12_proudSize wsX12_proudSize ({ frames := 2, cells := 0, slots := 0, locals := 45 }) (pM D cI cZ cT [.ref (A0 0), .int (nI (r))] (wM cI cZ A0 ss tp fk fp ap sp tk vl ac (nI σ.1) la ma it sr bt nw dr pa im kp σ.2)) (qM D (some (.int ((m_psize nw r σ).1))) (wM cI cZ A0 ss tp fk fp ap sp tk vl ac (nI (m_psize nw r σ).2.1) la ma it sr bt nw dr pa im kp ((m_psize nw r σ).2.2)) (adr (wM cI cZ A0 ss tp fk fp ap sp tk vl ac (nI σ.1) la ma it sr bt nw dr pa im kp σ.2))) 0 0 (adr (wM cI cZ A0 ss tp fk fp ap sp tk vl ac (nI σ.1) la ma it sr bt nw dr pa im kp σ.2)) := by
  refine Met.ofW (cc := cX12_proudSize) (maxL := 4) (ret := (some .int)) (by decide) rfl ?_
  intro p e s m args below meth c s₁ B hml hv
  obtain ⟨rfl, hP, hD0, hK⟩ := hv
  have hx := B.exec
  have hb := B.bytes
  have hr := B.returns
  have hts := atoms_spec (ws := wsX12_proudSize) B.pre
  have hown : s.vm.findClass RX12 = some m.cls := findClass_of_methodNamed B.named
  have hlocks := B.notSynchronized
  have hD := hD0.toAdr
  have hS : va_S (adr (wM cI cZ A0 ss tp fk fp ap sp tk vl ac (nI σ.1) la ma it sr bt nw dr pa im kp σ.2)) s.heap s.heap [] := va_S.rf
  generalize adr (wM cI cZ A0 ss tp fk fp ap sp tk vl ac (nI σ.1) la ma it sr bt nw dr pa im kp σ.2) = A at hD hS ⊢
  have hl := lv_entry ([.ref (A0 0), .int (nI (r))]) (n := 4) (Nat.le_of_ble_eq_true rfl)
  rw [lg_entry_eq]
  generalize (lg_sl ([.ref (A0 0), .int (nI (r))]) ++ List.replicate (4 - (lg_sl ([.ref (A0 0), .int (nI (r))])).length) Slot.unset).toArray = ls at hl ⊢
  have hl : lv_has ls 4 [(0, .ref (A0 0)), (1, .int (nI (r)))] := hl
  refine b_join (jpc := 14) (rest' := []) (P := fun v : Int32 => v = ((bI (nw (4 + 4 * r) = 2)) : Int32)) (fun v1 ev1 => ?_) (fun K2 => ?_)
  · subst ev1
    refine lv_istore_n (lv' := [(2, .int (bI (nw (4 + 4 * r) = 2))), (0, .ref (A0 0)), (1, .int (nI (r)))]) hx hb dX12_proudSize_14 rfl hl (by decide) rfl (fun ls hl => ?_)
    refine lv_iload_n hx hb dX12_proudSize_15 rfl (lv_at hl 0 rfl) ?_
    refine b_ifeq (tgt := 25) hx hb dX12_proudSize_16 (by decide) (fun c3 => ?_) (fun c3 => ?_)
    · refine lv_aload_n hx hb dX12_proudSize_25 rfl (lv_at hl 1 rfl) ?_
      refine lv_bipush (v := 11) hx hb dX12_proudSize_26 (by decide) ?_
      refine b_callM [0, 1, 2, 3, 4, 5, 6, 7, 8, 9, 10, 11] (va_runV (As := [.int 11]) (rest := []) ⟨hx, hb, hml, hown, hts⟩ (c_X12_begins l D cI cZ cT A0 ss tp fk fp ap sp tk vl ac la ma it sr bt nw dr pa im kp σ 11 hz) (cwV 1 hts gX12_proudSize_X12_begins rfl rfl rfl (by decide +kernel) ⟨(Nat.le_of_ble_eq_true rfl), (Nat.le_of_ble_eq_true rfl)⟩) (b_pVM hK hP hD [0, 1, 2, 3, 4, 5, 6, 7, 8, 9, 10, 11] (by decide) rfl rfl 0 rfl rfl) rfl rfl hl.1 rfl (lv_room (Nat.le_of_ble_eq_true rfl)) dX12_proudSize_28 ⟨Nat.zero_le _, Nat.zero_le _⟩).run hP hD hS rfl (Nat.le_of_ble_eq_true rfl) (fun H locs hP hS => ?_)
      have hP : va_P D vwCl (wM cI cZ A0 ss tp fk fp ap sp tk vl ac (nI (m_beg σ 11).1) la ma it sr bt nw dr pa im kp ((m_beg σ 11).2)) H := hP
      generalize eq28 : m_beg σ 11 = q28 at hP ⊢
      have hP : va_P D vwCl (wM cI cZ A0 ss tp fk fp ap sp tk vl ac (nI q28.1) la ma it sr bt nw dr pa im kp q28.2) H := hP
      have hD : va_D A (wM cI cZ A0 ss tp fk fp ap sp tk vl ac (nI q28.1) la ma it sr bt nw dr pa im kp q28.2) := hD.sameA [(A0 0), (A0 1), (A0 2), (A0 3), (A0 4), (A0 5), (A0 6), (A0 7), (A0 8), (A0 9), (A0 10), (A0 11)] rfl rfl
      have hq28 : q28.1 ≤ 16 := by rw [← eq28]; exact m_beg_le hz
      refine lv_aload_n hx hb dX12_proudSize_31 rfl (lv_at hl 1 rfl) ?_
      refine lv_bipush (v := 10) hx hb dX12_proudSize_32 (by decide) ?_
      refine b_callM [0, 1, 2, 3, 4, 5, 6, 7, 8, 9, 10, 11] (va_runV (As := [.int 10]) (rest := []) ⟨hx, hb, hml, hown, hts⟩ (c_X12_begins l D cI cZ cT A0 ss tp fk fp ap sp tk vl ac la ma it sr bt nw dr pa im kp q28 10 hq28) (cwV 1 hts gX12_proudSize_X12_begins rfl rfl rfl (by decide +kernel) ⟨(Nat.le_of_ble_eq_true rfl), (Nat.le_of_ble_eq_true rfl)⟩) (b_pVM hK hP hD [0, 1, 2, 3, 4, 5, 6, 7, 8, 9, 10, 11] (by decide) rfl rfl 0 rfl rfl) rfl rfl hl.1 rfl (lv_room (Nat.le_of_ble_eq_true rfl)) dX12_proudSize_34 ⟨Nat.zero_le _, Nat.zero_le _⟩).run hP hD hS rfl (Nat.le_of_ble_eq_true rfl) (fun H locs hP hS => ?_)
      have hP : va_P D vwCl (wM cI cZ A0 ss tp fk fp ap sp tk vl ac (nI (m_beg q28 10).1) la ma it sr bt nw dr pa im kp ((m_beg q28 10).2)) H := hP
      generalize eq34 : m_beg q28 10 = q34 at hP ⊢
      have hP : va_P D vwCl (wM cI cZ A0 ss tp fk fp ap sp tk vl ac (nI q34.1) la ma it sr bt nw dr pa im kp q34.2) H := hP
      have hD : va_D A (wM cI cZ A0 ss tp fk fp ap sp tk vl ac (nI q34.1) la ma it sr bt nw dr pa im kp q34.2) := hD.sameA [(A0 0), (A0 1), (A0 2), (A0 3), (A0 4), (A0 5), (A0 6), (A0 7), (A0 8), (A0 9), (A0 10), (A0 11)] rfl rfl
      have hq34 : q34.1 ≤ 16 := by rw [← eq34]; exact m_beg_le hq28
      refine lv_aload_n hx hb dX12_proudSize_37 rfl (lv_at hl 1 rfl) ?_
      refine va_get (D := D) (ci := 11) (v := .ref (A0 6)) (C := RX12) (T := TX12) (N := 21) hx hb hts u_X12_proudSize_X12 hown hK.1 hP 0 rfl rfl 13 (by decide) (hts (.fieldLink RX12 25 "NoticeWeekModel" "now" "[I") (List.mem_of_getElem? (i := 1) rfl)) (fun _ h9 => h9) rfl dX12_proudSize_38 ?_
      refine lv_iconst (v := (nI 4)) hx hb dX12_proudSize_41 (by decide) ?_
      refine lv_iconst (v := (nI 4)) hx hb dX12_proudSize_42 (by decide) ?_
      refine lv_iload_n hx hb dX12_proudSize_43 rfl (lv_at hl 2 rfl) ?_
      refine b_mul hx hb dX12_proudSize_44 ?_
      refine b_add hx hb dX12_proudSize_45 ?_
      refine lv_iconst (v := (nI 2)) hx hb dX12_proudSize_46 (by decide) ?_
      refine b_add hx hb dX12_proudSize_47 ?_
      refine b_ald hx hb hK hP 6 rfl (by omega) (by decide) dX12_proudSize_48 ?_
      refine b_call (va_runS (As := [.int (nw (4 + (4 * r) + 2))]) (rest := []) ⟨hx, hb, hml, hown, hts⟩ (c_X12_ones l D cI cZ cT (nw (4 + (4 * r) + 2))) (va_cwS 1 hts gX12_proudSize_X12_ones rfl rfl rfl (by decide +kernel) ⟨(Nat.le_of_ble_eq_true rfl), (Nat.le_of_ble_eq_true rfl)⟩) (b_pS0 hK) rfl rfl hl.1 rfl (lv_room (Nat.le_of_ble_eq_true rfl)) dX12_proudSize_49 ⟨Nat.zero_le _, Nat.zero_le _⟩).run ?_
      refine lv_aload_n hx hb dX12_proudSize_52 rfl (lv_at hl 1 rfl) ?_
      refine lv_iload_n hx hb dX12_proudSize_53 rfl (lv_at hl 2 rfl) ?_
      refine b_callM [0, 1, 2, 3, 4, 5, 6, 7, 8, 9, 10, 11] (va_runV (As := [.int (nI (r))]) (rest := [.int (ones8 (nw (4 + (4 * r) + 2)))]) ⟨hx, hb, hml, hown, hts⟩ (c_X12_proudMark l D cI cZ cT A0 ss tp fk fp ap sp tk vl ac la ma it sr bt nw dr pa im kp q34 r hr_ hq34) (cwV 1 hts gX12_proudSize_X12_proudMark rfl rfl rfl (by decide +kernel) ⟨(Nat.le_of_ble_eq_true rfl), (Nat.le_of_ble_eq_true rfl)⟩) (b_pVM hK hP hD [0, 1, 2, 3, 4, 5, 6, 7, 8, 9, 10, 11] (by decide) rfl rfl 0 rfl rfl) rfl rfl hl.1 rfl (lv_room (Nat.le_of_ble_eq_true rfl)) dX12_proudSize_54 ⟨Nat.zero_le _, Nat.zero_le _⟩).run hP hD hS rfl (Nat.le_of_ble_eq_true rfl) (fun H locs hP hS => ?_)
      have hP : va_P D vwCl (wM cI cZ A0 ss tp fk fp ap sp tk vl ac (nI (m_pmark nw r q34).2.1) la ma it sr bt nw dr pa im kp ((m_pmark nw r q34).2.2)) H := hP
      generalize eq54 : m_pmark nw r q34 = q54 at hP ⊢
      have hP : va_P D vwCl (wM cI cZ A0 ss tp fk fp ap sp tk vl ac (nI q54.2.1) la ma it sr bt nw dr pa im kp q54.2.2) H := hP
      have hD : va_D A (wM cI cZ A0 ss tp fk fp ap sp tk vl ac (nI q54.2.1) la ma it sr bt nw dr pa im kp q54.2.2) := hD.sameA [(A0 0), (A0 1), (A0 2), (A0 3), (A0 4), (A0 5), (A0 6), (A0 7), (A0 8), (A0 9), (A0 10), (A0 11)] rfl rfl
      refine lv_iadd hx hb dX12_proudSize_57 ?_
      refine lv_topi (fun x4 ex4 => ?_)
      refine lv_istore_n (lv' := [(3, .int x4), (2, .int (bI (nw (4 + 4 * r) = 2))), (0, .ref (A0 0)), (1, .int (nI (r)))]) hx hb dX12_proudSize_58 rfl hl (by decide) rfl (fun ls hl => ?_)
      refine lv_iload_n hx hb dX12_proudSize_59 rfl (lv_at hl 1 rfl) ?_
      refine b_ifeq (tgt := 68) hx hb dX12_proudSize_60 (by decide) (fun c5 => ?_) (fun c5 => (c3 c5).elim)
      refine lv_iload_n hx hb dX12_proudSize_68 rfl (lv_at hl 0 rfl) ?_
      have E : m_psize nw r σ = (x4, q54.2) := (by subst ex4; rw [← eq54, ← eq34, ← eq28]; first | (simp only [m_psize, eq_false c3, not_true_eq_false, not_false_eq_true, ite_true, ite_false, if_true, if_false, and_self, and_true, true_and, false_and, and_false, or_true, true_or, or_false, false_or]; done))
      rw [E]
      exact b_retM hx hb hr hP hS rfl dX12_proudSize_69 hlocks
    · refine lv_aload_n hx hb dX12_proudSize_19 rfl (lv_at hl 1 rfl) ?_
      refine lv_bipush (v := 12) hx hb dX12_proudSize_20 (by decide) ?_
      refine b_callM [0, 1, 2, 3, 4, 5, 6, 7, 8, 9, 10, 11] (va_runV (As := [.int 12]) (rest := []) ⟨hx, hb, hml, hown, hts⟩ (c_X12_begins l D cI cZ cT A0 ss tp fk fp ap sp tk vl ac la ma it sr bt nw dr pa im kp σ 12 hz) (cwV 1 hts gX12_proudSize_X12_begins rfl rfl rfl (by decide +kernel) ⟨(Nat.le_of_ble_eq_true rfl), (Nat.le_of_ble_eq_true rfl)⟩) (b_pVM hK hP hD [0, 1, 2, 3, 4, 5, 6, 7, 8, 9, 10, 11] (by decide) rfl rfl 0 rfl rfl) rfl rfl hl.1 rfl (lv_room (Nat.le_of_ble_eq_true rfl)) dX12_proudSize_22 ⟨Nat.zero_le _, Nat.zero_le _⟩).run hP hD hS rfl (Nat.le_of_ble_eq_true rfl) (fun H locs hP hS => ?_)
      have hP : va_P D vwCl (wM cI cZ A0 ss tp fk fp ap sp tk vl ac (nI (m_beg σ 12).1) la ma it sr bt nw dr pa im kp ((m_beg σ 12).2)) H := hP
      generalize eq22 : m_beg σ 12 = q22 at hP ⊢
      have hP : va_P D vwCl (wM cI cZ A0 ss tp fk fp ap sp tk vl ac (nI q22.1) la ma it sr bt nw dr pa im kp q22.2) H := hP
      have hD : va_D A (wM cI cZ A0 ss tp fk fp ap sp tk vl ac (nI q22.1) la ma it sr bt nw dr pa im kp q22.2) := hD.sameA [(A0 0), (A0 1), (A0 2), (A0 3), (A0 4), (A0 5), (A0 6), (A0 7), (A0 8), (A0 9), (A0 10), (A0 11)] rfl rfl
      have hq22 : q22.1 ≤ 16 := by rw [← eq22]; exact m_beg_le hz
      refine lv_aload_n hx hb dX12_proudSize_25 rfl (lv_at hl 1 rfl) ?_
      refine lv_bipush (v := 11) hx hb dX12_proudSize_26 (by decide) ?_
      refine b_callM [0, 1, 2, 3, 4, 5, 6, 7, 8, 9, 10, 11] (va_runV (As := [.int 11]) (rest := []) ⟨hx, hb, hml, hown, hts⟩ (c_X12_begins l D cI cZ cT A0 ss tp fk fp ap sp tk vl ac la ma it sr bt nw dr pa im kp q22 11 hq22) (cwV 1 hts gX12_proudSize_X12_begins rfl rfl rfl (by decide +kernel) ⟨(Nat.le_of_ble_eq_true rfl), (Nat.le_of_ble_eq_true rfl)⟩) (b_pVM hK hP hD [0, 1, 2, 3, 4, 5, 6, 7, 8, 9, 10, 11] (by decide) rfl rfl 0 rfl rfl) rfl rfl hl.1 rfl (lv_room (Nat.le_of_ble_eq_true rfl)) dX12_proudSize_28 ⟨Nat.zero_le _, Nat.zero_le _⟩).run hP hD hS rfl (Nat.le_of_ble_eq_true rfl) (fun H locs hP hS => ?_)
      have hP : va_P D vwCl (wM cI cZ A0 ss tp fk fp ap sp tk vl ac (nI (m_beg q22 11).1) la ma it sr bt nw dr pa im kp ((m_beg q22 11).2)) H := hP
      generalize eq28 : m_beg q22 11 = q28 at hP ⊢
      have hP : va_P D vwCl (wM cI cZ A0 ss tp fk fp ap sp tk vl ac (nI q28.1) la ma it sr bt nw dr pa im kp q28.2) H := hP
      have hD : va_D A (wM cI cZ A0 ss tp fk fp ap sp tk vl ac (nI q28.1) la ma it sr bt nw dr pa im kp q28.2) := hD.sameA [(A0 0), (A0 1), (A0 2), (A0 3), (A0 4), (A0 5), (A0 6), (A0 7), (A0 8), (A0 9), (A0 10), (A0 11)] rfl rfl
      have hq28 : q28.1 ≤ 16 := by rw [← eq28]; exact m_beg_le hq22
      refine lv_aload_n hx hb dX12_proudSize_31 rfl (lv_at hl 1 rfl) ?_
      refine lv_bipush (v := 10) hx hb dX12_proudSize_32 (by decide) ?_
      refine b_callM [0, 1, 2, 3, 4, 5, 6, 7, 8, 9, 10, 11] (va_runV (As := [.int 10]) (rest := []) ⟨hx, hb, hml, hown, hts⟩ (c_X12_begins l D cI cZ cT A0 ss tp fk fp ap sp tk vl ac la ma it sr bt nw dr pa im kp q28 10 hq28) (cwV 1 hts gX12_proudSize_X12_begins rfl rfl rfl (by decide +kernel) ⟨(Nat.le_of_ble_eq_true rfl), (Nat.le_of_ble_eq_true rfl)⟩) (b_pVM hK hP hD [0, 1, 2, 3, 4, 5, 6, 7, 8, 9, 10, 11] (by decide) rfl rfl 0 rfl rfl) rfl rfl hl.1 rfl (lv_room (Nat.le_of_ble_eq_true rfl)) dX12_proudSize_34 ⟨Nat.zero_le _, Nat.zero_le _⟩).run hP hD hS rfl (Nat.le_of_ble_eq_true rfl) (fun H locs hP hS => ?_)
      have hP : va_P D vwCl (wM cI cZ A0 ss tp fk fp ap sp tk vl ac (nI (m_beg q28 10).1) la ma it sr bt nw dr pa im kp ((m_beg q28 10).2)) H := hP
      generalize eq34 : m_beg q28 10 = q34 at hP ⊢
      have hP : va_P D vwCl (wM cI cZ A0 ss tp fk fp ap sp tk vl ac (nI q34.1) la ma it sr bt nw dr pa im kp q34.2) H := hP
      have hD : va_D A (wM cI cZ A0 ss tp fk fp ap sp tk vl ac (nI q34.1) la ma it sr bt nw dr pa im kp q34.2) := hD.sameA [(A0 0), (A0 1), (A0 2), (A0 3), (A0 4), (A0 5), (A0 6), (A0 7), (A0 8), (A0 9), (A0 10), (A0 11)] rfl rfl
      have hq34 : q34.1 ≤ 16 := by rw [← eq34]; exact m_beg_le hq28
      refine lv_aload_n hx hb dX12_proudSize_37 rfl (lv_at hl 1 rfl) ?_
      refine va_get (D := D) (ci := 11) (v := .ref (A0 6)) (C := RX12) (T := TX12) (N := 21) hx hb hts u_X12_proudSize_X12 hown hK.1 hP 0 rfl rfl 13 (by decide) (hts (.fieldLink RX12 25 "NoticeWeekModel" "now" "[I") (List.mem_of_getElem? (i := 1) rfl)) (fun _ h9 => h9) rfl dX12_proudSize_38 ?_
      refine lv_iconst (v := (nI 4)) hx hb dX12_proudSize_41 (by decide) ?_
      refine lv_iconst (v := (nI 4)) hx hb dX12_proudSize_42 (by decide) ?_
      refine lv_iload_n hx hb dX12_proudSize_43 rfl (lv_at hl 2 rfl) ?_
      refine b_mul hx hb dX12_proudSize_44 ?_
      refine b_add hx hb dX12_proudSize_45 ?_
      refine lv_iconst (v := (nI 2)) hx hb dX12_proudSize_46 (by decide) ?_
      refine b_add hx hb dX12_proudSize_47 ?_
      refine b_ald hx hb hK hP 6 rfl (by omega) (by decide) dX12_proudSize_48 ?_
      refine b_call (va_runS (As := [.int (nw (4 + (4 * r) + 2))]) (rest := []) ⟨hx, hb, hml, hown, hts⟩ (c_X12_ones l D cI cZ cT (nw (4 + (4 * r) + 2))) (va_cwS 1 hts gX12_proudSize_X12_ones rfl rfl rfl (by decide +kernel) ⟨(Nat.le_of_ble_eq_true rfl), (Nat.le_of_ble_eq_true rfl)⟩) (b_pS0 hK) rfl rfl hl.1 rfl (lv_room (Nat.le_of_ble_eq_true rfl)) dX12_proudSize_49 ⟨Nat.zero_le _, Nat.zero_le _⟩).run ?_
      refine lv_aload_n hx hb dX12_proudSize_52 rfl (lv_at hl 1 rfl) ?_
      refine lv_iload_n hx hb dX12_proudSize_53 rfl (lv_at hl 2 rfl) ?_
      refine b_callM [0, 1, 2, 3, 4, 5, 6, 7, 8, 9, 10, 11] (va_runV (As := [.int (nI (r))]) (rest := [.int (ones8 (nw (4 + (4 * r) + 2)))]) ⟨hx, hb, hml, hown, hts⟩ (c_X12_proudMark l D cI cZ cT A0 ss tp fk fp ap sp tk vl ac la ma it sr bt nw dr pa im kp q34 r hr_ hq34) (cwV 1 hts gX12_proudSize_X12_proudMark rfl rfl rfl (by decide +kernel) ⟨(Nat.le_of_ble_eq_true rfl), (Nat.le_of_ble_eq_true rfl)⟩) (b_pVM hK hP hD [0, 1, 2, 3, 4, 5, 6, 7, 8, 9, 10, 11] (by decide) rfl rfl 0 rfl rfl) rfl rfl hl.1 rfl (lv_room (Nat.le_of_ble_eq_true rfl)) dX12_proudSize_54 ⟨Nat.zero_le _, Nat.zero_le _⟩).run hP hD hS rfl (Nat.le_of_ble_eq_true rfl) (fun H locs hP hS => ?_)
      have hP : va_P D vwCl (wM cI cZ A0 ss tp fk fp ap sp tk vl ac (nI (m_pmark nw r q34).2.1) la ma it sr bt nw dr pa im kp ((m_pmark nw r q34).2.2)) H := hP
      generalize eq54 : m_pmark nw r q34 = q54 at hP ⊢
      have hP : va_P D vwCl (wM cI cZ A0 ss tp fk fp ap sp tk vl ac (nI q54.2.1) la ma it sr bt nw dr pa im kp q54.2.2) H := hP
      have hD : va_D A (wM cI cZ A0 ss tp fk fp ap sp tk vl ac (nI q54.2.1) la ma it sr bt nw dr pa im kp q54.2.2) := hD.sameA [(A0 0), (A0 1), (A0 2), (A0 3), (A0 4), (A0 5), (A0 6), (A0 7), (A0 8), (A0 9), (A0 10), (A0 11)] rfl rfl
      refine lv_iadd hx hb dX12_proudSize_57 ?_
      refine lv_topi (fun x6 ex6 => ?_)
      refine lv_istore_n (lv' := [(3, .int x6), (2, .int (bI (nw (4 + 4 * r) = 2))), (0, .ref (A0 0)), (1, .int (nI (r)))]) hx hb dX12_proudSize_58 rfl hl (by decide) rfl (fun ls hl => ?_)
      refine lv_iload_n hx hb dX12_proudSize_59 rfl (lv_at hl 1 rfl) ?_
      refine b_ifeq (tgt := 68) hx hb dX12_proudSize_60 (by decide) (fun c7 => (c7 c3).elim) (fun c7 => ?_)
      refine lv_iload_n hx hb dX12_proudSize_63 rfl (lv_at hl 0 rfl) ?_
      refine lv_ineg hx hb dX12_proudSize_64 ?_
      refine lv_goto (tgt := 69) hx hb dX12_proudSize_65 (by decide) ?_
      have E : m_psize nw r σ = ((-x6), q54.2) := (by subst ex6; rw [← eq54, ← eq34, ← eq28, ← eq22]; first | (simp only [m_psize, eq_true c3, not_true_eq_false, not_false_eq_true, ite_true, ite_false, if_true, if_false, and_self, and_true, true_and, false_and, and_false, or_true, true_or, or_false, false_or]; done))
      rw [E]
      exact b_retM hx hb hr hP hS rfl dX12_proudSize_69 hlocks
  · refine lv_aload_n hx hb dX12_proudSize_0 rfl (lv_at hl 0 rfl) ?_
    refine lv_iload_n hx hb dX12_proudSize_1 rfl (lv_at hl 1 rfl) ?_
    refine b_call (va_runV (As := [.int (nI (r))]) (rest := []) ⟨hx, hb, hml, hown, hts⟩ (c_X12_kindIn l D cI cZ cT A0 ss tp fk fp ap sp tk vl ac (nI σ.1) la ma it sr bt nw dr pa im kp σ.2 r hr_) (cwV 1 hts gX12_proudSize_X12_kindIn rfl rfl rfl (by decide +kernel) ⟨(Nat.le_of_ble_eq_true rfl), (Nat.le_of_ble_eq_true rfl)⟩) (b_pV hK hP [0, 1, 2, 3, 4, 5, 6, 7, 8, 9, 10, 11] rfl 0 rfl rfl) rfl rfl hl.1 rfl (lv_room (Nat.le_of_ble_eq_true rfl)) dX12_proudSize_2 ⟨Nat.zero_le _, Nat.zero_le _⟩).run ?_
    refine lv_iconst (v := 2) hx hb dX12_proudSize_5 (by decide) ?_
    refine lv_icmp_ne (tgt := 13) hx hb dX12_proudSize_6 (by decide) (fun c8 => ?_) (fun c8 => ?_)
    · refine lv_iconst (v := 0) hx hb dX12_proudSize_13 (by decide) ?_
      exact K2 _ (by first | with_reducible rfl | (simp only [bI, eq_false c8, not_true_eq_false, not_false_eq_true, ite_true, ite_false, if_true, if_false, and_self, and_true, true_and, false_and, and_false, or_true, true_or, or_false, false_or]; done) | (simp [bI, eq_false c8]; done) | omega)
    · refine lv_iconst (v := 1) hx hb dX12_proudSize_9 (by decide) ?_
      refine lv_goto (tgt := 14) hx hb dX12_proudSize_10 (by decide) ?_
      exact K2 _ (by first | with_reducible rfl | (simp only [bI, eq_true c8, not_true_eq_false, not_false_eq_true, ite_true, ite_false, if_true, if_false, and_self, and_true, true_and, false_and, and_false, or_true, true_or, or_false, false_or]; done) | (simp [bI, eq_true c8]; done) | omega)
set_option maxHeartbeats 4000000 in
set_option maxRecDepth 100000 in
theorem c_X12_crossMark (l : Launch) (D : va_G) (cI cZ cT : ClassId) (A0 : Nat → Nat) (ss tp fk fp ap sp tk vl ac : Int32) (la ma it sr bt nw dr pa im kp : Nat → Int32) (σ : Nat × (Nat → Int32)) (r : Nat) (hr_ : r ≤ 5) (hz : σ.1 ≤ 16) : Met l yX12_crossMark wsX12_crossMark ({ frames := 2, cells := 0, slots := 0, locals := 45 }) (pM D cI cZ cT [.ref (A0 0), .int (nI (r))] (wM cI cZ A0 ss tp fk fp ap sp tk vl ac (nI σ.1) la ma it sr bt nw dr pa im kp σ.2)) (qM D (some (.int ((m_cmark nw r σ).1))) (wM cI cZ A0 ss tp fk fp ap sp tk vl ac (nI (m_cmark nw r σ).2.1) la ma it sr bt nw dr pa im kp ((m_cmark nw r σ).2.2)) (adr (wM cI cZ A0 ss tp fk fp ap sp tk vl ac (nI σ.1) la ma it sr bt nw dr pa im kp σ.2))) 0 0 (adr (wM cI cZ A0 ss tp fk fp ap sp tk vl ac (nI σ.1) la ma it sr bt nw dr pa im kp σ.2)) := by
  refine Met.ofW (cc := cX12_crossMark) (maxL := 2) (ret := (some .int)) (by decide) rfl ?_
  intro p e s m args below meth c s₁ B hml hv
  obtain ⟨rfl, hP, hD0, hK⟩ := hv
  have hx := B.exec
  have hb := B.bytes
  have hr := B.returns
  have hts := atoms_spec (ws := wsX12_crossMark) B.pre
  have hown : s.vm.findClass RX12 = some m.cls := findClass_of_methodNamed B.named
  have hlocks := B.notSynchronized
  have hD := hD0.toAdr
  have hS : va_S (adr (wM cI cZ A0 ss tp fk fp ap sp tk vl ac (nI σ.1) la ma it sr bt nw dr pa im kp σ.2)) s.heap s.heap [] := va_S.rf
  generalize adr (wM cI cZ A0 ss tp fk fp ap sp tk vl ac (nI σ.1) la ma it sr bt nw dr pa im kp σ.2) = A at hD hS ⊢
  have hl := lv_entry ([.ref (A0 0), .int (nI (r))]) (n := 2) (Nat.le_of_ble_eq_true rfl)
  rw [lg_entry_eq]
  generalize (lg_sl ([.ref (A0 0), .int (nI (r))]) ++ List.replicate (2 - (lg_sl ([.ref (A0 0), .int (nI (r))])).length) Slot.unset).toArray = ls at hl ⊢
  have hl : lv_has ls 2 [(0, .ref (A0 0)), (1, .int (nI (r)))] := hl
  refine lv_aload_n hx hb dX12_crossMark_0 rfl (lv_at hl 0 rfl) ?_
  refine lv_bipush (v := 23) hx hb dX12_crossMark_1 (by decide) ?_
  refine b_callM [0, 1, 2, 3, 4, 5, 6, 7, 8, 9, 10, 11] (va_runV (As := [.int 23]) (rest := []) ⟨hx, hb, hml, hown, hts⟩ (c_X12_begins l D cI cZ cT A0 ss tp fk fp ap sp tk vl ac la ma it sr bt nw dr pa im kp σ 23 hz) (cwV 1 hts gX12_crossMark_X12_begins rfl rfl rfl (by decide +kernel) ⟨(Nat.le_of_ble_eq_true rfl), (Nat.le_of_ble_eq_true rfl)⟩) (b_pVM hK hP hD [0, 1, 2, 3, 4, 5, 6, 7, 8, 9, 10, 11] (by decide) rfl rfl 0 rfl rfl) rfl rfl hl.1 rfl (lv_room (Nat.le_of_ble_eq_true rfl)) dX12_crossMark_3 ⟨Nat.zero_le _, Nat.zero_le _⟩).run hP hD hS rfl (Nat.le_of_ble_eq_true rfl) (fun H locs hP hS => ?_)
  have hP : va_P D vwCl (wM cI cZ A0 ss tp fk fp ap sp tk vl ac (nI (m_beg σ 23).1) la ma it sr bt nw dr pa im kp ((m_beg σ 23).2)) H := hP
  generalize eq3 : m_beg σ 23 = q3 at hP ⊢
  have hP : va_P D vwCl (wM cI cZ A0 ss tp fk fp ap sp tk vl ac (nI q3.1) la ma it sr bt nw dr pa im kp q3.2) H := hP
  have hD : va_D A (wM cI cZ A0 ss tp fk fp ap sp tk vl ac (nI q3.1) la ma it sr bt nw dr pa im kp q3.2) := hD.sameA [(A0 0), (A0 1), (A0 2), (A0 3), (A0 4), (A0 5), (A0 6), (A0 7), (A0 8), (A0 9), (A0 10), (A0 11)] rfl rfl
  have hq3 : q3.1 ≤ 16 := by rw [← eq3]; exact m_beg_le hz
  refine lv_aload_n hx hb dX12_crossMark_6 rfl (lv_at hl 0 rfl) ?_
  refine lv_bipush (v := 20) hx hb dX12_crossMark_7 (by decide) ?_
  refine b_callM [0, 1, 2, 3, 4, 5, 6, 7, 8, 9, 10, 11] (va_runV (As := [.int 20]) (rest := []) ⟨hx, hb, hml, hown, hts⟩ (c_X12_begins l D cI cZ cT A0 ss tp fk fp ap sp tk vl ac la ma it sr bt nw dr pa im kp q3 20 hq3) (cwV 1 hts gX12_crossMark_X12_begins rfl rfl rfl (by decide +kernel) ⟨(Nat.le_of_ble_eq_true rfl), (Nat.le_of_ble_eq_true rfl)⟩) (b_pVM hK hP hD [0, 1, 2, 3, 4, 5, 6, 7, 8, 9, 10, 11] (by decide) rfl rfl 0 rfl rfl) rfl rfl hl.1 rfl (lv_room (Nat.le_of_ble_eq_true rfl)) dX12_crossMark_9 ⟨Nat.zero_le _, Nat.zero_le _⟩).run hP hD hS rfl (Nat.le_of_ble_eq_true rfl) (fun H locs hP hS => ?_)
  have hP : va_P D vwCl (wM cI cZ A0 ss tp fk fp ap sp tk vl ac (nI (m_beg q3 20).1) la ma it sr bt nw dr pa im kp ((m_beg q3 20).2)) H := hP
  generalize eq9 : m_beg q3 20 = q9 at hP ⊢
  have hP : va_P D vwCl (wM cI cZ A0 ss tp fk fp ap sp tk vl ac (nI q9.1) la ma it sr bt nw dr pa im kp q9.2) H := hP
  have hD : va_D A (wM cI cZ A0 ss tp fk fp ap sp tk vl ac (nI q9.1) la ma it sr bt nw dr pa im kp q9.2) := hD.sameA [(A0 0), (A0 1), (A0 2), (A0 3), (A0 4), (A0 5), (A0 6), (A0 7), (A0 8), (A0 9), (A0 10), (A0 11)] rfl rfl
  have hq9 : q9.1 ≤ 16 := by rw [← eq9]; exact m_beg_le hq3
  refine lv_iload_n hx hb dX12_crossMark_12 rfl (lv_at hl 1 rfl) ?_
  refine lv_aload_n hx hb dX12_crossMark_13 rfl (lv_at hl 0 rfl) ?_
  refine lv_iload_n hx hb dX12_crossMark_14 rfl (lv_at hl 1 rfl) ?_
  refine b_callM [0, 1, 2, 3, 4, 5, 6, 7, 8, 9, 10, 11] (va_runV (As := [.int (nI (r))]) (rest := [.int (nI (r))]) ⟨hx, hb, hml, hown, hts⟩ (c_X12_crossSize l D cI cZ cT A0 ss tp fk fp ap sp tk vl ac la ma it sr bt nw dr pa im kp q9 r hr_ hq9) (cwV 1 hts gX12_crossMark_X12_crossSize rfl rfl rfl (by decide +kernel) ⟨(Nat.le_of_ble_eq_true rfl), (Nat.le_of_ble_eq_true rfl)⟩) (b_pVM hK hP hD [0, 1, 2, 3, 4, 5, 6, 7, 8, 9, 10, 11] (by decide) rfl rfl 0 rfl rfl) rfl rfl hl.1 rfl (lv_room (Nat.le_of_ble_eq_true rfl)) dX12_crossMark_15 ⟨Nat.zero_le _, Nat.zero_le _⟩).run hP hD hS rfl (Nat.le_of_ble_eq_true rfl) (fun H locs hP hS => ?_)
  have hP : va_P D vwCl (wM cI cZ A0 ss tp fk fp ap sp tk vl ac (nI (m_csize nw r q9).2.1) la ma it sr bt nw dr pa im kp ((m_csize nw r q9).2.2)) H := hP
  generalize eq15 : m_csize nw r q9 = q15 at hP ⊢
  have hP : va_P D vwCl (wM cI cZ A0 ss tp fk fp ap sp tk vl ac (nI q15.2.1) la ma it sr bt nw dr pa im kp q15.2.2) H := hP
  have hD : va_D A (wM cI cZ A0 ss tp fk fp ap sp tk vl ac (nI q15.2.1) la ma it sr bt nw dr pa im kp q15.2.2) := hD.sameA [(A0 0), (A0 1), (A0 2), (A0 3), (A0 4), (A0 5), (A0 6), (A0 7), (A0 8), (A0 9), (A0 10), (A0 11)] rfl rfl
  refine lv_isub hx hb dX12_crossMark_18 ?_
  have E : m_cmark nw r σ = (((nI (r)) - q15.1), q15.2) := (by rw [← eq15, ← eq9, ← eq3]; first | (simp only [m_cmark, not_true_eq_false, not_false_eq_true, ite_true, ite_false, if_true, if_false, and_self, and_true, true_and, false_and, and_false, or_true, true_or, or_false, false_or]; done))
  rw [E]
  exact b_retM hx hb hr hP hS rfl dX12_crossMark_19 hlocks
theorem u_X12_ask_X12 : ∀ w ∈ wsX120, w ∈ wsX12_ask := fun _ h => List.mem_cons_of_mem _ (List.mem_append_right _ h)
set_option maxHeartbeats 4000000 in
set_option maxRecDepth 100000 in
theorem c_X12_ask (l : Launch) (D : va_G) (cI cZ cT : ClassId) (A0 : Nat → Nat) (ss tp fk fp ap sp tk vl ac : Int32) (la ma it sr bt nw dr pa im kp : Nat → Int32) (σ : Nat × (Nat → Int32)) (reader what : Int32) (n : Nat) (hW : TK nw n) (hz : σ.1 ≤ 16) : Met l yX12_ask wsX12_ask ({ frames := 3, cells := 0, slots := 0, locals := 68 }) (pM D cI cZ cT [.ref (A0 0), .int reader, .int what] (wM cI cZ A0 ss tp fk fp ap sp tk vl ac (nI σ.1) la ma it sr bt nw dr pa im kp σ.2)) (qM D (some (.int ((m_ask nw σ reader what).1))) (wM cI cZ A0 ss tp fk fp ap sp tk vl ac (nI (m_ask nw σ reader what).2.1) la ma it sr bt nw dr pa im kp ((m_ask nw σ reader what).2.2)) (adr (wM cI cZ A0 ss tp fk fp ap sp tk vl ac (nI σ.1) la ma it sr bt nw dr pa im kp σ.2))) 0 0 (adr (wM cI cZ A0 ss tp fk fp ap sp tk vl ac (nI σ.1) la ma it sr bt nw dr pa im kp σ.2)) := by
  refine Met.ofW (cc := cX12_ask) (maxL := 4) (ret := (some .int)) (by decide) rfl ?_
  intro p e s m args below meth c s₁ B hml hv
  obtain ⟨rfl, hP, hD0, hK⟩ := hv
  have hx := B.exec
  have hb := B.bytes
  have hr := B.returns
  have hts := atoms_spec (ws := wsX12_ask) B.pre
  have hown : s.vm.findClass RX12 = some m.cls := findClass_of_methodNamed B.named
  have hlocks := B.notSynchronized
  have hD := hD0.toAdr
  have hS : va_S (adr (wM cI cZ A0 ss tp fk fp ap sp tk vl ac (nI σ.1) la ma it sr bt nw dr pa im kp σ.2)) s.heap s.heap [] := va_S.rf
  generalize adr (wM cI cZ A0 ss tp fk fp ap sp tk vl ac (nI σ.1) la ma it sr bt nw dr pa im kp σ.2) = A at hD hS ⊢
  have hl := lv_entry ([.ref (A0 0), .int reader, .int what]) (n := 4) (Nat.le_of_ble_eq_true rfl)
  rw [lg_entry_eq]
  generalize (lg_sl ([.ref (A0 0), .int reader, .int what]) ++ List.replicate (4 - (lg_sl ([.ref (A0 0), .int reader, .int what])).length) Slot.unset).toArray = ls at hl ⊢
  have hl : lv_has ls 4 [(0, .ref (A0 0)), (1, .int reader), (2, .int what)] := hl
  refine lv_aload_n hx hb dX12_ask_0 rfl (lv_at hl 0 rfl) ?_
  refine lv_iload_n hx hb dX12_ask_1 rfl (lv_at hl 1 rfl) ?_
  refine b_call (va_runV (As := [.int reader]) (rest := []) ⟨hx, hb, hml, hown, hts⟩ (c_X12_isReader l D cI cZ cT A0 ss tp fk fp ap sp tk vl ac (nI σ.1) la ma it sr bt nw dr pa im kp σ.2 reader) (cwV 1 hts gX12_ask_X12_isReader rfl rfl rfl (by decide +kernel) ⟨(Nat.le_of_ble_eq_true rfl), (Nat.le_of_ble_eq_true rfl)⟩) (b_pV hK hP [0, 1, 2, 3, 4, 5, 6, 7, 8, 9, 10, 11] rfl 0 rfl rfl) rfl rfl hl.1 rfl (lv_room (Nat.le_of_ble_eq_true rfl)) dX12_ask_2 ⟨Nat.zero_le _, Nat.zero_le _⟩).run ?_
  refine b_ifeq (tgt := 17) hx hb dX12_ask_5 (by decide) (fun c1 => ?_) (fun c1 => ?_)
  · refine lv_ldc (v := (-1000001)) hx hb hown (hts (.constant RX12 58 (-1000001)) (List.mem_of_getElem? (i := 1) rfl)) dX12_ask_17 ?_
    have E : m_ask nw σ reader what = ((-1000001), σ) := (by first | (simp only [m_ask, eq_false c1, not_true_eq_false, not_false_eq_true, ite_true, ite_false, if_true, if_false, and_self, and_true, true_and, false_and, and_false, or_true, true_or, or_false, false_or]; done))
    rw [E]
    exact b_retM hx hb hr hP hS rfl dX12_ask_19 hlocks
  · refine lv_iload_n hx hb dX12_ask_8 rfl (lv_at hl 2 rfl) ?_
    refine lv_iconst (v := 0) hx hb dX12_ask_9 (by decide) ?_
    refine lv_iconst (v := 1) hx hb dX12_ask_10 (by decide) ?_
    refine b_call (va_runS (As := [.int what, .int 0, .int 1]) (rest := []) ⟨hx, hb, hml, hown, hts⟩ (c_X12_in l D cI cZ cT what 0 1) (va_cwS 3 hts gX12_ask_X12_in rfl rfl rfl (by decide +kernel) ⟨(Nat.le_of_ble_eq_true rfl), (Nat.le_of_ble_eq_true rfl)⟩) (b_pS0 hK) rfl rfl hl.1 rfl (lv_room (Nat.le_of_ble_eq_true rfl)) dX12_ask_11 ⟨Nat.zero_le _, Nat.zero_le _⟩).run ?_
    refine b_ifne (tgt := 20) hx hb dX12_ask_14 (by decide) (fun c2 => ?_) (fun c2 => ?_)
    · obtain ⟨r, hh_r, rfl⟩ : ∃ r : Nat, r ≤ 5 ∧ reader = nI r := i_rd hW c1
      have hl : lv_has ls 4 [(0, .ref (A0 0)), (1, .int (nI (r))), (2, .int what)] := hl
      have htr : tn (nI r) = r := tn_nI hh_r
      refine lv_aload_n hx hb dX12_ask_20 rfl (lv_at hl 0 rfl) ?_
      refine lv_iconst (v := (nI 0)) hx hb dX12_ask_21 (by decide) ?_
      refine b_put (C := RX12) (T := TX12) (N := 21) hx hb hts u_X12_ask_X12 tyX12 tyX12_ok nmX12 hown hK hP hD hS 0 rfl rfl 20 (by decide) (hts (.fieldLink RX12 183 "NoticeWeekModel" "traced" "I") (List.mem_of_getElem? (i := 2) rfl)) rfl (by decide +kernel) (Nat.le_of_ble_eq_true rfl) dX12_ask_22 (fun H locs hP hS => ?_)
      have hP : va_P D vwCl (wM cI cZ A0 ss tp fk fp ap sp tk vl ac (nI 0) la ma it sr bt nw dr pa im kp σ.2) H := hP
      have hD : va_D A (wM cI cZ A0 ss tp fk fp ap sp tk vl ac (nI 0) la ma it sr bt nw dr pa im kp σ.2) := hD.sameA [(A0 0), (A0 1), (A0 2), (A0 3), (A0 4), (A0 5), (A0 6), (A0 7), (A0 8), (A0 9), (A0 10), (A0 11)] rfl rfl
      refine b_join (jpc := 39) (rest' := []) (P := fun v : Int32 => v = ((bI (¬ nw (4 + 4 * r) < 4)) : Int32)) (fun v3 ev3 => ?_) (fun K4 => ?_)
      · subst ev3
        refine lv_istore_n (lv' := [(3, .int (bI (¬ nw (4 + 4 * r) < 4))), (0, .ref (A0 0)), (1, .int (nI (r))), (2, .int what)]) hx hb dX12_ask_39 rfl hl (by decide) rfl (fun ls hl => ?_)
        refine lv_iload_n hx hb dX12_ask_40 rfl (lv_at hl 3 rfl) ?_
        refine lv_if_ne (tgt := 62) hx hb dX12_ask_41 (by decide) (fun c5 => ?_) (fun c5 => ?_)
        · refine lv_iload_n hx hb dX12_ask_62 rfl (lv_at hl 0 rfl) ?_
          refine b_ifeq (tgt := 74) hx hb dX12_ask_63 (by decide) (fun c6 => ?_) (fun c6 => ?_)
          · refine lv_aload_n hx hb dX12_ask_74 rfl (lv_at hl 1 rfl) ?_
            refine lv_iload_n hx hb dX12_ask_75 rfl (lv_at hl 2 rfl) ?_
            refine b_callM [0, 1, 2, 3, 4, 5, 6, 7, 8, 9, 10, 11] (va_runV (As := [.int (nI (r))]) (rest := []) ⟨hx, hb, hml, hown, hts⟩ (c_X12_proudMark l D cI cZ cT A0 ss tp fk fp ap sp tk vl ac la ma it sr bt nw dr pa im kp (0, σ.2) r (by omega) (Nat.zero_le 16)) (cwV 1 hts gX12_ask_X12_proudMark rfl rfl rfl (by decide +kernel) ⟨(Nat.le_of_ble_eq_true rfl), (Nat.le_of_ble_eq_true rfl)⟩) (b_pVM hK hP hD [0, 1, 2, 3, 4, 5, 6, 7, 8, 9, 10, 11] (by decide) rfl rfl 0 rfl rfl) rfl rfl hl.1 rfl (lv_room (Nat.le_of_ble_eq_true rfl)) dX12_ask_76 ⟨Nat.zero_le _, Nat.zero_le _⟩).run hP hD hS rfl (Nat.le_of_ble_eq_true rfl) (fun H locs hP hS => ?_)
            have hP : va_P D vwCl (wM cI cZ A0 ss tp fk fp ap sp tk vl ac (nI (m_pmark nw r (0, σ.2)).2.1) la ma it sr bt nw dr pa im kp ((m_pmark nw r (0, σ.2)).2.2)) H := hP
            generalize eq76 : m_pmark nw r (0, σ.2) = q76 at hP ⊢
            have hP : va_P D vwCl (wM cI cZ A0 ss tp fk fp ap sp tk vl ac (nI q76.2.1) la ma it sr bt nw dr pa im kp q76.2.2) H := hP
            have hD : va_D A (wM cI cZ A0 ss tp fk fp ap sp tk vl ac (nI q76.2.1) la ma it sr bt nw dr pa im kp q76.2.2) := hD.sameA [(A0 0), (A0 1), (A0 2), (A0 3), (A0 4), (A0 5), (A0 6), (A0 7), (A0 8), (A0 9), (A0 10), (A0 11)] rfl rfl
            have E : m_ask nw σ (nI r) what = (q76.1, q76.2) := (by rw [← eq76]; first | (simp only [m_ask, eq_true c1, eq_true c2, eq_false c5, eq_false c6, htr, not_true_eq_false, not_false_eq_true, ite_true, ite_false, if_true, if_false, and_self, and_true, true_and, false_and, and_false, or_true, true_or, or_false, false_or]; done) | exact absurd (c1.symm.trans c2) (by decide))
            rw [E]
            exact b_retM hx hb hr hP hS rfl dX12_ask_79 hlocks
          · refine lv_aload_n hx hb dX12_ask_66 rfl (lv_at hl 1 rfl) ?_
            refine lv_iload_n hx hb dX12_ask_67 rfl (lv_at hl 2 rfl) ?_
            refine b_callM [0, 1, 2, 3, 4, 5, 6, 7, 8, 9, 10, 11] (va_runV (As := [.int (nI (r))]) (rest := []) ⟨hx, hb, hml, hown, hts⟩ (c_X12_crossMark l D cI cZ cT A0 ss tp fk fp ap sp tk vl ac la ma it sr bt nw dr pa im kp (0, σ.2) r (by omega) (Nat.zero_le 16)) (cwV 1 hts gX12_ask_X12_crossMark rfl rfl rfl (by decide +kernel) ⟨(Nat.le_of_ble_eq_true rfl), (Nat.le_of_ble_eq_true rfl)⟩) (b_pVM hK hP hD [0, 1, 2, 3, 4, 5, 6, 7, 8, 9, 10, 11] (by decide) rfl rfl 0 rfl rfl) rfl rfl hl.1 rfl (lv_room (Nat.le_of_ble_eq_true rfl)) dX12_ask_68 ⟨Nat.zero_le _, Nat.zero_le _⟩).run hP hD hS rfl (Nat.le_of_ble_eq_true rfl) (fun H locs hP hS => ?_)
            have hP : va_P D vwCl (wM cI cZ A0 ss tp fk fp ap sp tk vl ac (nI (m_cmark nw r (0, σ.2)).2.1) la ma it sr bt nw dr pa im kp ((m_cmark nw r (0, σ.2)).2.2)) H := hP
            generalize eq68 : m_cmark nw r (0, σ.2) = q68 at hP ⊢
            have hP : va_P D vwCl (wM cI cZ A0 ss tp fk fp ap sp tk vl ac (nI q68.2.1) la ma it sr bt nw dr pa im kp q68.2.2) H := hP
            have hD : va_D A (wM cI cZ A0 ss tp fk fp ap sp tk vl ac (nI q68.2.1) la ma it sr bt nw dr pa im kp q68.2.2) := hD.sameA [(A0 0), (A0 1), (A0 2), (A0 3), (A0 4), (A0 5), (A0 6), (A0 7), (A0 8), (A0 9), (A0 10), (A0 11)] rfl rfl
            refine lv_goto (tgt := 79) hx hb dX12_ask_71 (by decide) ?_
            have E : m_ask nw σ (nI r) what = (q68.1, q68.2) := (by rw [← eq68]; first | (simp only [m_ask, eq_true c1, eq_true c2, eq_false c5, eq_true c6, htr, not_true_eq_false, not_false_eq_true, ite_true, ite_false, if_true, if_false, and_self, and_true, true_and, false_and, and_false, or_true, true_or, or_false, false_or]; done) | exact absurd (c1.symm.trans c2) (by decide) | exact absurd (c1.symm.trans c6) (by decide) | exact absurd (c2.symm.trans c6) (by decide))
            rw [E]
            exact b_retM hx hb hr hP hS rfl dX12_ask_79 hlocks
        · refine lv_iload_n hx hb dX12_ask_44 rfl (lv_at hl 0 rfl) ?_
          refine b_ifeq (tgt := 56) hx hb dX12_ask_45 (by decide) (fun c7 => ?_) (fun c7 => ?_)
          · refine lv_aload_n hx hb dX12_ask_56 rfl (lv_at hl 1 rfl) ?_
            refine lv_iload_n hx hb dX12_ask_57 rfl (lv_at hl 2 rfl) ?_
            refine b_callM [0, 1, 2, 3, 4, 5, 6, 7, 8, 9, 10, 11] (va_runV (As := [.int (nI (r))]) (rest := []) ⟨hx, hb, hml, hown, hts⟩ (c_X12_proudSize l D cI cZ cT A0 ss tp fk fp ap sp tk vl ac la ma it sr bt nw dr pa im kp (0, σ.2) r (by omega) (Nat.zero_le 16)) (cwV 1 hts gX12_ask_X12_proudSize rfl rfl rfl (by decide +kernel) ⟨(Nat.le_of_ble_eq_true rfl), (Nat.le_of_ble_eq_true rfl)⟩) (b_pVM hK hP hD [0, 1, 2, 3, 4, 5, 6, 7, 8, 9, 10, 11] (by decide) rfl rfl 0 rfl rfl) rfl rfl hl.1 rfl (lv_room (Nat.le_of_ble_eq_true rfl)) dX12_ask_58 ⟨Nat.zero_le _, Nat.zero_le _⟩).run hP hD hS rfl (Nat.le_of_ble_eq_true rfl) (fun H locs hP hS => ?_)
            have hP : va_P D vwCl (wM cI cZ A0 ss tp fk fp ap sp tk vl ac (nI (m_psize nw r (0, σ.2)).2.1) la ma it sr bt nw dr pa im kp ((m_psize nw r (0, σ.2)).2.2)) H := hP
            generalize eq58 : m_psize nw r (0, σ.2) = q58 at hP ⊢
            have hP : va_P D vwCl (wM cI cZ A0 ss tp fk fp ap sp tk vl ac (nI q58.2.1) la ma it sr bt nw dr pa im kp q58.2.2) H := hP
            have hD : va_D A (wM cI cZ A0 ss tp fk fp ap sp tk vl ac (nI q58.2.1) la ma it sr bt nw dr pa im kp q58.2.2) := hD.sameA [(A0 0), (A0 1), (A0 2), (A0 3), (A0 4), (A0 5), (A0 6), (A0 7), (A0 8), (A0 9), (A0 10), (A0 11)] rfl rfl
            have E : m_ask nw σ (nI r) what = (q58.1, q58.2) := (by rw [← eq58]; first | (simp only [m_ask, eq_true c1, eq_true c2, eq_true c5, eq_false c7, htr, not_true_eq_false, not_false_eq_true, ite_true, ite_false, if_true, if_false, and_self, and_true, true_and, false_and, and_false, or_true, true_or, or_false, false_or]; done) | exact absurd (c1.symm.trans c2) (by decide) | exact absurd (c1.symm.trans c5) (by decide) | exact absurd (c2.symm.trans c5) (by decide))
            rw [E]
            exact b_retM hx hb hr hP hS rfl dX12_ask_61 hlocks
          · refine lv_aload_n hx hb dX12_ask_48 rfl (lv_at hl 1 rfl) ?_
            refine lv_iload_n hx hb dX12_ask_49 rfl (lv_at hl 2 rfl) ?_
            refine b_callM [0, 1, 2, 3, 4, 5, 6, 7, 8, 9, 10, 11] (va_runV (As := [.int (nI (r))]) (rest := []) ⟨hx, hb, hml, hown, hts⟩ (c_X12_crossSize l D cI cZ cT A0 ss tp fk fp ap sp tk vl ac la ma it sr bt nw dr pa im kp (0, σ.2) r (by omega) (Nat.zero_le 16)) (cwV 1 hts gX12_ask_X12_crossSize rfl rfl rfl (by decide +kernel) ⟨(Nat.le_of_ble_eq_true rfl), (Nat.le_of_ble_eq_true rfl)⟩) (b_pVM hK hP hD [0, 1, 2, 3, 4, 5, 6, 7, 8, 9, 10, 11] (by decide) rfl rfl 0 rfl rfl) rfl rfl hl.1 rfl (lv_room (Nat.le_of_ble_eq_true rfl)) dX12_ask_50 ⟨Nat.zero_le _, Nat.zero_le _⟩).run hP hD hS rfl (Nat.le_of_ble_eq_true rfl) (fun H locs hP hS => ?_)
            have hP : va_P D vwCl (wM cI cZ A0 ss tp fk fp ap sp tk vl ac (nI (m_csize nw r (0, σ.2)).2.1) la ma it sr bt nw dr pa im kp ((m_csize nw r (0, σ.2)).2.2)) H := hP
            generalize eq50 : m_csize nw r (0, σ.2) = q50 at hP ⊢
            have hP : va_P D vwCl (wM cI cZ A0 ss tp fk fp ap sp tk vl ac (nI q50.2.1) la ma it sr bt nw dr pa im kp q50.2.2) H := hP
            have hD : va_D A (wM cI cZ A0 ss tp fk fp ap sp tk vl ac (nI q50.2.1) la ma it sr bt nw dr pa im kp q50.2.2) := hD.sameA [(A0 0), (A0 1), (A0 2), (A0 3), (A0 4), (A0 5), (A0 6), (A0 7), (A0 8), (A0 9), (A0 10), (A0 11)] rfl rfl
            refine lv_goto (tgt := 61) hx hb dX12_ask_53 (by decide) ?_
            have E : m_ask nw σ (nI r) what = (q50.1, q50.2) := (by rw [← eq50]; first | (simp only [m_ask, eq_true c1, eq_true c2, eq_true c5, eq_true c7, htr, not_true_eq_false, not_false_eq_true, ite_true, ite_false, if_true, if_false, and_self, and_true, true_and, false_and, and_false, or_true, true_or, or_false, false_or]; done) | exact absurd (c1.symm.trans c2) (by decide) | exact absurd (c1.symm.trans c5) (by decide) | exact absurd (c1.symm.trans c7) (by decide) | exact absurd (c2.symm.trans c5) (by decide) | exact absurd (c2.symm.trans c7) (by decide) | exact absurd (c5.symm.trans c7) (by decide))
            rw [E]
            exact b_retM hx hb hr hP hS rfl dX12_ask_61 hlocks
      · refine lv_aload_n hx hb dX12_ask_25 rfl (lv_at hl 0 rfl) ?_
        refine lv_iload_n hx hb dX12_ask_26 rfl (lv_at hl 1 rfl) ?_
        refine b_call (va_runV (As := [.int (nI (r))]) (rest := []) ⟨hx, hb, hml, hown, hts⟩ (c_X12_kindIn l D cI cZ cT A0 ss tp fk fp ap sp tk vl ac (nI 0) la ma it sr bt nw dr pa im kp σ.2 r (by omega)) (cwV 1 hts gX12_ask_X12_kindIn rfl rfl rfl (by decide +kernel) ⟨(Nat.le_of_ble_eq_true rfl), (Nat.le_of_ble_eq_true rfl)⟩) (b_pV hK hP [0, 1, 2, 3, 4, 5, 6, 7, 8, 9, 10, 11] rfl 0 rfl rfl) rfl rfl hl.1 rfl (lv_room (Nat.le_of_ble_eq_true rfl)) dX12_ask_27 ⟨Nat.zero_le _, Nat.zero_le _⟩).run ?_
        refine lv_iconst (v := 4) hx hb dX12_ask_30 (by decide) ?_
        refine lv_icmp_lt (tgt := 38) hx hb dX12_ask_31 (by decide) (fun c8 => ?_) (fun c8 => ?_)
        · refine lv_iconst (v := 0) hx hb dX12_ask_38 (by decide) ?_
          exact K4 _ (by first | with_reducible rfl | (simp only [bI, eq_true c1, eq_true c2, eq_true c8, not_true_eq_false, not_false_eq_true, ite_true, ite_false, if_true, if_false, and_self, and_true, true_and, false_and, and_false, or_true, true_or, or_false, false_or]; done) | (simp [bI, eq_true c1, eq_true c2, eq_true c8]; done) | omega)
        · refine lv_iconst (v := 1) hx hb dX12_ask_34 (by decide) ?_
          refine lv_goto (tgt := 39) hx hb dX12_ask_35 (by decide) ?_
          exact K4 _ (by first | with_reducible rfl | (simp only [bI, eq_true c1, eq_true c2, eq_false c8, not_true_eq_false, not_false_eq_true, ite_true, ite_false, if_true, if_false, and_self, and_true, true_and, false_and, and_false, or_true, true_or, or_false, false_or]; done) | (simp [bI, eq_true c1, eq_true c2, eq_false c8]; done) | omega)
    · refine lv_ldc (v := (-1000001)) hx hb hown (hts (.constant RX12 58 (-1000001)) (List.mem_of_getElem? (i := 1) rfl)) dX12_ask_17 ?_
      have E : m_ask nw σ reader what = ((-1000001), σ) := (by first | (simp only [m_ask, eq_true c1, eq_false c2, not_true_eq_false, not_false_eq_true, ite_true, ite_false, if_true, if_false, and_self, and_true, true_and, false_and, and_false, or_true, true_or, or_false, false_or]; done))
      rw [E]
      exact b_retM hx hb hr hP hS rfl dX12_ask_19 hlocks
theorem u_X12_trace_X12 : ∀ w ∈ wsX120, w ∈ wsX12_trace := fun _ h => List.mem_cons_of_mem _ (List.mem_append_right _ h)
set_option maxHeartbeats 4000000 in
set_option maxRecDepth 100000 in
theorem c_X12_trace (l : Launch) (D : va_G) (cI cZ cT : ClassId) (A0 : Nat → Nat) (ss tp fk fp ap sp tk vl ac : Int32) (zr : Nat) (la ma it sr bt nw dr pa im kp tc : Nat → Int32) (i : Int32) (hz : zr ≤ 16) : Met l yX12_trace wsX12_trace ({ frames := 1, cells := 0, slots := 0, locals := 22 }) (pR D cI cZ cT [.ref (A0 0), .int i] (wM cI cZ A0 ss tp fk fp ap sp tk vl ac (nI zr) la ma it sr bt nw dr pa im kp tc)) (QcRead (m_trace zr tc i)) 0 0 (fun _ => False) := by
  refine Met.ofW (cc := cX12_trace) (maxL := 2) (ret := (some .int)) (by decide) rfl ?_
  intro p e s m args below meth c s₁ B hml hv
  obtain ⟨rfl, hP, hK⟩ := hv
  have hx := B.exec
  have hb := B.bytes
  have hr := B.returns
  have hts := atoms_spec (ws := wsX12_trace) B.pre
  have hown : s.vm.findClass RX12 = some m.cls := findClass_of_methodNamed B.named
  have hlocks := B.notSynchronized
  have hl := lv_entry ([.ref (A0 0), .int i]) (n := 2) (Nat.le_of_ble_eq_true rfl)
  rw [lg_entry_eq]
  generalize (lg_sl ([.ref (A0 0), .int i]) ++ List.replicate (2 - (lg_sl ([.ref (A0 0), .int i])).length) Slot.unset).toArray = ls at hl ⊢
  have hl : lv_has ls 2 [(0, .ref (A0 0)), (1, .int i)] := hl
  refine lv_iload_n hx hb dX12_trace_0 rfl (lv_at hl 1 rfl) ?_
  refine lv_iconst (v := 0) hx hb dX12_trace_1 (by decide) ?_
  refine lv_aload_n hx hb dX12_trace_2 rfl (lv_at hl 0 rfl) ?_
  refine va_get (D := D) (ci := 11) (v := .int (nI (zr))) (C := RX12) (T := TX12) (N := 21) hx hb hts u_X12_trace_X12 hown hK.1 hP 0 rfl rfl 20 (by decide) (hts (.fieldLink RX12 183 "NoticeWeekModel" "traced" "I") (List.mem_of_getElem? (i := 1) rfl)) (fun _ h9 => h9) rfl dX12_trace_3 ?_
  refine lv_iconst (v := 1) hx hb dX12_trace_6 (by decide) ?_
  refine lv_isub hx hb dX12_trace_7 ?_
  refine b_call (va_runS (As := [.int i, .int 0, .int ((nI (zr)) - 1)]) (rest := []) ⟨hx, hb, hml, hown, hts⟩ (c_X12_in l D cI cZ cT i 0 ((nI (zr)) - 1)) (va_cwS 3 hts gX12_trace_X12_in rfl rfl rfl (by decide +kernel) ⟨(Nat.le_of_ble_eq_true rfl), (Nat.le_of_ble_eq_true rfl)⟩) (b_pS0 hK) rfl rfl hl.1 rfl (lv_room (Nat.le_of_ble_eq_true rfl)) dX12_trace_8 ⟨Nat.zero_le _, Nat.zero_le _⟩).run ?_
  refine b_ifeq (tgt := 23) hx hb dX12_trace_11 (by decide) (fun c1 => ?_) (fun c1 => ?_)
  · refine lv_ldc (v := (-1000000)) hx hb hown (hts (.constant RX12 44 (-1000000)) (List.mem_of_getElem? (i := 3) rfl)) dX12_trace_23 ?_
    exact b_ret hx hb hr (by first | (simp only [m_trace, eq_false c1, bI, not_true_eq_false, not_false_eq_true, ite_true, ite_false, if_true, if_false, and_self, and_true, true_and, false_and, and_false, or_true, true_or, or_false, false_or, eq_self]; done) | (simp [m_trace, eq_false c1, bI]; done)) dX12_trace_25 hlocks
  · obtain ⟨iv, hh_iv, rfl⟩ : ∃ r : Nat, r ≤ 15 ∧ i = nI r := i_belowN (by omega) (by omega) c1
    have hl : lv_has ls 2 [(0, .ref (A0 0)), (1, .int (nI (iv)))] := hl
    have hti : tn (nI iv) = iv := tn_nI hh_iv
    refine lv_aload_n hx hb dX12_trace_14 rfl (lv_at hl 0 rfl) ?_
    refine va_get (D := D) (ci := 11) (v := .ref (A0 11)) (C := RX12) (T := TX12) (N := 21) hx hb hts u_X12_trace_X12 hown hK.1 hP 0 rfl rfl 19 (by decide) (hts (.fieldLink RX12 41 "NoticeWeekModel" "trace" "[I") (List.mem_of_getElem? (i := 2) rfl)) (fun _ h9 => h9) rfl dX12_trace_15 ?_
    refine lv_iload_n hx hb dX12_trace_18 rfl (lv_at hl 1 rfl) ?_
    refine b_ald hx hb hK hP 11 rfl (by omega) (by decide) dX12_trace_19 ?_
    refine lv_goto (tgt := 25) hx hb dX12_trace_20 (by decide) ?_
    exact b_ret hx hb hr (by first | (simp only [m_trace, eq_true c1, hti, bI, not_true_eq_false, not_false_eq_true, ite_true, ite_false, if_true, if_false, and_self, and_true, true_and, false_and, and_false, or_true, true_or, or_false, false_or, eq_self]; done) | (simp [m_trace, eq_true c1, hti, bI]; done)) dX12_trace_25 hlocks
theorem u_X12_count_X12 : ∀ w ∈ wsX120, w ∈ wsX12_count := fun _ h => List.mem_cons_of_mem _ (List.mem_append_right _ h)
set_option maxHeartbeats 4000000 in
set_option maxRecDepth 100000 in
theorem c_X12_count (l : Launch) (D : va_G) (cI cZ cT : ClassId) (A0 : Nat → Nat) (ss : Int32) (t : Nat) (fk fp ap sp tk vl : Int32) (nc : Nat) (tr : Int32) (la ma it sr bt nw dr pa im kp tc : Nat → Int32) (what : Int32) (n : Nat) (hW : TK nw n) : Met l yX12_count wsX12_count ({ frames := 6, cells := 0, slots := 0, locals := 140 }) (pR D cI cZ cT [.ref (A0 0), .int what] (wM cI cZ A0 ss (nI t) fk fp ap sp tk vl (nI nc) tr la ma it sr bt nw dr pa im kp tc)) (QcRead (m_count nw la n nc t what)) 0 0 (fun _ => False) := by
  refine Met.ofW (cc := cX12_count) (maxL := 4) (ret := (some .int)) (by decide) rfl ?_
  intro p e s m args below meth c s₁ B hml hv
  obtain ⟨rfl, hP, hK⟩ := hv
  have hx := B.exec
  have hb := B.bytes
  have hr := B.returns
  have hts := atoms_spec (ws := wsX12_count) B.pre
  have hown : s.vm.findClass RX12 = some m.cls := findClass_of_methodNamed B.named
  have hlocks := B.notSynchronized
  have hl := lv_entry ([.ref (A0 0), .int what]) (n := 4) (Nat.le_of_ble_eq_true rfl)
  rw [lg_entry_eq]
  generalize (lg_sl ([.ref (A0 0), .int what]) ++ List.replicate (4 - (lg_sl ([.ref (A0 0), .int what])).length) Slot.unset).toArray = ls at hl ⊢
  have hl : lv_has ls 4 [(0, .ref (A0 0)), (1, .int what)] := hl
  have hn6 := hW.1
  have hR3 := hW.2.1
  refine lv_iconst (v := 0) hx hb dX12_count_0 (by decide) ?_
  refine lv_istore_n (lv' := [(2, .int 0), (0, .ref (A0 0)), (1, .int what)]) hx hb dX12_count_1 rfl hl (by decide) rfl (fun ls hl => ?_)
  refine lv_iload_n hx hb dX12_count_2 rfl (lv_at hl 2 rfl) ?_
  by_cases c1 : what = 0
  · refine lv_tableIn (tgt := 48) hx hb dX12_count_3 (by rw [c1]; decide) (by rw [c1]; decide) (off := 45) (by rw [c1]; decide) (by decide) ?_
    refine lv_iconst (v := (nI 0)) hx hb dX12_count_48 (by decide) ?_
    refine lv_istore_n (lv' := [(3, .int (nI 0)), (2, .int 0), (0, .ref (A0 0)), (1, .int what)]) hx hb dX12_count_49 rfl hl (by decide) rfl (fun ls hl => ?_)
    refine b_loopR (N := 8) (I := fun k ls => lv_has ls 4 [(3, .int (nI (k))), (2, .int (rwF la k)), (0, .ref (A0 0))]) (fun k hk ih2 ls hI => ?_) 0 (by omega) (lv_sub hl [0, 1, 2] rfl)
    have hl := hI
    have hl : lv_has ls 4 [(3, .int (nI (k))), (2, .int (rwF la k)), (0, .ref (A0 0))] := hl
    refine lv_iload_n hx hb dX12_count_50 rfl (lv_at hl 0 rfl) ?_
    refine lv_bipush (v := (nI 8)) hx hb dX12_count_51 (by decide) ?_
    refine b_ge (tgt := 78) hx hb (by omega) (by omega) dX12_count_53 (by decide) (fun c3 => ?_) (fun c3 => ?_)
    · have h_k : 8 = k := by omega
      subst h_k
      refine lv_iload_n hx hb dX12_count_78 rfl (lv_at hl 1 rfl) ?_
      exact b_ret hx hb hr (by first | (simp only [m_count, eq_true c1, eq_true c3, bI, not_true_eq_false, not_false_eq_true, ite_true, ite_false, if_true, if_false, and_self, and_true, true_and, false_and, and_false, or_true, true_or, or_false, false_or, eq_self]; done) | (simp [m_count, eq_true c1, eq_true c3, bI]; done)) dX12_count_79 hlocks
    · refine lv_iload_n hx hb dX12_count_56 rfl (lv_at hl 1 rfl) ?_
      refine b_join (jpc := 70) (rest' := [.int (rwF la k)]) (P := fun v : Int32 => v = ((if la k = -1000000 then 0 else 1) : Int32)) (fun v4 ev4 => ?_) (fun K5 => ?_)
      · subst ev4
        refine lv_iadd hx hb dX12_count_70 ?_
        refine lv_topi (fun x6 ex6 => ?_)
        refine lv_istore_n (lv' := [(2, .int x6), (3, .int (nI (k))), (0, .ref (A0 0))]) hx hb dX12_count_71 rfl hl (by decide) rfl (fun ls hl => ?_)
        refine lv_iinc (v := (nI (k + 1))) (lv' := [(3, .int (nI (k + 1))), (2, .int x6), (0, .ref (A0 0))]) hx hb dX12_count_72 hl (k := 1) rfl (nI_add _ _) (by decide) rfl (fun ls hl => ?_)
        refine lv_goto (tgt := 50) hx hb dX12_count_75 (by decide) ?_
        try subst ex6
        exact ih2 (by omega) ls (lv_sub hl [0, 1, 2] rfl)
      · refine lv_aload_n hx hb dX12_count_57 rfl (lv_at hl 2 rfl) ?_
        refine lv_iload_n hx hb dX12_count_58 rfl (lv_at hl 0 rfl) ?_
        refine b_call (va_runV (As := [.int (nI (k))]) (rest := [.int (rwF la k)]) ⟨hx, hb, hml, hown, hts⟩ (c_X12_isMissing l D cI cZ cT A0 ss (nI t) fk fp ap sp tk vl (nI nc) tr la ma it sr bt nw dr pa im kp tc k (by omega)) (cwV 1 hts gX12_count_X12_isMissing rfl rfl rfl (by decide +kernel) ⟨(Nat.le_of_ble_eq_true rfl), (Nat.le_of_ble_eq_true rfl)⟩) (b_pV hK hP [0, 1, 2, 3, 4, 5, 6, 7, 8, 9, 10, 11] rfl 0 rfl rfl) rfl rfl hl.1 rfl (lv_room (Nat.le_of_ble_eq_true rfl)) dX12_count_59 ⟨Nat.zero_le _, Nat.zero_le _⟩).run ?_
        refine b_ifeq (tgt := 69) hx hb dX12_count_62 (by decide) (fun c7 => ?_) (fun c7 => ?_)
        · refine lv_iconst (v := 1) hx hb dX12_count_69 (by decide) ?_
          exact K5 _ (by first | with_reducible rfl | (simp only [bI, eq_true c1, eq_true c3, eq_false c7, not_true_eq_false, not_false_eq_true, ite_true, ite_false, if_true, if_false, and_self, and_true, true_and, false_and, and_false, or_true, true_or, or_false, false_or]; done) | (simp [bI, eq_true c1, eq_true c3, eq_false c7]; done) | omega)
        · refine lv_iconst (v := 0) hx hb dX12_count_65 (by decide) ?_
          refine lv_goto (tgt := 70) hx hb dX12_count_66 (by decide) ?_
          exact K5 _ (by first | with_reducible rfl | (simp only [bI, eq_true c1, eq_true c3, eq_true c7, not_true_eq_false, not_false_eq_true, ite_true, ite_false, if_true, if_false, and_self, and_true, true_and, false_and, and_false, or_true, true_or, or_false, false_or]; done) | (simp [bI, eq_true c1, eq_true c3, eq_true c7]; done) | omega)
  by_cases c8 : what = 1
  · refine lv_tableIn (tgt := 80) hx hb dX12_count_3 (by rw [c8]; decide) (by rw [c8]; decide) (off := 77) (by rw [c8]; decide) (by decide) ?_
    refine lv_aload_n hx hb dX12_count_80 rfl (lv_at hl 1 rfl) ?_
    refine va_get (D := D) (ci := 11) (v := .ref (A0 6)) (C := RX12) (T := TX12) (N := 21) hx hb hts u_X12_count_X12 hown hK.1 hP 0 rfl rfl 13 (by decide) (hts (.fieldLink RX12 25 "NoticeWeekModel" "now" "[I") (List.mem_of_getElem? (i := 1) rfl)) (fun _ h9 => h9) rfl dX12_count_81 ?_
    refine lv_iconst (v := (nI 3)) hx hb dX12_count_84 (by decide) ?_
    refine b_ald hx hb hK hP 6 rfl (by omega) (by decide) dX12_count_85 ?_
    exact b_ret hx hb hr (by first | (simp only [m_count, eq_false c1, eq_true c8, bI, not_true_eq_false, not_false_eq_true, ite_true, ite_false, if_true, if_false, and_self, and_true, true_and, false_and, and_false, or_true, true_or, or_false, false_or, eq_self]; done) | (simp [m_count, eq_false c1, eq_true c8, bI]; done)) dX12_count_86 hlocks
  by_cases c9 : what = 2
  · refine lv_tableIn (tgt := 87) hx hb dX12_count_3 (by rw [c9]; decide) (by rw [c9]; decide) (off := 84) (by rw [c9]; decide) (by decide) ?_
    refine lv_aload_n hx hb dX12_count_87 rfl (lv_at hl 1 rfl) ?_
    refine b_call (va_runV (As := []) (rest := []) ⟨hx, hb, hml, hown, hts⟩ (c_X12_living l D cI cZ cT A0 ss (nI t) fk fp ap sp tk vl (nI nc) tr la ma it sr bt nw dr pa im kp tc n hW) (cwV 0 hts gX12_count_X12_living rfl rfl rfl (by decide +kernel) ⟨(Nat.le_of_ble_eq_true rfl), (Nat.le_of_ble_eq_true rfl)⟩) (b_pV hK hP [0, 1, 2, 3, 4, 5, 6, 7, 8, 9, 10, 11] rfl 0 rfl rfl) rfl rfl hl.1 rfl (lv_room (Nat.le_of_ble_eq_true rfl)) dX12_count_88 ⟨Nat.zero_le _, Nat.zero_le _⟩).run ?_
    refine b_call (va_runS (As := [.int (lvI nw n)]) (rest := []) ⟨hx, hb, hml, hown, hts⟩ (c_X12_ones l D cI cZ cT (lvI nw n)) (va_cwS 1 hts gX12_count_X12_ones rfl rfl rfl (by decide +kernel) ⟨(Nat.le_of_ble_eq_true rfl), (Nat.le_of_ble_eq_true rfl)⟩) (b_pS0 hK) rfl rfl hl.1 rfl (lv_room (Nat.le_of_ble_eq_true rfl)) dX12_count_91 ⟨Nat.zero_le _, Nat.zero_le _⟩).run ?_
    exact b_ret hx hb hr (by first | (simp only [m_count, eq_false c1, eq_false c8, eq_true c9, bI, not_true_eq_false, not_false_eq_true, ite_true, ite_false, if_true, if_false, and_self, and_true, true_and, false_and, and_false, or_true, true_or, or_false, false_or, eq_self]; done) | (simp [m_count, eq_false c1, eq_false c8, eq_true c9, bI]; done)) dX12_count_94 hlocks
  by_cases c10 : what = 3
  · refine lv_tableIn (tgt := 95) hx hb dX12_count_3 (by rw [c10]; decide) (by rw [c10]; decide) (off := 92) (by rw [c10]; decide) (by decide) ?_
    refine lv_aload_n hx hb dX12_count_95 rfl (lv_at hl 1 rfl) ?_
    refine va_get (D := D) (ci := 11) (v := .ref (A0 6)) (C := RX12) (T := TX12) (N := 21) hx hb hts u_X12_count_X12 hown hK.1 hP 0 rfl rfl 13 (by decide) (hts (.fieldLink RX12 25 "NoticeWeekModel" "now" "[I") (List.mem_of_getElem? (i := 1) rfl)) (fun _ h9 => h9) rfl dX12_count_96 ?_
    refine lv_iconst (v := (nI 2)) hx hb dX12_count_99 (by decide) ?_
    refine b_ald hx hb hK hP 6 rfl (by omega) (by decide) dX12_count_100 ?_
    exact b_ret hx hb hr (by first | (simp only [m_count, eq_false c1, eq_false c8, eq_false c9, eq_true c10, bI, not_true_eq_false, not_false_eq_true, ite_true, ite_false, if_true, if_false, and_self, and_true, true_and, false_and, and_false, or_true, true_or, or_false, false_or, eq_self]; done) | (simp [m_count, eq_false c1, eq_false c8, eq_false c9, eq_true c10, bI]; done)) dX12_count_101 hlocks
  by_cases c11 : what = 4
  · refine lv_tableIn (tgt := 102) hx hb dX12_count_3 (by rw [c11]; decide) (by rw [c11]; decide) (off := 99) (by rw [c11]; decide) (by decide) ?_
    refine lv_aload_n hx hb dX12_count_102 rfl (lv_at hl 1 rfl) ?_
    refine va_get (D := D) (ci := 11) (v := .ref (A0 6)) (C := RX12) (T := TX12) (N := 21) hx hb hts u_X12_count_X12 hown hK.1 hP 0 rfl rfl 13 (by decide) (hts (.fieldLink RX12 25 "NoticeWeekModel" "now" "[I") (List.mem_of_getElem? (i := 1) rfl)) (fun _ h9 => h9) rfl dX12_count_103 ?_
    refine lv_iconst (v := (nI 1)) hx hb dX12_count_106 (by decide) ?_
    refine b_ald hx hb hK hP 6 rfl (by omega) (by decide) dX12_count_107 ?_
    exact b_ret hx hb hr (by first | (simp only [m_count, eq_false c1, eq_false c8, eq_false c9, eq_false c10, eq_true c11, bI, not_true_eq_false, not_false_eq_true, ite_true, ite_false, if_true, if_false, and_self, and_true, true_and, false_and, and_false, or_true, true_or, or_false, false_or, eq_self]; done) | (simp [m_count, eq_false c1, eq_false c8, eq_false c9, eq_false c10, eq_true c11, bI]; done)) dX12_count_108 hlocks
  by_cases c12 : what = 5
  · refine lv_tableIn (tgt := 109) hx hb dX12_count_3 (by rw [c12]; decide) (by rw [c12]; decide) (off := 106) (by rw [c12]; decide) (by decide) ?_
    refine lv_iconst (v := (nI 0)) hx hb dX12_count_109 (by decide) ?_
    refine lv_istore_n (lv' := [(3, .int (nI 0)), (2, .int 0), (0, .ref (A0 0)), (1, .int what)]) hx hb dX12_count_110 rfl hl (by decide) rfl (fun ls hl => ?_)
    refine b_loopR (N := n) (I := fun k ls => lv_has ls 4 [(3, .int (nI (k))), (2, .int (trF nw k)), (0, .ref (A0 0))]) (fun k hk ih13 ls hI => ?_) 0 (by omega) (lv_sub hl [0, 1, 2] rfl)
    have hl := hI
    have hl : lv_has ls 4 [(3, .int (nI (k))), (2, .int (trF nw k)), (0, .ref (A0 0))] := hl
    refine lv_iload_n hx hb dX12_count_111 rfl (lv_at hl 0 rfl) ?_
    refine lv_aload_n hx hb dX12_count_112 rfl (lv_at hl 2 rfl) ?_
    refine va_get (D := D) (ci := 11) (v := .ref (A0 6)) (C := RX12) (T := TX12) (N := 21) hx hb hts u_X12_count_X12 hown hK.1 hP 0 rfl rfl 13 (by decide) (hts (.fieldLink RX12 25 "NoticeWeekModel" "now" "[I") (List.mem_of_getElem? (i := 1) rfl)) (fun _ h9 => h9) rfl dX12_count_113 ?_
    refine lv_iconst (v := (nI 3)) hx hb dX12_count_116 (by decide) ?_
    refine b_ald hx hb hK hP 6 rfl (by omega) (by decide) dX12_count_117 ?_
    rw [hR3]
    refine b_ge (tgt := 144) hx hb (by omega) (by omega) dX12_count_118 (by decide) (fun c14 => ?_) (fun c14 => ?_)
    · have h_k : n = k := by omega
      subst h_k
      refine lv_iload_n hx hb dX12_count_144 rfl (lv_at hl 1 rfl) ?_
      exact b_ret hx hb hr (by first | (simp only [m_count, eq_false c1, eq_false c8, eq_false c9, eq_false c10, eq_false c11, eq_true c12, eq_true c14, bI, not_true_eq_false, not_false_eq_true, ite_true, ite_false, if_true, if_false, and_self, and_true, true_and, false_and, and_false, or_true, true_or, or_false, false_or, eq_self]; done) | (simp [m_count, eq_false c1, eq_false c8, eq_false c9, eq_false c10, eq_false c11, eq_true c12, eq_true c14, bI]; done)) dX12_count_145 hlocks
    · refine lv_iload_n hx hb dX12_count_121 rfl (lv_at hl 1 rfl) ?_
      refine b_join (jpc := 136) (rest' := [.int (trF nw k)]) (P := fun v : Int32 => v = ((if fsI nw k 0 = 0 then 1 else 0) : Int32)) (fun v15 ev15 => ?_) (fun K16 => ?_)
      · subst ev15
        refine lv_iadd hx hb dX12_count_136 ?_
        refine lv_topi (fun x17 ex17 => ?_)
        refine lv_istore_n (lv' := [(2, .int x17), (3, .int (nI (k))), (0, .ref (A0 0))]) hx hb dX12_count_137 rfl hl (by decide) rfl (fun ls hl => ?_)
        refine lv_iinc (v := (nI (k + 1))) (lv' := [(3, .int (nI (k + 1))), (2, .int x17), (0, .ref (A0 0))]) hx hb dX12_count_138 hl (k := 1) rfl (nI_add _ _) (by decide) rfl (fun ls hl => ?_)
        refine lv_goto (tgt := 111) hx hb dX12_count_141 (by decide) ?_
        try subst ex17
        exact ih13 (by omega) ls (lv_sub hl [0, 1, 2] rfl)
      · refine lv_aload_n hx hb dX12_count_122 rfl (lv_at hl 2 rfl) ?_
        refine lv_iload_n hx hb dX12_count_123 rfl (lv_at hl 0 rfl) ?_
        refine lv_iconst (v := (nI 0)) hx hb dX12_count_124 (by decide) ?_
        refine b_call (va_runV (As := [.int (nI (k)), .int (nI 0)]) (rest := [.int (trF nw k)]) ⟨hx, hb, hml, hown, hts⟩ (c_X12_falseIn l D cI cZ cT A0 ss (nI t) fk fp ap sp tk vl (nI nc) tr la ma it sr bt nw dr pa im kp tc k 0 n (by omega) (by omega) hW) (cwV 2 hts gX12_count_X12_falseIn rfl rfl rfl (by decide +kernel) ⟨(Nat.le_of_ble_eq_true rfl), (Nat.le_of_ble_eq_true rfl)⟩) (b_pV hK hP [0, 1, 2, 3, 4, 5, 6, 7, 8, 9, 10, 11] rfl 0 rfl rfl) rfl rfl hl.1 rfl (lv_room (Nat.le_of_ble_eq_true rfl)) dX12_count_125 ⟨Nat.zero_le _, Nat.zero_le _⟩).run ?_
        refine lv_if_ne (tgt := 135) hx hb dX12_count_128 (by decide) (fun c18 => ?_) (fun c18 => ?_)
        · refine lv_iconst (v := 0) hx hb dX12_count_135 (by decide) ?_
          exact K16 _ (by first | with_reducible rfl | (simp only [bI, eq_false c1, eq_false c8, eq_false c9, eq_false c10, eq_false c11, eq_true c12, eq_true c14, eq_false c18, not_true_eq_false, not_false_eq_true, ite_true, ite_false, if_true, if_false, and_self, and_true, true_and, false_and, and_false, or_true, true_or, or_false, false_or]; done) | (simp [bI, eq_false c1, eq_false c8, eq_false c9, eq_false c10, eq_false c11, eq_true c12, eq_true c14, eq_false c18]; done) | omega)
        · refine lv_iconst (v := 1) hx hb dX12_count_131 (by decide) ?_
          refine lv_goto (tgt := 136) hx hb dX12_count_132 (by decide) ?_
          exact K16 _ (by first | with_reducible rfl | (simp only [bI, eq_false c1, eq_false c8, eq_false c9, eq_false c10, eq_false c11, eq_true c12, eq_true c14, eq_true c18, not_true_eq_false, not_false_eq_true, ite_true, ite_false, if_true, if_false, and_self, and_true, true_and, false_and, and_false, or_true, true_or, or_false, false_or]; done) | (simp [bI, eq_false c1, eq_false c8, eq_false c9, eq_false c10, eq_false c11, eq_true c12, eq_true c14, eq_true c18]; done) | omega)
  by_cases c19 : what = 6
  · refine lv_tableIn (tgt := 146) hx hb dX12_count_3 (by rw [c19]; decide) (by rw [c19]; decide) (off := 143) (by rw [c19]; decide) (by decide) ?_
    refine lv_aload_n hx hb dX12_count_146 rfl (lv_at hl 1 rfl) ?_
    refine va_get (D := D) (ci := 11) (v := .int (nI (nc))) (C := RX12) (T := TX12) (N := 21) hx hb hts u_X12_count_X12 hown hK.1 hP 0 rfl rfl 16 (by decide) (hts (.fieldLink RX12 129 "NoticeWeekModel" "acts" "I") (List.mem_of_getElem? (i := 2) rfl)) (fun _ h9 => h9) rfl dX12_count_147 ?_
    exact b_ret hx hb hr (by first | (simp only [m_count, eq_false c1, eq_false c8, eq_false c9, eq_false c10, eq_false c11, eq_false c12, eq_true c19, bI, not_true_eq_false, not_false_eq_true, ite_true, ite_false, if_true, if_false, and_self, and_true, true_and, false_and, and_false, or_true, true_or, or_false, false_or, eq_self]; done) | (simp [m_count, eq_false c1, eq_false c8, eq_false c9, eq_false c10, eq_false c11, eq_false c12, eq_true c19, bI]; done)) dX12_count_150 hlocks
  by_cases c20 : what = 7
  · refine lv_tableIn (tgt := 151) hx hb dX12_count_3 (by rw [c20]; decide) (by rw [c20]; decide) (off := 148) (by rw [c20]; decide) (by decide) ?_
    refine lv_aload_n hx hb dX12_count_151 rfl (lv_at hl 1 rfl) ?_
    refine va_get (D := D) (ci := 11) (v := .int (nI (t))) (C := RX12) (T := TX12) (N := 21) hx hb hts u_X12_count_X12 hown hK.1 hP 0 rfl rfl 6 (by decide) (hts (.fieldLink RX12 76 "NoticeWeekModel" "taped" "I") (List.mem_of_getElem? (i := 3) rfl)) (fun _ h9 => h9) rfl dX12_count_152 ?_
    exact b_ret hx hb hr (by first | (simp only [m_count, eq_false c1, eq_false c8, eq_false c9, eq_false c10, eq_false c11, eq_false c12, eq_false c19, eq_true c20, bI, not_true_eq_false, not_false_eq_true, ite_true, ite_false, if_true, if_false, and_self, and_true, true_and, false_and, and_false, or_true, true_or, or_false, false_or, eq_self]; done) | (simp [m_count, eq_false c1, eq_false c8, eq_false c9, eq_false c10, eq_false c11, eq_false c12, eq_false c19, eq_true c20, bI]; done)) dX12_count_155 hlocks
  refine lv_tableOut (tgt := 156) hx hb dX12_count_3 (sw_out0_7 c1 c8 c9 c10 c11 c12 c19 c20) (by decide) ?_
  refine lv_ldc (v := (-1000001)) hx hb hown (hts (.constant RX12 58 (-1000001)) (List.mem_of_getElem? (i := 4) rfl)) dX12_count_156 ?_
  exact b_ret hx hb hr (by first | (simp only [m_count, eq_false c1, eq_false c8, eq_false c9, eq_false c10, eq_false c11, eq_false c12, eq_false c19, eq_false c20, bI, not_true_eq_false, not_false_eq_true, ite_true, ite_false, if_true, if_false, and_self, and_true, true_and, false_and, and_false, or_true, true_or, or_false, false_or, eq_self]; done) | (simp [m_count, eq_false c1, eq_false c8, eq_false c9, eq_false c10, eq_false c11, eq_false c12, eq_false c19, eq_false c20, bI]; done)) dX12_count_158 hlocks
