/-! CLASS: foresight, second -/
abbrev flB (dy : Int32) (kd dd nt lf : Nat → Int32) (r : Nat) : Int32 := bc32 (dnB (kd r) dy (dd r) (nt r) (min 12 (min 60 (tn (lf r)))) ^^^ nt r)
def fuF (dy : Int32) (kd dd nt lf : Nat → Int32) (k : Nat) : Int32 × Int32 := itr (fun r x => if ¬ lf r ≤ 0 ∧ ¬ x.2 ≤ lf r ∧ ¬ flB dy kd dd nt lf r ≤ 0 then (nI r, lf r) else x) k (-1000000, 61)
abbrev wrD (kr dy dr : Int32) (q j : Nat) : Int32 := dnB kr dy dr (nI j) q
def wrF (kr dy dr deeds : Int32) (q k : Nat) : Int32 × Int32 := itr (fun j x => if deeds &&& (wrD kr dy dr q j ^^^ (-1)) = 0 ∧ ¬ x.2 ≤ bc32 (wrD kr dy dr q j ^^^ nI j) then (nI j, bc32 (wrD kr dy dr q j ^^^ nI j)) else x) k (-1000000, 7)
def dyF (kr dy dr nr : Int32) (q k : Nat) : Int32 × Int32 := itr (fun j x => if nI j &&& (dr ^^^ (-1)) = 0 ∧ ¬ x.2 ≤ bc32 (nI j) ∧ dnB kr dy (dr &&& (nI j ^^^ (-1))) nr q = nr then (nI j, bc32 (nI j)) else x) k (-1000000, 7)
def lcD (kk dy dr nu lr : Int32) (k : Nat) : Int32 := itr (fun i x => if lr ≤ nI i then x else x ||| tDo kk (dy + nI i) x nu) k dr
def lcC (kk dy dr nu lr : Int32) (co : Nat → Int32) (k : Nat) : Nat → Int32 := itr (fun j f => upd f j (lcD kk dy dr nu lr (j + 1))) k co
theorem u_X2_firstUntrue_X8 : ∀ w ∈ wsX80, w ∈ wsX2_firstUntrue := fun _ h => List.mem_cons_of_mem _ (List.mem_append_left _ (List.mem_append_right _ h))
set_option maxHeartbeats 4000000 in
set_option maxRecDepth 100000 in
theorem c_X2_firstUntrue (l : Launch) (D : va_G) (cI cZ cT : ClassId) (ta : Nat → Nat) (st dy ln : Int32) (n : Nat) (kd dd nt lf : Nat → Int32) (fa : Nat → Nat) (co wy : Nat → Int32) (hn : n ≤ 6) (hA : ∀ j, j < n → isK (kd j) ∧ isL (lf j)) : Met l yX2_firstUntrue wsX2_firstUntrue ({ frames := 5, cells := 0, slots := 0, locals := 120 }) (pR D cI cZ cT [.ref (fa 0), .ref (ta 0)] (wTown cI ta st dy ln (nI n) kd dd nt lf ++ wFore cI fa co wy)) (QcRead ((fuF dy kd dd nt lf n).1)) 0 0 (fun _ => False) := by
  refine Met.ofW (cc := cX2_firstUntrue) (maxL := 6) (ret := (some .int)) (by decide) rfl ?_
  intro p e s m args below meth c s₁ B hml hv
  obtain ⟨rfl, hP, hK⟩ := hv
  have hx := B.exec
  have hb := B.bytes
  have hr := B.returns
  have hts := atoms_spec (ws := wsX2_firstUntrue) B.pre
  have hown : s.vm.findClass RX2 = some m.cls := findClass_of_methodNamed B.named
  have hlocks := B.notSynchronized
  have hl := lv_entry ([.ref (fa 0), .ref (ta 0)]) (n := 6) (Nat.le_of_ble_eq_true rfl)
  rw [lg_entry_eq]
  generalize (lg_sl ([.ref (fa 0), .ref (ta 0)]) ++ List.replicate (6 - (lg_sl ([.ref (fa 0), .ref (ta 0)])).length) Slot.unset).toArray = ls at hl ⊢
  have hl : lv_has ls 6 [(0, .ref (fa 0)), (1, .ref (ta 0))] := hl
  refine lv_ldc (v := (-1000000)) hx hb hown (hts (.constant RX2 94 (-1000000)) (List.mem_of_getElem? (i := 1) rfl)) dX2_firstUntrue_0 ?_
  refine lv_istore_n (lv' := [(2, .int (-1000000)), (0, .ref (fa 0)), (1, .ref (ta 0))]) hx hb dX2_firstUntrue_2 rfl hl (by decide) rfl (fun ls hl => ?_)
  refine lv_bipush (v := 61) hx hb dX2_firstUntrue_3 (by decide) ?_
  refine lv_istore_n (lv' := [(3, .int 61), (2, .int (-1000000)), (0, .ref (fa 0)), (1, .ref (ta 0))]) hx hb dX2_firstUntrue_5 rfl hl (by decide) rfl (fun ls hl => ?_)
  refine lv_iconst (v := (nI 0)) hx hb dX2_firstUntrue_6 (by decide) ?_
  refine lv_istore (lv' := [(4, .int (nI 0)), (3, .int 61), (2, .int (-1000000)), (0, .ref (fa 0)), (1, .ref (ta 0))]) hx hb dX2_firstUntrue_7 hl (by decide) rfl (fun ls hl => ?_)
  refine b_loopR (N := n) (I := fun k ls => lv_has ls 6 [(4, .int (nI (k))), (3, .int ((fuF dy kd dd nt lf k).2)), (2, .int ((fuF dy kd dd nt lf k).1)), (0, .ref (fa 0)), (1, .ref (ta 0))]) (fun k hk ih1 ls hI => ?_) 0 (by omega) (lv_sub hl [0, 1, 2, 3, 4] rfl)
  have hl := hI
  have hl : lv_has ls 6 [(4, .int (nI (k))), (3, .int ((fuF dy kd dd nt lf k).2)), (2, .int ((fuF dy kd dd nt lf k).1)), (0, .ref (fa 0)), (1, .ref (ta 0))] := hl
  refine lv_iload hx hb dX2_firstUntrue_9 (lv_at hl 0 rfl) ?_
  refine lv_aload_n hx hb dX2_firstUntrue_11 rfl (lv_at hl 4 rfl) ?_
  refine va_get (D := D) (ci := 7) (v := .int (nI (n))) (C := RX8) (T := TX8) (N := 8) hx hb hts u_X2_firstUntrue_X8 hown hK.1 hP 0 rfl rfl 3 (by decide) (hts (.fieldLink RX2 95 "NoticeWeek$Town" "readers" "I") (List.mem_of_getElem? (i := 2) rfl)) (fun _ h9 => h9) rfl dX2_firstUntrue_12 ?_
  refine b_ge (tgt := 79) hx hb (by omega) (by omega) dX2_firstUntrue_15 (by decide) (fun c2 => ?_) (fun c2 => ?_)
  · have h_k : n = k := by omega
    subst h_k
    refine lv_iload_n hx hb dX2_firstUntrue_79 rfl (lv_at hl 2 rfl) ?_
    exact b_ret hx hb hr rfl dX2_firstUntrue_80 hlocks
  · refine lv_aload_n hx hb dX2_firstUntrue_18 rfl (lv_at hl 4 rfl) ?_
    refine lv_iload hx hb dX2_firstUntrue_19 (lv_at hl 0 rfl) ?_
    refine b_call (va_runV (As := [.int (nI (k))]) (rest := []) ⟨hx, hb, hml, hown, hts⟩ (c_X8_lives l D cI cZ cT ta st dy ln (nI n) kd dd nt lf k (by omega)) (cwV 1 hts gX2_firstUntrue_X8_lives rfl rfl rfl (by decide +kernel) ⟨(Nat.le_of_ble_eq_true rfl), (Nat.le_of_ble_eq_true rfl)⟩) (b_pV hK hP [0, 1, 2, 3, 4] rfl 0 rfl rfl) rfl rfl hl.1 rfl (lv_room (Nat.le_of_ble_eq_true rfl)) dX2_firstUntrue_21 ⟨Nat.zero_le _, Nat.zero_le _⟩).run ?_
    refine b_ifeq (tgt := 42) hx hb dX2_firstUntrue_24 (by decide) (fun c3 => ?_) (fun c3 => ?_)
    · refine lv_iconst (v := 0) hx hb dX2_firstUntrue_42 (by decide) ?_
      refine lv_istore (lv' := [(5, .int 0), (4, .int (nI (k))), (3, .int ((fuF dy kd dd nt lf k).2)), (2, .int ((fuF dy kd dd nt lf k).1)), (0, .ref (fa 0)), (1, .ref (ta 0))]) hx hb dX2_firstUntrue_43 hl (by decide) rfl (fun ls hl => ?_)
      refine lv_iload hx hb dX2_firstUntrue_45 (lv_at hl 0 rfl) ?_
      refine lv_if_eq (tgt := 73) hx hb dX2_firstUntrue_47 (by decide) (fun c4 => ?_) (fun c4 => absurd c4 (by decide))
      refine lv_iinc (v := (nI (k + 1))) (lv' := [(4, .int (nI (k + 1))), (5, .int 0), (3, .int ((fuF dy kd dd nt lf k).2)), (2, .int ((fuF dy kd dd nt lf k).1)), (0, .ref (fa 0)), (1, .ref (ta 0))]) hx hb dX2_firstUntrue_73 hl (k := 1) rfl (nI_add _ _) (by decide) rfl (fun ls hl => ?_)
      refine lv_goto (tgt := 9) hx hb dX2_firstUntrue_76 (by decide) ?_
      have st5 : (fuF dy kd dd nt lf k).2 = (fuF dy kd dd nt lf (k + 1)).2 := (by show _ = (if ¬ lf k ≤ 0 ∧ ¬ (fuF dy kd dd nt lf k).2 ≤ lf k ∧ ¬ flB dy kd dd nt lf k ≤ 0 then (nI k, lf k) else fuF dy kd dd nt lf k).2; rw [if_neg (fun z => by first | exact c3 z.1 | exact c3 z.2 | exact z.2 c3 | exact z.2.1 c3 | exact c3 z.2.1 | exact z.2.2 c3 | exact c3 z.2.2)])
      rw [st5] at hl
      have st6 : (fuF dy kd dd nt lf k).1 = (fuF dy kd dd nt lf (k + 1)).1 := (by show _ = (if ¬ lf k ≤ 0 ∧ ¬ (fuF dy kd dd nt lf k).2 ≤ lf k ∧ ¬ flB dy kd dd nt lf k ≤ 0 then (nI k, lf k) else fuF dy kd dd nt lf k).1; rw [if_neg (fun z => by first | exact c3 z.1 | exact c3 z.2 | exact z.2 c3 | exact z.2.1 c3 | exact c3 z.2.1 | exact z.2.2 c3 | exact c3 z.2.2)])
      rw [st6] at hl
      exact ih1 (by omega) ls (lv_sub hl [0, 2, 3, 4, 5] rfl)
    · refine lv_aload_n hx hb dX2_firstUntrue_27 rfl (lv_at hl 4 rfl) ?_
      refine va_get (D := D) (ci := 7) (v := .ref (ta 4)) (C := RX8) (T := TX8) (N := 8) hx hb hts u_X2_firstUntrue_X8 hown hK.1 hP 0 rfl rfl 7 (by decide) (hts (.fieldLink RX2 78 "NoticeWeek$Town" "left" "[I") (List.mem_of_getElem? (i := 3) rfl)) (fun _ h9 => h9) rfl dX2_firstUntrue_28 ?_
      refine lv_iload hx hb dX2_firstUntrue_31 (lv_at hl 0 rfl) ?_
      refine b_ald hx hb hK hP 4 rfl (by omega) (by decide) dX2_firstUntrue_33 ?_
      refine lv_iload_n hx hb dX2_firstUntrue_34 rfl (lv_at hl 1 rfl) ?_
      refine lv_icmp_ge (tgt := 42) hx hb dX2_firstUntrue_35 (by decide) (fun c7 => ?_) (fun c7 => ?_)
      · refine lv_iconst (v := 0) hx hb dX2_firstUntrue_42 (by decide) ?_
        refine lv_istore (lv' := [(5, .int 0), (4, .int (nI (k))), (3, .int ((fuF dy kd dd nt lf k).2)), (2, .int ((fuF dy kd dd nt lf k).1)), (0, .ref (fa 0)), (1, .ref (ta 0))]) hx hb dX2_firstUntrue_43 hl (by decide) rfl (fun ls hl => ?_)
        refine lv_iload hx hb dX2_firstUntrue_45 (lv_at hl 0 rfl) ?_
        refine lv_if_eq (tgt := 73) hx hb dX2_firstUntrue_47 (by decide) (fun c8 => ?_) (fun c8 => absurd c8 (by decide))
        refine lv_iinc (v := (nI (k + 1))) (lv' := [(4, .int (nI (k + 1))), (5, .int 0), (3, .int ((fuF dy kd dd nt lf k).2)), (2, .int ((fuF dy kd dd nt lf k).1)), (0, .ref (fa 0)), (1, .ref (ta 0))]) hx hb dX2_firstUntrue_73 hl (k := 1) rfl (nI_add _ _) (by decide) rfl (fun ls hl => ?_)
        refine lv_goto (tgt := 9) hx hb dX2_firstUntrue_76 (by decide) ?_
        have st9 : (fuF dy kd dd nt lf k).2 = (fuF dy kd dd nt lf (k + 1)).2 := (by show _ = (if ¬ lf k ≤ 0 ∧ ¬ (fuF dy kd dd nt lf k).2 ≤ lf k ∧ ¬ flB dy kd dd nt lf k ≤ 0 then (nI k, lf k) else fuF dy kd dd nt lf k).2; rw [if_neg (fun z => by first | exact c7 z.1 | exact c7 z.2 | exact z.2 c7 | exact z.2.1 c7 | exact c7 z.2.1 | exact z.2.2 c7 | exact c7 z.2.2)])
        rw [st9] at hl
        have st10 : (fuF dy kd dd nt lf k).1 = (fuF dy kd dd nt lf (k + 1)).1 := (by show _ = (if ¬ lf k ≤ 0 ∧ ¬ (fuF dy kd dd nt lf k).2 ≤ lf k ∧ ¬ flB dy kd dd nt lf k ≤ 0 then (nI k, lf k) else fuF dy kd dd nt lf k).1; rw [if_neg (fun z => by first | exact c7 z.1 | exact c7 z.2 | exact z.2 c7 | exact z.2.1 c7 | exact c7 z.2.1 | exact z.2.2 c7 | exact c7 z.2.2)])
        rw [st10] at hl
        exact ih1 (by omega) ls (lv_sub hl [0, 2, 3, 4, 5] rfl)
      · refine lv_iconst (v := 1) hx hb dX2_firstUntrue_38 (by decide) ?_
        refine lv_goto (tgt := 43) hx hb dX2_firstUntrue_39 (by decide) ?_
        refine lv_istore (lv' := [(5, .int 1), (4, .int (nI (k))), (3, .int ((fuF dy kd dd nt lf k).2)), (2, .int ((fuF dy kd dd nt lf k).1)), (0, .ref (fa 0)), (1, .ref (ta 0))]) hx hb dX2_firstUntrue_43 hl (by decide) rfl (fun ls hl => ?_)
        refine lv_iload hx hb dX2_firstUntrue_45 (lv_at hl 0 rfl) ?_
        refine lv_if_eq (tgt := 73) hx hb dX2_firstUntrue_47 (by decide) (fun c11 => absurd c11 (by decide)) (fun c11 => ?_)
        refine lv_aload_n hx hb dX2_firstUntrue_50 rfl (lv_at hl 4 rfl) ?_
        refine lv_aload_n hx hb dX2_firstUntrue_51 rfl (lv_at hl 5 rfl) ?_
        refine lv_iload hx hb dX2_firstUntrue_52 (lv_at hl 1 rfl) ?_
        refine lv_bipush (v := (nI 60)) hx hb dX2_firstUntrue_54 (by decide) ?_
        refine b_call (va_runV (As := [.ref (ta 0), .int (nI (k)), .int (nI 60)]) (rest := []) ⟨hx, hb, hml, hown, hts⟩ (c_X2_falseLinesBehind l D cI cZ cT ta st dy ln (nI n) kd dd nt lf fa co wy k 60 (by omega) (by omega) (hA k (by omega)).1 (hA k (by omega)).2) (cwV 3 hts gX2_firstUntrue_X2_falseLinesBehind rfl rfl rfl (by decide +kernel) ⟨(Nat.le_of_ble_eq_true rfl), (Nat.le_of_ble_eq_true rfl)⟩) (b_pV hK hP [0, 1, 2, 3, 4, 5, 6, 7, 8, 9, 10, 11, 12] rfl 5 rfl rfl) rfl rfl hl.1 rfl (lv_room (Nat.le_of_ble_eq_true rfl)) dX2_firstUntrue_56 ⟨Nat.zero_le _, Nat.zero_le _⟩).run ?_
        refine lv_if_le (tgt := 73) hx hb dX2_firstUntrue_59 (by decide) (fun c12 => ?_) (fun c12 => ?_)
        · refine lv_iinc (v := (nI (k + 1))) (lv' := [(4, .int (nI (k + 1))), (5, .int 1), (3, .int ((fuF dy kd dd nt lf k).2)), (2, .int ((fuF dy kd dd nt lf k).1)), (0, .ref (fa 0)), (1, .ref (ta 0))]) hx hb dX2_firstUntrue_73 hl (k := 1) rfl (nI_add _ _) (by decide) rfl (fun ls hl => ?_)
          refine lv_goto (tgt := 9) hx hb dX2_firstUntrue_76 (by decide) ?_
          have st13 : (fuF dy kd dd nt lf k).2 = (fuF dy kd dd nt lf (k + 1)).2 := (by show _ = (if ¬ lf k ≤ 0 ∧ ¬ (fuF dy kd dd nt lf k).2 ≤ lf k ∧ ¬ flB dy kd dd nt lf k ≤ 0 then (nI k, lf k) else fuF dy kd dd nt lf k).2; rw [if_neg (fun z => by first | exact c12 z.1 | exact c12 z.2 | exact z.2 c12 | exact z.2.1 c12 | exact c12 z.2.1 | exact z.2.2 c12 | exact c12 z.2.2)])
          rw [st13] at hl
          have st14 : (fuF dy kd dd nt lf k).1 = (fuF dy kd dd nt lf (k + 1)).1 := (by show _ = (if ¬ lf k ≤ 0 ∧ ¬ (fuF dy kd dd nt lf k).2 ≤ lf k ∧ ¬ flB dy kd dd nt lf k ≤ 0 then (nI k, lf k) else fuF dy kd dd nt lf k).1; rw [if_neg (fun z => by first | exact c12 z.1 | exact c12 z.2 | exact z.2 c12 | exact z.2.1 c12 | exact c12 z.2.1 | exact z.2.2 c12 | exact c12 z.2.2)])
          rw [st14] at hl
          exact ih1 (by omega) ls (lv_sub hl [0, 2, 3, 4, 5] rfl)
        · refine lv_iload hx hb dX2_firstUntrue_62 (lv_at hl 1 rfl) ?_
          refine lv_istore_n (lv' := [(2, .int (nI (k))), (5, .int 1), (4, .int (nI (k))), (3, .int ((fuF dy kd dd nt lf k).2)), (0, .ref (fa 0)), (1, .ref (ta 0))]) hx hb dX2_firstUntrue_64 rfl hl (by decide) rfl (fun ls hl => ?_)
          refine lv_aload_n hx hb dX2_firstUntrue_65 rfl (lv_at hl 5 rfl) ?_
          refine va_get (D := D) (ci := 7) (v := .ref (ta 4)) (C := RX8) (T := TX8) (N := 8) hx hb hts u_X2_firstUntrue_X8 hown hK.1 hP 0 rfl rfl 7 (by decide) (hts (.fieldLink RX2 78 "NoticeWeek$Town" "left" "[I") (List.mem_of_getElem? (i := 3) rfl)) (fun _ h9 => h9) rfl dX2_firstUntrue_66 ?_
          refine lv_iload hx hb dX2_firstUntrue_69 (lv_at hl 2 rfl) ?_
          refine b_ald hx hb hK hP 4 rfl (by omega) (by decide) dX2_firstUntrue_71 ?_
          refine lv_topi (fun x15 ex15 => ?_)
          refine lv_istore_n (lv' := [(3, .int x15), (2, .int (nI (k))), (5, .int 1), (4, .int (nI (k))), (0, .ref (fa 0)), (1, .ref (ta 0))]) hx hb dX2_firstUntrue_72 rfl hl (by decide) rfl (fun ls hl => ?_)
          refine lv_iinc (v := (nI (k + 1))) (lv' := [(4, .int (nI (k + 1))), (3, .int x15), (2, .int (nI (k))), (5, .int 1), (0, .ref (fa 0)), (1, .ref (ta 0))]) hx hb dX2_firstUntrue_73 hl (k := 3) rfl (nI_add _ _) (by decide) rfl (fun ls hl => ?_)
          refine lv_goto (tgt := 9) hx hb dX2_firstUntrue_76 (by decide) ?_
          have st16 : x15 = (fuF dy kd dd nt lf (k + 1)).2 := (by subst ex15; show _ = (if ¬ lf k ≤ 0 ∧ ¬ (fuF dy kd dd nt lf k).2 ≤ lf k ∧ ¬ flB dy kd dd nt lf k ≤ 0 then (nI k, lf k) else fuF dy kd dd nt lf k).2; rw [if_pos ⟨c3, c7, c12⟩])
          rw [st16] at hl
          have st17 : (nI (k)) = (fuF dy kd dd nt lf (k + 1)).1 := (by subst ex15; show _ = (if ¬ lf k ≤ 0 ∧ ¬ (fuF dy kd dd nt lf k).2 ≤ lf k ∧ ¬ flB dy kd dd nt lf k ≤ 0 then (nI k, lf k) else fuF dy kd dd nt lf k).1; rw [if_pos ⟨c3, c7, c12⟩])
          rw [st17] at hl
          exact ih1 (by omega) ls (lv_sub hl [0, 1, 2, 4, 5] rfl)
theorem u_X2_noticeToWrite_X8 : ∀ w ∈ wsX80, w ∈ wsX2_noticeToWrite := fun _ h => List.mem_cons_of_mem _ (List.mem_append_left _ (List.mem_append_right _ h))
set_option maxHeartbeats 4000000 in
set_option maxRecDepth 100000 in
theorem c_X2_noticeToWrite (l : Launch) (D : va_G) (cI cZ cT : ClassId) (ta : Nat → Nat) (st dy ln rd : Int32) (kd dd nt lf : Nat → Int32) (fa : Nat → Nat) (co wy : Nat → Int32) (r : Nat) (deeds : Int32) (hr_ : r ≤ 5) (hkd : isK (kd r)) (hlf : isL (lf r)) : Met l yX2_noticeToWrite wsX2_noticeToWrite ({ frames := 4, cells := 0, slots := 0, locals := 96 }) (pR D cI cZ cT [.ref (fa 0), .ref (ta 0), .int (nI (r)), .int deeds] (wTown cI ta st dy ln rd kd dd nt lf ++ wFore cI fa co wy)) (QcRead ((wrF (kd r) dy (dd r) deeds (min 12 (min 60 (tn (lf r)))) 64).1)) 0 0 (fun _ => False) := by
  refine Met.ofW (cc := cX2_noticeToWrite) (maxL := 9) (ret := (some .int)) (by decide) rfl ?_
  intro p e s m args below meth c s₁ B hml hv
  obtain ⟨rfl, hP, hK⟩ := hv
  have hx := B.exec
  have hb := B.bytes
  have hr := B.returns
  have hts := atoms_spec (ws := wsX2_noticeToWrite) B.pre
  have hown : s.vm.findClass RX2 = some m.cls := findClass_of_methodNamed B.named
  have hlocks := B.notSynchronized
  have hl := lv_entry ([.ref (fa 0), .ref (ta 0), .int (nI (r)), .int deeds]) (n := 9) (Nat.le_of_ble_eq_true rfl)
  rw [lg_entry_eq]
  generalize (lg_sl ([.ref (fa 0), .ref (ta 0), .int (nI (r)), .int deeds]) ++ List.replicate (9 - (lg_sl ([.ref (fa 0), .ref (ta 0), .int (nI (r)), .int deeds])).length) Slot.unset).toArray = ls at hl ⊢
  have hl : lv_has ls 9 [(0, .ref (fa 0)), (1, .ref (ta 0)), (2, .int (nI (r))), (3, .int deeds)] := hl
  refine lv_ldc (v := (-1000000)) hx hb hown (hts (.constant RX2 94 (-1000000)) (List.mem_of_getElem? (i := 1) rfl)) dX2_noticeToWrite_0 ?_
  refine lv_istore (lv' := [(4, .int (-1000000)), (0, .ref (fa 0)), (1, .ref (ta 0)), (2, .int (nI (r))), (3, .int deeds)]) hx hb dX2_noticeToWrite_2 hl (by decide) rfl (fun ls hl => ?_)
  refine lv_bipush (v := 7) hx hb dX2_noticeToWrite_4 (by decide) ?_
  refine lv_istore (lv' := [(5, .int 7), (4, .int (-1000000)), (0, .ref (fa 0)), (1, .ref (ta 0)), (2, .int (nI (r))), (3, .int deeds)]) hx hb dX2_noticeToWrite_6 hl (by decide) rfl (fun ls hl => ?_)
  refine lv_iconst (v := (nI 0)) hx hb dX2_noticeToWrite_8 (by decide) ?_
  refine lv_istore (lv' := [(6, .int (nI 0)), (5, .int 7), (4, .int (-1000000)), (0, .ref (fa 0)), (1, .ref (ta 0)), (2, .int (nI (r))), (3, .int deeds)]) hx hb dX2_noticeToWrite_9 hl (by decide) rfl (fun ls hl => ?_)
  refine b_loopR (N := 64) (I := fun k ls => lv_has ls 9 [(6, .int (nI (k))), (5, .int ((wrF (kd r) dy (dd r) deeds (min 12 (min 60 (tn (lf r)))) k).2)), (4, .int ((wrF (kd r) dy (dd r) deeds (min 12 (min 60 (tn (lf r)))) k).1)), (0, .ref (fa 0)), (1, .ref (ta 0)), (2, .int (nI (r))), (3, .int deeds)]) (fun k hk ih1 ls hI => ?_) 0 (by omega) (lv_sub hl [0, 1, 2, 3, 4, 5, 6] rfl)
  have hl := hI
  have hl : lv_has ls 9 [(6, .int (nI (k))), (5, .int ((wrF (kd r) dy (dd r) deeds (min 12 (min 60 (tn (lf r)))) k).2)), (4, .int ((wrF (kd r) dy (dd r) deeds (min 12 (min 60 (tn (lf r)))) k).1)), (0, .ref (fa 0)), (1, .ref (ta 0)), (2, .int (nI (r))), (3, .int deeds)] := hl
  refine lv_iload hx hb dX2_noticeToWrite_11 (lv_at hl 0 rfl) ?_
  refine lv_bipush (v := (nI 63)) hx hb dX2_noticeToWrite_13 (by decide) ?_
  refine b_gt (tgt := 75) hx hb (by omega) (by omega) dX2_noticeToWrite_15 (by decide) (fun c2 => ?_) (fun c2 => ?_)
  · have h_k : 64 = k := by omega
    subst h_k
    refine lv_iload hx hb dX2_noticeToWrite_75 (lv_at hl 2 rfl) ?_
    exact b_ret hx hb hr rfl dX2_noticeToWrite_77 hlocks
  · refine lv_aload_n hx hb dX2_noticeToWrite_18 rfl (lv_at hl 3 rfl) ?_
    refine lv_aload_n hx hb dX2_noticeToWrite_19 rfl (lv_at hl 4 rfl) ?_
    refine lv_iload_n hx hb dX2_noticeToWrite_20 rfl (lv_at hl 5 rfl) ?_
    refine lv_bipush (v := (nI 60)) hx hb dX2_noticeToWrite_21 (by decide) ?_
    refine lv_aload_n hx hb dX2_noticeToWrite_23 rfl (lv_at hl 4 rfl) ?_
    refine va_get (D := D) (ci := 7) (v := .ref (ta 2)) (C := RX8) (T := TX8) (N := 8) hx hb hts u_X2_noticeToWrite_X8 hown hK.1 hP 0 rfl rfl 5 (by decide) (hts (.fieldLink RX2 66 "NoticeWeek$Town" "did" "[I") (List.mem_of_getElem? (i := 2) rfl)) (fun _ h9 => h9) rfl dX2_noticeToWrite_24 ?_
    refine lv_iload_n hx hb dX2_noticeToWrite_27 rfl (lv_at hl 5 rfl) ?_
    refine b_ald hx hb hK hP 2 rfl (by omega) (by decide) dX2_noticeToWrite_28 ?_
    refine lv_iload hx hb dX2_noticeToWrite_29 (lv_at hl 0 rfl) ?_
    refine b_call (va_runV (As := [.ref (ta 0), .int (nI (r)), .int (nI 60), .int (dd r), .int (nI (k))]) (rest := []) ⟨hx, hb, hml, hown, hts⟩ (c_X2_doneBehind l D cI cZ cT ta st dy ln rd kd dd nt lf fa co wy r 60 (dd r) (nI (k)) hr_ (by omega) hkd hlf) (cwV 5 hts gX2_noticeToWrite_X2_doneBehind rfl rfl rfl (by decide +kernel) ⟨(Nat.le_of_ble_eq_true rfl), (Nat.le_of_ble_eq_true rfl)⟩) (b_pV hK hP [0, 1, 2, 3, 4, 5, 6, 7, 8, 9, 10, 11, 12] rfl 5 rfl rfl) rfl rfl hl.1 rfl (lv_room (Nat.le_of_ble_eq_true rfl)) dX2_noticeToWrite_31 ⟨Nat.zero_le _, Nat.zero_le _⟩).run ?_
    refine lv_topi (fun x3 ex3 => ?_)
    refine lv_istore (lv' := [(7, .int x3), (6, .int (nI (k))), (5, .int ((wrF (kd r) dy (dd r) deeds (min 12 (min 60 (tn (lf r)))) k).2)), (4, .int ((wrF (kd r) dy (dd r) deeds (min 12 (min 60 (tn (lf r)))) k).1)), (0, .ref (fa 0)), (1, .ref (ta 0)), (2, .int (nI (r))), (3, .int deeds)]) hx hb dX2_noticeToWrite_34 hl (by decide) rfl (fun ls hl => ?_)
    refine lv_iload hx hb dX2_noticeToWrite_36 (lv_at hl 0 rfl) ?_
    refine lv_iload hx hb dX2_noticeToWrite_38 (lv_at hl 1 rfl) ?_
    refine b_call (va_runSN (As := [.int x3, .int (nI (k))]) (rest := []) ⟨hx, hb, hml, hown, hts⟩ (c_X11_falseLines l D cI cZ cT x3 (nI (k))) ⟨va_cnB (host := RX11) 2 hts gX2_noticeToWrite_X11_falseLines_n91 rfl rfl rfl (hK.2.1 _ (List.mem_of_getElem? (i := 18) rfl)) (hts (.initialized RX11) (List.mem_of_getElem? (i := 37) rfl)) (by decide +kernel) ⟨(Nat.le_of_ble_eq_true rfl), (Nat.le_of_ble_eq_true rfl)⟩, hts (.static yX11_falseLines) (List.mem_of_getElem? (i := 64) rfl), trivial⟩ (b_pS0 hK) rfl rfl hl.1 rfl (lv_room (Nat.le_of_ble_eq_true rfl)) dX2_noticeToWrite_40 ⟨Nat.zero_le _, Nat.zero_le _⟩).run ?_
    refine lv_topi (fun x4 ex4 => ?_)
    refine lv_istore (lv' := [(8, .int x4), (7, .int x3), (6, .int (nI (k))), (5, .int ((wrF (kd r) dy (dd r) deeds (min 12 (min 60 (tn (lf r)))) k).2)), (4, .int ((wrF (kd r) dy (dd r) deeds (min 12 (min 60 (tn (lf r)))) k).1)), (0, .ref (fa 0)), (1, .ref (ta 0)), (2, .int (nI (r))), (3, .int deeds)]) hx hb dX2_noticeToWrite_43 hl (by decide) rfl (fun ls hl => ?_)
    refine lv_iload_n hx hb dX2_noticeToWrite_45 rfl (lv_at hl 8 rfl) ?_
    refine lv_iload hx hb dX2_noticeToWrite_46 (lv_at hl 1 rfl) ?_
    refine lv_iconst (v := (-1)) hx hb dX2_noticeToWrite_48 (by decide) ?_
    refine lv_ixor hx hb dX2_noticeToWrite_49 ?_
    refine lv_iand hx hb dX2_noticeToWrite_50 ?_
    refine lv_if_ne (tgt := 69) hx hb dX2_noticeToWrite_51 (by decide) (fun c5 => ?_) (fun c5 => ?_)
    · refine lv_iinc (v := (nI (k + 1))) (lv' := [(6, .int (nI (k + 1))), (8, .int x4), (7, .int x3), (5, .int ((wrF (kd r) dy (dd r) deeds (min 12 (min 60 (tn (lf r)))) k).2)), (4, .int ((wrF (kd r) dy (dd r) deeds (min 12 (min 60 (tn (lf r)))) k).1)), (0, .ref (fa 0)), (1, .ref (ta 0)), (2, .int (nI (r))), (3, .int deeds)]) hx hb dX2_noticeToWrite_69 hl (k := 2) rfl (nI_add _ _) (by decide) rfl (fun ls hl => ?_)
      refine lv_goto (tgt := 11) hx hb dX2_noticeToWrite_72 (by decide) ?_
      have st6 : (wrF (kd r) dy (dd r) deeds (min 12 (min 60 (tn (lf r)))) k).2 = (wrF (kd r) dy (dd r) deeds (min 12 (min 60 (tn (lf r)))) (k + 1)).2 := (by subst ex4; subst ex3; show _ = (if deeds &&& (wrD (kd r) dy (dd r) (min 12 (min 60 (tn (lf r)))) k ^^^ (-1)) = 0 ∧ ¬ (wrF (kd r) dy (dd r) deeds (min 12 (min 60 (tn (lf r)))) k).2 ≤ bc32 (wrD (kd r) dy (dd r) (min 12 (min 60 (tn (lf r)))) k ^^^ nI k) then (nI k, bc32 (wrD (kd r) dy (dd r) (min 12 (min 60 (tn (lf r)))) k ^^^ nI k)) else wrF (kd r) dy (dd r) deeds (min 12 (min 60 (tn (lf r)))) k).2; rw [if_neg (fun z => by first | exact c5 z.1 | exact c5 z.2 | exact z.2 c5 | exact z.2.1 c5 | exact c5 z.2.1 | exact z.2.2 c5 | exact c5 z.2.2)])
      rw [st6] at hl
      have st7 : (wrF (kd r) dy (dd r) deeds (min 12 (min 60 (tn (lf r)))) k).1 = (wrF (kd r) dy (dd r) deeds (min 12 (min 60 (tn (lf r)))) (k + 1)).1 := (by subst ex4; subst ex3; show _ = (if deeds &&& (wrD (kd r) dy (dd r) (min 12 (min 60 (tn (lf r)))) k ^^^ (-1)) = 0 ∧ ¬ (wrF (kd r) dy (dd r) deeds (min 12 (min 60 (tn (lf r)))) k).2 ≤ bc32 (wrD (kd r) dy (dd r) (min 12 (min 60 (tn (lf r)))) k ^^^ nI k) then (nI k, bc32 (wrD (kd r) dy (dd r) (min 12 (min 60 (tn (lf r)))) k ^^^ nI k)) else wrF (kd r) dy (dd r) deeds (min 12 (min 60 (tn (lf r)))) k).1; rw [if_neg (fun z => by first | exact c5 z.1 | exact c5 z.2 | exact z.2 c5 | exact z.2.1 c5 | exact c5 z.2.1 | exact z.2.2 c5 | exact c5 z.2.2)])
      rw [st7] at hl
      exact ih1 (by omega) ls (lv_sub hl [0, 3, 4, 5, 6, 7, 8] rfl)
    · refine lv_iload hx hb dX2_noticeToWrite_54 (lv_at hl 0 rfl) ?_
      refine lv_iload hx hb dX2_noticeToWrite_56 (lv_at hl 3 rfl) ?_
      refine lv_icmp_ge (tgt := 69) hx hb dX2_noticeToWrite_58 (by decide) (fun c8 => ?_) (fun c8 => ?_)
      · refine lv_iinc (v := (nI (k + 1))) (lv' := [(6, .int (nI (k + 1))), (8, .int x4), (7, .int x3), (5, .int ((wrF (kd r) dy (dd r) deeds (min 12 (min 60 (tn (lf r)))) k).2)), (4, .int ((wrF (kd r) dy (dd r) deeds (min 12 (min 60 (tn (lf r)))) k).1)), (0, .ref (fa 0)), (1, .ref (ta 0)), (2, .int (nI (r))), (3, .int deeds)]) hx hb dX2_noticeToWrite_69 hl (k := 2) rfl (nI_add _ _) (by decide) rfl (fun ls hl => ?_)
        refine lv_goto (tgt := 11) hx hb dX2_noticeToWrite_72 (by decide) ?_
        have st9 : (wrF (kd r) dy (dd r) deeds (min 12 (min 60 (tn (lf r)))) k).2 = (wrF (kd r) dy (dd r) deeds (min 12 (min 60 (tn (lf r)))) (k + 1)).2 := (by subst ex4; subst ex3; show _ = (if deeds &&& (wrD (kd r) dy (dd r) (min 12 (min 60 (tn (lf r)))) k ^^^ (-1)) = 0 ∧ ¬ (wrF (kd r) dy (dd r) deeds (min 12 (min 60 (tn (lf r)))) k).2 ≤ bc32 (wrD (kd r) dy (dd r) (min 12 (min 60 (tn (lf r)))) k ^^^ nI k) then (nI k, bc32 (wrD (kd r) dy (dd r) (min 12 (min 60 (tn (lf r)))) k ^^^ nI k)) else wrF (kd r) dy (dd r) deeds (min 12 (min 60 (tn (lf r)))) k).2; rw [if_neg (fun z => by first | exact c8 z.1 | exact c8 z.2 | exact z.2 c8 | exact z.2.1 c8 | exact c8 z.2.1 | exact z.2.2 c8 | exact c8 z.2.2)])
        rw [st9] at hl
        have st10 : (wrF (kd r) dy (dd r) deeds (min 12 (min 60 (tn (lf r)))) k).1 = (wrF (kd r) dy (dd r) deeds (min 12 (min 60 (tn (lf r)))) (k + 1)).1 := (by subst ex4; subst ex3; show _ = (if deeds &&& (wrD (kd r) dy (dd r) (min 12 (min 60 (tn (lf r)))) k ^^^ (-1)) = 0 ∧ ¬ (wrF (kd r) dy (dd r) deeds (min 12 (min 60 (tn (lf r)))) k).2 ≤ bc32 (wrD (kd r) dy (dd r) (min 12 (min 60 (tn (lf r)))) k ^^^ nI k) then (nI k, bc32 (wrD (kd r) dy (dd r) (min 12 (min 60 (tn (lf r)))) k ^^^ nI k)) else wrF (kd r) dy (dd r) deeds (min 12 (min 60 (tn (lf r)))) k).1; rw [if_neg (fun z => by first | exact c8 z.1 | exact c8 z.2 | exact z.2 c8 | exact z.2.1 c8 | exact c8 z.2.1 | exact z.2.2 c8 | exact c8 z.2.2)])
        rw [st10] at hl
        exact ih1 (by omega) ls (lv_sub hl [0, 3, 4, 5, 6, 7, 8] rfl)
      · refine lv_iload hx hb dX2_noticeToWrite_61 (lv_at hl 2 rfl) ?_
        refine lv_istore (lv' := [(4, .int (nI (k))), (8, .int x4), (7, .int x3), (6, .int (nI (k))), (5, .int ((wrF (kd r) dy (dd r) deeds (min 12 (min 60 (tn (lf r)))) k).2)), (0, .ref (fa 0)), (1, .ref (ta 0)), (2, .int (nI (r))), (3, .int deeds)]) hx hb dX2_noticeToWrite_63 hl (by decide) rfl (fun ls hl => ?_)
        refine lv_iload hx hb dX2_noticeToWrite_65 (lv_at hl 1 rfl) ?_
        refine lv_istore (lv' := [(5, .int x4), (4, .int (nI (k))), (8, .int x4), (7, .int x3), (6, .int (nI (k))), (0, .ref (fa 0)), (1, .ref (ta 0)), (2, .int (nI (r))), (3, .int deeds)]) hx hb dX2_noticeToWrite_67 hl (by decide) rfl (fun ls hl => ?_)
        refine lv_iinc (v := (nI (k + 1))) (lv' := [(6, .int (nI (k + 1))), (5, .int x4), (4, .int (nI (k))), (8, .int x4), (7, .int x3), (0, .ref (fa 0)), (1, .ref (ta 0)), (2, .int (nI (r))), (3, .int deeds)]) hx hb dX2_noticeToWrite_69 hl (k := 4) rfl (nI_add _ _) (by decide) rfl (fun ls hl => ?_)
        refine lv_goto (tgt := 11) hx hb dX2_noticeToWrite_72 (by decide) ?_
        have st11 : x4 = (wrF (kd r) dy (dd r) deeds (min 12 (min 60 (tn (lf r)))) (k + 1)).2 := (by subst ex4; subst ex3; show _ = (if deeds &&& (wrD (kd r) dy (dd r) (min 12 (min 60 (tn (lf r)))) k ^^^ (-1)) = 0 ∧ ¬ (wrF (kd r) dy (dd r) deeds (min 12 (min 60 (tn (lf r)))) k).2 ≤ bc32 (wrD (kd r) dy (dd r) (min 12 (min 60 (tn (lf r)))) k ^^^ nI k) then (nI k, bc32 (wrD (kd r) dy (dd r) (min 12 (min 60 (tn (lf r)))) k ^^^ nI k)) else wrF (kd r) dy (dd r) deeds (min 12 (min 60 (tn (lf r)))) k).2; rw [if_pos ⟨c5, c8⟩])
        rw [st11] at hl
        have st12 : (nI (k)) = (wrF (kd r) dy (dd r) deeds (min 12 (min 60 (tn (lf r)))) (k + 1)).1 := (by subst ex4; subst ex3; show _ = (if deeds &&& (wrD (kd r) dy (dd r) (min 12 (min 60 (tn (lf r)))) k ^^^ (-1)) = 0 ∧ ¬ (wrF (kd r) dy (dd r) deeds (min 12 (min 60 (tn (lf r)))) k).2 ≤ bc32 (wrD (kd r) dy (dd r) (min 12 (min 60 (tn (lf r)))) k ^^^ nI k) then (nI k, bc32 (wrD (kd r) dy (dd r) (min 12 (min 60 (tn (lf r)))) k ^^^ nI k)) else wrF (kd r) dy (dd r) deeds (min 12 (min 60 (tn (lf r)))) k).1; rw [if_pos ⟨c5, c8⟩])
        rw [st12] at hl
        exact ih1 (by omega) ls (lv_sub hl [0, 1, 2, 5, 6, 7, 8] rfl)
theorem u_X2_deedsToDeny_X8 : ∀ w ∈ wsX80, w ∈ wsX2_deedsToDeny := fun _ h => List.mem_cons_of_mem _ (List.mem_append_left _ (List.mem_append_right _ h))
set_option maxHeartbeats 4000000 in
set_option maxRecDepth 100000 in
theorem c_X2_deedsToDeny (l : Launch) (D : va_G) (cI cZ cT : ClassId) (ta : Nat → Nat) (st dy ln rd : Int32) (kd dd nt lf : Nat → Int32) (fa : Nat → Nat) (co wy : Nat → Int32) (r : Nat) (hr_ : r ≤ 5) (hkd : isK (kd r)) (hlf : isL (lf r)) : Met l yX2_deedsToDeny wsX2_deedsToDeny ({ frames := 4, cells := 0, slots := 0, locals := 96 }) (pR D cI cZ cT [.ref (fa 0), .ref (ta 0), .int (nI (r))] (wTown cI ta st dy ln rd kd dd nt lf ++ wFore cI fa co wy)) (QcRead ((dyF (kd r) dy (dd r) (nt r) (min 12 (min 60 (tn (lf r)))) 64).1)) 0 0 (fun _ => False) := by
  refine Met.ofW (cc := cX2_deedsToDeny) (maxL := 9) (ret := (some .int)) (by decide) rfl ?_
  intro p e s m args below meth c s₁ B hml hv
  obtain ⟨rfl, hP, hK⟩ := hv
  have hx := B.exec
  have hb := B.bytes
  have hr := B.returns
  have hts := atoms_spec (ws := wsX2_deedsToDeny) B.pre
  have hown : s.vm.findClass RX2 = some m.cls := findClass_of_methodNamed B.named
  have hlocks := B.notSynchronized
  have hl := lv_entry ([.ref (fa 0), .ref (ta 0), .int (nI (r))]) (n := 9) (Nat.le_of_ble_eq_true rfl)
  rw [lg_entry_eq]
  generalize (lg_sl ([.ref (fa 0), .ref (ta 0), .int (nI (r))]) ++ List.replicate (9 - (lg_sl ([.ref (fa 0), .ref (ta 0), .int (nI (r))])).length) Slot.unset).toArray = ls at hl ⊢
  have hl : lv_has ls 9 [(0, .ref (fa 0)), (1, .ref (ta 0)), (2, .int (nI (r)))] := hl
  refine lv_ldc (v := (-1000000)) hx hb hown (hts (.constant RX2 94 (-1000000)) (List.mem_of_getElem? (i := 1) rfl)) dX2_deedsToDeny_0 ?_
  refine lv_istore_n (lv' := [(3, .int (-1000000)), (0, .ref (fa 0)), (1, .ref (ta 0)), (2, .int (nI (r)))]) hx hb dX2_deedsToDeny_2 rfl hl (by decide) rfl (fun ls hl => ?_)
  refine lv_bipush (v := 7) hx hb dX2_deedsToDeny_3 (by decide) ?_
  refine lv_istore (lv' := [(4, .int 7), (3, .int (-1000000)), (0, .ref (fa 0)), (1, .ref (ta 0)), (2, .int (nI (r)))]) hx hb dX2_deedsToDeny_5 hl (by decide) rfl (fun ls hl => ?_)
  refine lv_aload_n hx hb dX2_deedsToDeny_7 rfl (lv_at hl 3 rfl) ?_
  refine va_get (D := D) (ci := 7) (v := .ref (ta 2)) (C := RX8) (T := TX8) (N := 8) hx hb hts u_X2_deedsToDeny_X8 hown hK.1 hP 0 rfl rfl 5 (by decide) (hts (.fieldLink RX2 66 "NoticeWeek$Town" "did" "[I") (List.mem_of_getElem? (i := 2) rfl)) (fun _ h9 => h9) rfl dX2_deedsToDeny_8 ?_
  refine lv_iload_n hx hb dX2_deedsToDeny_11 rfl (lv_at hl 4 rfl) ?_
  refine b_ald hx hb hK hP 2 rfl (by omega) (by decide) dX2_deedsToDeny_12 ?_
  refine lv_topi (fun x1 ex1 => ?_)
  refine lv_istore (lv' := [(5, .int x1), (4, .int 7), (3, .int (-1000000)), (0, .ref (fa 0)), (1, .ref (ta 0)), (2, .int (nI (r)))]) hx hb dX2_deedsToDeny_13 hl (by decide) rfl (fun ls hl => ?_)
  refine lv_aload_n hx hb dX2_deedsToDeny_15 rfl (lv_at hl 4 rfl) ?_
  refine va_get (D := D) (ci := 7) (v := .ref (ta 3)) (C := RX8) (T := TX8) (N := 8) hx hb hts u_X2_deedsToDeny_X8 hown hK.1 hP 0 rfl rfl 6 (by decide) (hts (.fieldLink RX2 69 "NoticeWeek$Town" "notice" "[I") (List.mem_of_getElem? (i := 3) rfl)) (fun _ h9 => h9) rfl dX2_deedsToDeny_16 ?_
  refine lv_iload_n hx hb dX2_deedsToDeny_19 rfl (lv_at hl 5 rfl) ?_
  refine b_ald hx hb hK hP 3 rfl (by omega) (by decide) dX2_deedsToDeny_20 ?_
  refine lv_topi (fun x2 ex2 => ?_)
  refine lv_istore (lv' := [(6, .int x2), (5, .int x1), (4, .int 7), (3, .int (-1000000)), (0, .ref (fa 0)), (1, .ref (ta 0)), (2, .int (nI (r)))]) hx hb dX2_deedsToDeny_21 hl (by decide) rfl (fun ls hl => ?_)
  subst ex2
  subst ex1
  have hl : lv_has ls 9 [(6, .int (nt r)), (5, .int (dd r)), (4, .int 7), (3, .int (-1000000)), (0, .ref (fa 0)), (1, .ref (ta 0)), (2, .int (nI (r)))] := hl
  refine lv_iconst (v := (nI 0)) hx hb dX2_deedsToDeny_23 (by decide) ?_
  refine lv_istore (lv' := [(7, .int (nI 0)), (6, .int (nt r)), (5, .int (dd r)), (4, .int 7), (3, .int (-1000000)), (0, .ref (fa 0)), (1, .ref (ta 0)), (2, .int (nI (r)))]) hx hb dX2_deedsToDeny_24 hl (by decide) rfl (fun ls hl => ?_)
  refine b_loopR (N := 64) (I := fun k ls => lv_has ls 9 [(7, .int (nI (k))), (4, .int ((dyF (kd r) dy (dd r) (nt r) (min 12 (min 60 (tn (lf r)))) k).2)), (3, .int ((dyF (kd r) dy (dd r) (nt r) (min 12 (min 60 (tn (lf r)))) k).1)), (0, .ref (fa 0)), (1, .ref (ta 0)), (2, .int (nI (r))), (5, .int (dd r)), (6, .int (nt r))]) (fun k hk ih3 ls hI => ?_) 0 (by omega) (lv_sub hl [0, 3, 4, 5, 6, 7, 2, 1] rfl)
  have hl := hI
  have hl : lv_has ls 9 [(7, .int (nI (k))), (4, .int ((dyF (kd r) dy (dd r) (nt r) (min 12 (min 60 (tn (lf r)))) k).2)), (3, .int ((dyF (kd r) dy (dd r) (nt r) (min 12 (min 60 (tn (lf r)))) k).1)), (0, .ref (fa 0)), (1, .ref (ta 0)), (2, .int (nI (r))), (5, .int (dd r)), (6, .int (nt r))] := hl
  refine lv_iload hx hb dX2_deedsToDeny_26 (lv_at hl 0 rfl) ?_
  refine lv_bipush (v := (nI 63)) hx hb dX2_deedsToDeny_28 (by decide) ?_
  refine b_gt (tgt := 103) hx hb (by omega) (by omega) dX2_deedsToDeny_30 (by decide) (fun c4 => ?_) (fun c4 => ?_)
  · have h_k : 64 = k := by omega
    subst h_k
    refine lv_iload_n hx hb dX2_deedsToDeny_103 rfl (lv_at hl 2 rfl) ?_
    exact b_ret hx hb hr rfl dX2_deedsToDeny_104 hlocks
  · refine lv_iload hx hb dX2_deedsToDeny_33 (lv_at hl 0 rfl) ?_
    refine lv_iload hx hb dX2_deedsToDeny_35 (lv_at hl 6 rfl) ?_
    refine lv_iconst (v := (-1)) hx hb dX2_deedsToDeny_37 (by decide) ?_
    refine lv_ixor hx hb dX2_deedsToDeny_38 ?_
    refine lv_iand hx hb dX2_deedsToDeny_39 ?_
    refine lv_if_ne (tgt := 57) hx hb dX2_deedsToDeny_40 (by decide) (fun c5 => ?_) (fun c5 => ?_)
    · refine lv_iconst (v := 0) hx hb dX2_deedsToDeny_57 (by decide) ?_
      refine lv_istore (lv' := [(8, .int 0), (7, .int (nI (k))), (4, .int ((dyF (kd r) dy (dd r) (nt r) (min 12 (min 60 (tn (lf r)))) k).2)), (3, .int ((dyF (kd r) dy (dd r) (nt r) (min 12 (min 60 (tn (lf r)))) k).1)), (0, .ref (fa 0)), (1, .ref (ta 0)), (2, .int (nI (r))), (5, .int (dd r)), (6, .int (nt r))]) hx hb dX2_deedsToDeny_58 hl (by decide) rfl (fun ls hl => ?_)
      refine lv_iload hx hb dX2_deedsToDeny_60 (lv_at hl 0 rfl) ?_
      refine lv_if_eq (tgt := 97) hx hb dX2_deedsToDeny_62 (by decide) (fun c6 => ?_) (fun c6 => absurd c6 (by decide))
      refine lv_iinc (v := (nI (k + 1))) (lv' := [(7, .int (nI (k + 1))), (8, .int 0), (4, .int ((dyF (kd r) dy (dd r) (nt r) (min 12 (min 60 (tn (lf r)))) k).2)), (3, .int ((dyF (kd r) dy (dd r) (nt r) (min 12 (min 60 (tn (lf r)))) k).1)), (0, .ref (fa 0)), (1, .ref (ta 0)), (2, .int (nI (r))), (5, .int (dd r)), (6, .int (nt r))]) hx hb dX2_deedsToDeny_97 hl (k := 1) rfl (nI_add _ _) (by decide) rfl (fun ls hl => ?_)
      refine lv_goto (tgt := 26) hx hb dX2_deedsToDeny_100 (by decide) ?_
      have st7 : (dyF (kd r) dy (dd r) (nt r) (min 12 (min 60 (tn (lf r)))) k).2 = (dyF (kd r) dy (dd r) (nt r) (min 12 (min 60 (tn (lf r)))) (k + 1)).2 := (by show _ = (if nI k &&& (dd r ^^^ (-1)) = 0 ∧ ¬ (dyF (kd r) dy (dd r) (nt r) (min 12 (min 60 (tn (lf r)))) k).2 ≤ bc32 (nI k) ∧ dnB (kd r) dy (dd r &&& (nI k ^^^ (-1))) (nt r) (min 12 (min 60 (tn (lf r)))) = nt r then (nI k, bc32 (nI k)) else dyF (kd r) dy (dd r) (nt r) (min 12 (min 60 (tn (lf r)))) k).2; rw [if_neg (fun z => by first | exact c5 z.1 | exact c5 z.2 | exact z.2 c5 | exact z.2.1 c5 | exact c5 z.2.1 | exact z.2.2 c5 | exact c5 z.2.2)])
      rw [st7] at hl
      have st8 : (dyF (kd r) dy (dd r) (nt r) (min 12 (min 60 (tn (lf r)))) k).1 = (dyF (kd r) dy (dd r) (nt r) (min 12 (min 60 (tn (lf r)))) (k + 1)).1 := (by show _ = (if nI k &&& (dd r ^^^ (-1)) = 0 ∧ ¬ (dyF (kd r) dy (dd r) (nt r) (min 12 (min 60 (tn (lf r)))) k).2 ≤ bc32 (nI k) ∧ dnB (kd r) dy (dd r &&& (nI k ^^^ (-1))) (nt r) (min 12 (min 60 (tn (lf r)))) = nt r then (nI k, bc32 (nI k)) else dyF (kd r) dy (dd r) (nt r) (min 12 (min 60 (tn (lf r)))) k).1; rw [if_neg (fun z => by first | exact c5 z.1 | exact c5 z.2 | exact z.2 c5 | exact z.2.1 c5 | exact c5 z.2.1 | exact z.2.2 c5 | exact c5 z.2.2)])
      rw [st8] at hl
      exact ih3 (by omega) ls (lv_sub hl [0, 2, 3, 4, 5, 6, 7, 8] rfl)
    · refine lv_iload hx hb dX2_deedsToDeny_43 (lv_at hl 0 rfl) ?_
      refine b_call (va_runS (As := [.int (nI (k))]) (rest := []) ⟨hx, hb, hml, hown, hts⟩ (c_J6_bitCount_0f7a4 l D cI cZ cT (nI (k))) (va_cwS 1 hts gX2_deedsToDeny_J6_bitCount_0f7a4 rfl rfl rfl (by decide +kernel) ⟨(Nat.le_of_ble_eq_true rfl), (Nat.le_of_ble_eq_true rfl)⟩) (b_pS0 hK) rfl rfl hl.1 rfl (lv_room (Nat.le_of_ble_eq_true rfl)) dX2_deedsToDeny_45 ⟨Nat.zero_le _, Nat.zero_le _⟩).run ?_
      refine lv_iload hx hb dX2_deedsToDeny_48 (lv_at hl 1 rfl) ?_
      refine lv_icmp_ge (tgt := 57) hx hb dX2_deedsToDeny_50 (by decide) (fun c9 => ?_) (fun c9 => ?_)
      · refine lv_iconst (v := 0) hx hb dX2_deedsToDeny_57 (by decide) ?_
        refine lv_istore (lv' := [(8, .int 0), (7, .int (nI (k))), (4, .int ((dyF (kd r) dy (dd r) (nt r) (min 12 (min 60 (tn (lf r)))) k).2)), (3, .int ((dyF (kd r) dy (dd r) (nt r) (min 12 (min 60 (tn (lf r)))) k).1)), (0, .ref (fa 0)), (1, .ref (ta 0)), (2, .int (nI (r))), (5, .int (dd r)), (6, .int (nt r))]) hx hb dX2_deedsToDeny_58 hl (by decide) rfl (fun ls hl => ?_)
        refine lv_iload hx hb dX2_deedsToDeny_60 (lv_at hl 0 rfl) ?_
        refine lv_if_eq (tgt := 97) hx hb dX2_deedsToDeny_62 (by decide) (fun c10 => ?_) (fun c10 => absurd c10 (by decide))
        refine lv_iinc (v := (nI (k + 1))) (lv' := [(7, .int (nI (k + 1))), (8, .int 0), (4, .int ((dyF (kd r) dy (dd r) (nt r) (min 12 (min 60 (tn (lf r)))) k).2)), (3, .int ((dyF (kd r) dy (dd r) (nt r) (min 12 (min 60 (tn (lf r)))) k).1)), (0, .ref (fa 0)), (1, .ref (ta 0)), (2, .int (nI (r))), (5, .int (dd r)), (6, .int (nt r))]) hx hb dX2_deedsToDeny_97 hl (k := 1) rfl (nI_add _ _) (by decide) rfl (fun ls hl => ?_)
        refine lv_goto (tgt := 26) hx hb dX2_deedsToDeny_100 (by decide) ?_
        have st11 : (dyF (kd r) dy (dd r) (nt r) (min 12 (min 60 (tn (lf r)))) k).2 = (dyF (kd r) dy (dd r) (nt r) (min 12 (min 60 (tn (lf r)))) (k + 1)).2 := (by show _ = (if nI k &&& (dd r ^^^ (-1)) = 0 ∧ ¬ (dyF (kd r) dy (dd r) (nt r) (min 12 (min 60 (tn (lf r)))) k).2 ≤ bc32 (nI k) ∧ dnB (kd r) dy (dd r &&& (nI k ^^^ (-1))) (nt r) (min 12 (min 60 (tn (lf r)))) = nt r then (nI k, bc32 (nI k)) else dyF (kd r) dy (dd r) (nt r) (min 12 (min 60 (tn (lf r)))) k).2; rw [if_neg (fun z => by first | exact c9 z.1 | exact c9 z.2 | exact z.2 c9 | exact z.2.1 c9 | exact c9 z.2.1 | exact z.2.2 c9 | exact c9 z.2.2)])
        rw [st11] at hl
        have st12 : (dyF (kd r) dy (dd r) (nt r) (min 12 (min 60 (tn (lf r)))) k).1 = (dyF (kd r) dy (dd r) (nt r) (min 12 (min 60 (tn (lf r)))) (k + 1)).1 := (by show _ = (if nI k &&& (dd r ^^^ (-1)) = 0 ∧ ¬ (dyF (kd r) dy (dd r) (nt r) (min 12 (min 60 (tn (lf r)))) k).2 ≤ bc32 (nI k) ∧ dnB (kd r) dy (dd r &&& (nI k ^^^ (-1))) (nt r) (min 12 (min 60 (tn (lf r)))) = nt r then (nI k, bc32 (nI k)) else dyF (kd r) dy (dd r) (nt r) (min 12 (min 60 (tn (lf r)))) k).1; rw [if_neg (fun z => by first | exact c9 z.1 | exact c9 z.2 | exact z.2 c9 | exact z.2.1 c9 | exact c9 z.2.1 | exact z.2.2 c9 | exact c9 z.2.2)])
        rw [st12] at hl
        exact ih3 (by omega) ls (lv_sub hl [0, 2, 3, 4, 5, 6, 7, 8] rfl)
      · refine lv_iconst (v := 1) hx hb dX2_deedsToDeny_53 (by decide) ?_
        refine lv_goto (tgt := 58) hx hb dX2_deedsToDeny_54 (by decide) ?_
        refine lv_istore (lv' := [(8, .int 1), (7, .int (nI (k))), (4, .int ((dyF (kd r) dy (dd r) (nt r) (min 12 (min 60 (tn (lf r)))) k).2)), (3, .int ((dyF (kd r) dy (dd r) (nt r) (min 12 (min 60 (tn (lf r)))) k).1)), (0, .ref (fa 0)), (1, .ref (ta 0)), (2, .int (nI (r))), (5, .int (dd r)), (6, .int (nt r))]) hx hb dX2_deedsToDeny_58 hl (by decide) rfl (fun ls hl => ?_)
        refine lv_iload hx hb dX2_deedsToDeny_60 (lv_at hl 0 rfl) ?_
        refine lv_if_eq (tgt := 97) hx hb dX2_deedsToDeny_62 (by decide) (fun c13 => absurd c13 (by decide)) (fun c13 => ?_)
        refine lv_aload_n hx hb dX2_deedsToDeny_65 rfl (lv_at hl 4 rfl) ?_
        refine lv_aload_n hx hb dX2_deedsToDeny_66 rfl (lv_at hl 5 rfl) ?_
        refine lv_iload_n hx hb dX2_deedsToDeny_67 rfl (lv_at hl 6 rfl) ?_
        refine lv_bipush (v := (nI 60)) hx hb dX2_deedsToDeny_68 (by decide) ?_
        refine lv_iload hx hb dX2_deedsToDeny_70 (lv_at hl 7 rfl) ?_
        refine lv_iload hx hb dX2_deedsToDeny_72 (lv_at hl 1 rfl) ?_
        refine lv_iconst (v := (-1)) hx hb dX2_deedsToDeny_74 (by decide) ?_
        refine lv_ixor hx hb dX2_deedsToDeny_75 ?_
        refine lv_iand hx hb dX2_deedsToDeny_76 ?_
        refine lv_iload hx hb dX2_deedsToDeny_77 (lv_at hl 8 rfl) ?_
        refine b_call (va_runV (As := [.ref (ta 0), .int (nI (r)), .int (nI 60), .int ((dd r) &&& ((nI (k)) ^^^ (-1))), .int (nt r)]) (rest := []) ⟨hx, hb, hml, hown, hts⟩ (c_X2_doneBehind l D cI cZ cT ta st dy ln rd kd dd nt lf fa co wy r 60 ((dd r) &&& ((nI (k)) ^^^ (-1))) (nt r) hr_ (by omega) hkd hlf) (cwV 5 hts gX2_deedsToDeny_X2_doneBehind rfl rfl rfl (by decide +kernel) ⟨(Nat.le_of_ble_eq_true rfl), (Nat.le_of_ble_eq_true rfl)⟩) (b_pV hK hP [0, 1, 2, 3, 4, 5, 6, 7, 8, 9, 10, 11, 12] rfl 5 rfl rfl) rfl rfl hl.1 rfl (lv_room (Nat.le_of_ble_eq_true rfl)) dX2_deedsToDeny_79 ⟨Nat.zero_le _, Nat.zero_le _⟩).run ?_
        refine lv_iload hx hb dX2_deedsToDeny_82 (lv_at hl 8 rfl) ?_
        refine lv_icmp_ne (tgt := 97) hx hb dX2_deedsToDeny_84 (by decide) (fun c14 => ?_) (fun c14 => ?_)
        · refine lv_iinc (v := (nI (k + 1))) (lv' := [(7, .int (nI (k + 1))), (8, .int 1), (4, .int ((dyF (kd r) dy (dd r) (nt r) (min 12 (min 60 (tn (lf r)))) k).2)), (3, .int ((dyF (kd r) dy (dd r) (nt r) (min 12 (min 60 (tn (lf r)))) k).1)), (0, .ref (fa 0)), (1, .ref (ta 0)), (2, .int (nI (r))), (5, .int (dd r)), (6, .int (nt r))]) hx hb dX2_deedsToDeny_97 hl (k := 1) rfl (nI_add _ _) (by decide) rfl (fun ls hl => ?_)
          refine lv_goto (tgt := 26) hx hb dX2_deedsToDeny_100 (by decide) ?_
          have st15 : (dyF (kd r) dy (dd r) (nt r) (min 12 (min 60 (tn (lf r)))) k).2 = (dyF (kd r) dy (dd r) (nt r) (min 12 (min 60 (tn (lf r)))) (k + 1)).2 := (by show _ = (if nI k &&& (dd r ^^^ (-1)) = 0 ∧ ¬ (dyF (kd r) dy (dd r) (nt r) (min 12 (min 60 (tn (lf r)))) k).2 ≤ bc32 (nI k) ∧ dnB (kd r) dy (dd r &&& (nI k ^^^ (-1))) (nt r) (min 12 (min 60 (tn (lf r)))) = nt r then (nI k, bc32 (nI k)) else dyF (kd r) dy (dd r) (nt r) (min 12 (min 60 (tn (lf r)))) k).2; rw [if_neg (fun z => by first | exact c14 z.1 | exact c14 z.2 | exact z.2 c14 | exact z.2.1 c14 | exact c14 z.2.1 | exact z.2.2 c14 | exact c14 z.2.2)])
          rw [st15] at hl
          have st16 : (dyF (kd r) dy (dd r) (nt r) (min 12 (min 60 (tn (lf r)))) k).1 = (dyF (kd r) dy (dd r) (nt r) (min 12 (min 60 (tn (lf r)))) (k + 1)).1 := (by show _ = (if nI k &&& (dd r ^^^ (-1)) = 0 ∧ ¬ (dyF (kd r) dy (dd r) (nt r) (min 12 (min 60 (tn (lf r)))) k).2 ≤ bc32 (nI k) ∧ dnB (kd r) dy (dd r &&& (nI k ^^^ (-1))) (nt r) (min 12 (min 60 (tn (lf r)))) = nt r then (nI k, bc32 (nI k)) else dyF (kd r) dy (dd r) (nt r) (min 12 (min 60 (tn (lf r)))) k).1; rw [if_neg (fun z => by first | exact c14 z.1 | exact c14 z.2 | exact z.2 c14 | exact z.2.1 c14 | exact c14 z.2.1 | exact z.2.2 c14 | exact c14 z.2.2)])
          rw [st16] at hl
          exact ih3 (by omega) ls (lv_sub hl [0, 2, 3, 4, 5, 6, 7, 8] rfl)
        · refine lv_iload hx hb dX2_deedsToDeny_87 (lv_at hl 1 rfl) ?_
          refine lv_istore_n (lv' := [(3, .int (nI (k))), (8, .int 1), (7, .int (nI (k))), (4, .int ((dyF (kd r) dy (dd r) (nt r) (min 12 (min 60 (tn (lf r)))) k).2)), (0, .ref (fa 0)), (1, .ref (ta 0)), (2, .int (nI (r))), (5, .int (dd r)), (6, .int (nt r))]) hx hb dX2_deedsToDeny_89 rfl hl (by decide) rfl (fun ls hl => ?_)
          refine lv_iload hx hb dX2_deedsToDeny_90 (lv_at hl 2 rfl) ?_
          refine b_call (va_runS (As := [.int (nI (k))]) (rest := []) ⟨hx, hb, hml, hown, hts⟩ (c_J6_bitCount_0f7a4 l D cI cZ cT (nI (k))) (va_cwS 1 hts gX2_deedsToDeny_J6_bitCount_0f7a4 rfl rfl rfl (by decide +kernel) ⟨(Nat.le_of_ble_eq_true rfl), (Nat.le_of_ble_eq_true rfl)⟩) (b_pS0 hK) rfl rfl hl.1 rfl (lv_room (Nat.le_of_ble_eq_true rfl)) dX2_deedsToDeny_92 ⟨Nat.zero_le _, Nat.zero_le _⟩).run ?_
          refine lv_topi (fun x17 ex17 => ?_)
          refine lv_istore (lv' := [(4, .int x17), (3, .int (nI (k))), (8, .int 1), (7, .int (nI (k))), (0, .ref (fa 0)), (1, .ref (ta 0)), (2, .int (nI (r))), (5, .int (dd r)), (6, .int (nt r))]) hx hb dX2_deedsToDeny_95 hl (by decide) rfl (fun ls hl => ?_)
          refine lv_iinc (v := (nI (k + 1))) (lv' := [(7, .int (nI (k + 1))), (4, .int x17), (3, .int (nI (k))), (8, .int 1), (0, .ref (fa 0)), (1, .ref (ta 0)), (2, .int (nI (r))), (5, .int (dd r)), (6, .int (nt r))]) hx hb dX2_deedsToDeny_97 hl (k := 3) rfl (nI_add _ _) (by decide) rfl (fun ls hl => ?_)
          refine lv_goto (tgt := 26) hx hb dX2_deedsToDeny_100 (by decide) ?_
          have st18 : x17 = (dyF (kd r) dy (dd r) (nt r) (min 12 (min 60 (tn (lf r)))) (k + 1)).2 := (by subst ex17; show _ = (if nI k &&& (dd r ^^^ (-1)) = 0 ∧ ¬ (dyF (kd r) dy (dd r) (nt r) (min 12 (min 60 (tn (lf r)))) k).2 ≤ bc32 (nI k) ∧ dnB (kd r) dy (dd r &&& (nI k ^^^ (-1))) (nt r) (min 12 (min 60 (tn (lf r)))) = nt r then (nI k, bc32 (nI k)) else dyF (kd r) dy (dd r) (nt r) (min 12 (min 60 (tn (lf r)))) k).2; rw [if_pos ⟨c5, c9, c14⟩])
          rw [st18] at hl
          have st19 : (nI (k)) = (dyF (kd r) dy (dd r) (nt r) (min 12 (min 60 (tn (lf r)))) (k + 1)).1 := (by subst ex17; show _ = (if nI k &&& (dd r ^^^ (-1)) = 0 ∧ ¬ (dyF (kd r) dy (dd r) (nt r) (min 12 (min 60 (tn (lf r)))) k).2 ≤ bc32 (nI k) ∧ dnB (kd r) dy (dd r &&& (nI k ^^^ (-1))) (nt r) (min 12 (min 60 (tn (lf r)))) = nt r then (nI k, bc32 (nI k)) else dyF (kd r) dy (dd r) (nt r) (min 12 (min 60 (tn (lf r)))) k).1; rw [if_pos ⟨c5, c9, c14⟩])
          rw [st19] at hl
          exact ih3 (by omega) ls (lv_sub hl [0, 1, 2, 4, 5, 6, 7, 8] rfl)
theorem u_X2_tenthsToBeTrue_X8 : ∀ w ∈ wsX80, w ∈ wsX2_tenthsToBeTrue := fun _ h => List.mem_cons_of_mem _ (List.mem_append_left _ (List.mem_append_right _ h))
set_option maxHeartbeats 4000000 in
set_option maxRecDepth 100000 in
theorem c_X2_tenthsToBeTrue (l : Launch) (D : va_G) (cI cZ cT : ClassId) (ta : Nat → Nat) (st dy ln rd : Int32) (kd dd nt lf : Nat → Int32) (fa : Nat → Nat) (co wy : Nat → Int32) (r : Nat) (cc : Int32) (hr_ : r ≤ 5) (hkd : isK (kd r)) (hlf : isL (lf r)) : Met l yX2_tenthsToBeTrue wsX2_tenthsToBeTrue ({ frames := 4, cells := 0, slots := 0, locals := 96 }) (pR D cI cZ cT [.ref (fa 0), .ref (ta 0), .int (nI (r)), .int cc] (wTown cI ta st dy ln rd kd dd nt lf ++ wFore cI fa co wy)) (QcRead ((if dd r = nt r then cc else 0) + (if dnB (kd r) dy (dd r) (nt r) (min 12 (min 60 (tn (lf r)))) = nt r then 10 - cc else 0))) 0 0 (fun _ => False) := by
  refine Met.ofW (cc := cX2_tenthsToBeTrue) (maxL := 8) (ret := (some .int)) (by decide) rfl ?_
  intro p e s m args below meth c s₁ B hml hv
  obtain ⟨rfl, hP, hK⟩ := hv
  have hx := B.exec
  have hb := B.bytes
  have hr := B.returns
  have hts := atoms_spec (ws := wsX2_tenthsToBeTrue) B.pre
  have hown : s.vm.findClass RX2 = some m.cls := findClass_of_methodNamed B.named
  have hlocks := B.notSynchronized
  have hl := lv_entry ([.ref (fa 0), .ref (ta 0), .int (nI (r)), .int cc]) (n := 8) (Nat.le_of_ble_eq_true rfl)
  rw [lg_entry_eq]
  generalize (lg_sl ([.ref (fa 0), .ref (ta 0), .int (nI (r)), .int cc]) ++ List.replicate (8 - (lg_sl ([.ref (fa 0), .ref (ta 0), .int (nI (r)), .int cc])).length) Slot.unset).toArray = ls at hl ⊢
  have hl : lv_has ls 8 [(0, .ref (fa 0)), (1, .ref (ta 0)), (2, .int (nI (r))), (3, .int cc)] := hl
  refine lv_aload_n hx hb dX2_tenthsToBeTrue_0 rfl (lv_at hl 1 rfl) ?_
  refine va_get (D := D) (ci := 7) (v := .ref (ta 2)) (C := RX8) (T := TX8) (N := 8) hx hb hts u_X2_tenthsToBeTrue_X8 hown hK.1 hP 0 rfl rfl 5 (by decide) (hts (.fieldLink RX2 66 "NoticeWeek$Town" "did" "[I") (List.mem_of_getElem? (i := 1) rfl)) (fun _ h9 => h9) rfl dX2_tenthsToBeTrue_1 ?_
  refine lv_iload_n hx hb dX2_tenthsToBeTrue_4 rfl (lv_at hl 2 rfl) ?_
  refine b_ald hx hb hK hP 2 rfl (by omega) (by decide) dX2_tenthsToBeTrue_5 ?_
  refine lv_topi (fun x1 ex1 => ?_)
  refine lv_istore (lv' := [(4, .int x1), (0, .ref (fa 0)), (1, .ref (ta 0)), (2, .int (nI (r))), (3, .int cc)]) hx hb dX2_tenthsToBeTrue_6 hl (by decide) rfl (fun ls hl => ?_)
  refine lv_aload_n hx hb dX2_tenthsToBeTrue_8 rfl (lv_at hl 2 rfl) ?_
  refine va_get (D := D) (ci := 7) (v := .ref (ta 3)) (C := RX8) (T := TX8) (N := 8) hx hb hts u_X2_tenthsToBeTrue_X8 hown hK.1 hP 0 rfl rfl 6 (by decide) (hts (.fieldLink RX2 69 "NoticeWeek$Town" "notice" "[I") (List.mem_of_getElem? (i := 2) rfl)) (fun _ h9 => h9) rfl dX2_tenthsToBeTrue_9 ?_
  refine lv_iload_n hx hb dX2_tenthsToBeTrue_12 rfl (lv_at hl 3 rfl) ?_
  refine b_ald hx hb hK hP 3 rfl (by omega) (by decide) dX2_tenthsToBeTrue_13 ?_
  refine lv_topi (fun x2 ex2 => ?_)
  refine lv_istore (lv' := [(5, .int x2), (4, .int x1), (0, .ref (fa 0)), (1, .ref (ta 0)), (2, .int (nI (r))), (3, .int cc)]) hx hb dX2_tenthsToBeTrue_14 hl (by decide) rfl (fun ls hl => ?_)
  refine lv_iload hx hb dX2_tenthsToBeTrue_16 (lv_at hl 1 rfl) ?_
  refine lv_iload hx hb dX2_tenthsToBeTrue_18 (lv_at hl 0 rfl) ?_
  refine lv_icmp_ne (tgt := 27) hx hb dX2_tenthsToBeTrue_20 (by decide) (fun c3 => ?_) (fun c3 => ?_)
  · refine lv_iconst (v := (nI 0)) hx hb dX2_tenthsToBeTrue_27 (by decide) ?_
    refine lv_istore (lv' := [(6, .int (nI 0)), (5, .int x2), (4, .int x1), (0, .ref (fa 0)), (1, .ref (ta 0)), (2, .int (nI (r))), (3, .int cc)]) hx hb dX2_tenthsToBeTrue_28 hl (by decide) rfl (fun ls hl => ?_)
    refine lv_aload_n hx hb dX2_tenthsToBeTrue_30 rfl (lv_at hl 3 rfl) ?_
    refine lv_aload_n hx hb dX2_tenthsToBeTrue_31 rfl (lv_at hl 4 rfl) ?_
    refine lv_iload_n hx hb dX2_tenthsToBeTrue_32 rfl (lv_at hl 5 rfl) ?_
    refine lv_bipush (v := (nI 60)) hx hb dX2_tenthsToBeTrue_33 (by decide) ?_
    refine lv_iload hx hb dX2_tenthsToBeTrue_35 (lv_at hl 2 rfl) ?_
    refine lv_iload hx hb dX2_tenthsToBeTrue_37 (lv_at hl 1 rfl) ?_
    refine b_call (va_runV (As := [.ref (ta 0), .int (nI (r)), .int (nI 60), .int x1, .int x2]) (rest := []) ⟨hx, hb, hml, hown, hts⟩ (c_X2_doneBehind l D cI cZ cT ta st dy ln rd kd dd nt lf fa co wy r 60 x1 x2 hr_ (by omega) hkd hlf) (cwV 5 hts gX2_tenthsToBeTrue_X2_doneBehind rfl rfl rfl (by decide +kernel) ⟨(Nat.le_of_ble_eq_true rfl), (Nat.le_of_ble_eq_true rfl)⟩) (b_pV hK hP [0, 1, 2, 3, 4, 5, 6, 7, 8, 9, 10, 11, 12] rfl 5 rfl rfl) rfl rfl hl.1 rfl (lv_room (Nat.le_of_ble_eq_true rfl)) dX2_tenthsToBeTrue_39 ⟨Nat.zero_le _, Nat.zero_le _⟩).run ?_
    refine lv_iload hx hb dX2_tenthsToBeTrue_42 (lv_at hl 1 rfl) ?_
    refine lv_icmp_ne (tgt := 54) hx hb dX2_tenthsToBeTrue_44 (by decide) (fun c4 => ?_) (fun c4 => ?_)
    · refine lv_iconst (v := (nI 0)) hx hb dX2_tenthsToBeTrue_54 (by decide) ?_
      refine lv_istore (lv' := [(7, .int (nI 0)), (6, .int (nI 0)), (5, .int x2), (4, .int x1), (0, .ref (fa 0)), (1, .ref (ta 0)), (2, .int (nI (r))), (3, .int cc)]) hx hb dX2_tenthsToBeTrue_55 hl (by decide) rfl (fun ls hl => ?_)
      refine lv_iload hx hb dX2_tenthsToBeTrue_57 (lv_at hl 1 rfl) ?_
      refine lv_iload hx hb dX2_tenthsToBeTrue_59 (lv_at hl 0 rfl) ?_
      refine b_add hx hb dX2_tenthsToBeTrue_61 ?_
      exact b_ret hx hb hr (by subst ex2; subst ex1; rw [if_neg c3, if_neg c4]; first | done | decide | rw [show nI 0 = 0 by decide]) dX2_tenthsToBeTrue_62 hlocks
    · refine lv_bipush (v := 10) hx hb dX2_tenthsToBeTrue_47 (by decide) ?_
      refine lv_iload_n hx hb dX2_tenthsToBeTrue_49 rfl (lv_at hl 6 rfl) ?_
      refine lv_isub hx hb dX2_tenthsToBeTrue_50 ?_
      refine lv_goto (tgt := 55) hx hb dX2_tenthsToBeTrue_51 (by decide) ?_
      refine lv_topi (fun x5 ex5 => ?_)
      refine lv_istore (lv' := [(7, .int x5), (6, .int (nI 0)), (5, .int x2), (4, .int x1), (0, .ref (fa 0)), (1, .ref (ta 0)), (2, .int (nI (r))), (3, .int cc)]) hx hb dX2_tenthsToBeTrue_55 hl (by decide) rfl (fun ls hl => ?_)
      refine lv_iload hx hb dX2_tenthsToBeTrue_57 (lv_at hl 1 rfl) ?_
      refine lv_iload hx hb dX2_tenthsToBeTrue_59 (lv_at hl 0 rfl) ?_
      refine lv_iadd hx hb dX2_tenthsToBeTrue_61 ?_
      exact b_ret hx hb hr (by subst ex5; subst ex2; subst ex1; rw [if_neg c3, if_pos c4]; first | done | decide | rw [show nI 0 = 0 by decide]) dX2_tenthsToBeTrue_62 hlocks
  · refine lv_iload_n hx hb dX2_tenthsToBeTrue_23 rfl (lv_at hl 5 rfl) ?_
    refine lv_goto (tgt := 28) hx hb dX2_tenthsToBeTrue_24 (by decide) ?_
    refine lv_istore (lv' := [(6, .int cc), (5, .int x2), (4, .int x1), (0, .ref (fa 0)), (1, .ref (ta 0)), (2, .int (nI (r))), (3, .int cc)]) hx hb dX2_tenthsToBeTrue_28 hl (by decide) rfl (fun ls hl => ?_)
    refine lv_aload_n hx hb dX2_tenthsToBeTrue_30 rfl (lv_at hl 3 rfl) ?_
    refine lv_aload_n hx hb dX2_tenthsToBeTrue_31 rfl (lv_at hl 4 rfl) ?_
    refine lv_iload_n hx hb dX2_tenthsToBeTrue_32 rfl (lv_at hl 5 rfl) ?_
    refine lv_bipush (v := (nI 60)) hx hb dX2_tenthsToBeTrue_33 (by decide) ?_
    refine lv_iload hx hb dX2_tenthsToBeTrue_35 (lv_at hl 2 rfl) ?_
    refine lv_iload hx hb dX2_tenthsToBeTrue_37 (lv_at hl 1 rfl) ?_
    refine b_call (va_runV (As := [.ref (ta 0), .int (nI (r)), .int (nI 60), .int x1, .int x2]) (rest := []) ⟨hx, hb, hml, hown, hts⟩ (c_X2_doneBehind l D cI cZ cT ta st dy ln rd kd dd nt lf fa co wy r 60 x1 x2 hr_ (by omega) hkd hlf) (cwV 5 hts gX2_tenthsToBeTrue_X2_doneBehind rfl rfl rfl (by decide +kernel) ⟨(Nat.le_of_ble_eq_true rfl), (Nat.le_of_ble_eq_true rfl)⟩) (b_pV hK hP [0, 1, 2, 3, 4, 5, 6, 7, 8, 9, 10, 11, 12] rfl 5 rfl rfl) rfl rfl hl.1 rfl (lv_room (Nat.le_of_ble_eq_true rfl)) dX2_tenthsToBeTrue_39 ⟨Nat.zero_le _, Nat.zero_le _⟩).run ?_
    refine lv_iload hx hb dX2_tenthsToBeTrue_42 (lv_at hl 1 rfl) ?_
    refine lv_icmp_ne (tgt := 54) hx hb dX2_tenthsToBeTrue_44 (by decide) (fun c6 => ?_) (fun c6 => ?_)
    · refine lv_iconst (v := 0) hx hb dX2_tenthsToBeTrue_54 (by decide) ?_
      refine lv_istore (lv' := [(7, .int 0), (6, .int cc), (5, .int x2), (4, .int x1), (0, .ref (fa 0)), (1, .ref (ta 0)), (2, .int (nI (r))), (3, .int cc)]) hx hb dX2_tenthsToBeTrue_55 hl (by decide) rfl (fun ls hl => ?_)
      refine lv_iload hx hb dX2_tenthsToBeTrue_57 (lv_at hl 1 rfl) ?_
      refine lv_iload hx hb dX2_tenthsToBeTrue_59 (lv_at hl 0 rfl) ?_
      refine lv_iadd hx hb dX2_tenthsToBeTrue_61 ?_
      exact b_ret hx hb hr (by subst ex2; subst ex1; rw [if_pos c3, if_neg c6]; first | done | decide | rw [show nI 0 = 0 by decide]) dX2_tenthsToBeTrue_62 hlocks
    · refine lv_bipush (v := 10) hx hb dX2_tenthsToBeTrue_47 (by decide) ?_
      refine lv_iload_n hx hb dX2_tenthsToBeTrue_49 rfl (lv_at hl 6 rfl) ?_
      refine lv_isub hx hb dX2_tenthsToBeTrue_50 ?_
      refine lv_goto (tgt := 55) hx hb dX2_tenthsToBeTrue_51 (by decide) ?_
      refine lv_topi (fun x7 ex7 => ?_)
      refine lv_istore (lv' := [(7, .int x7), (6, .int cc), (5, .int x2), (4, .int x1), (0, .ref (fa 0)), (1, .ref (ta 0)), (2, .int (nI (r))), (3, .int cc)]) hx hb dX2_tenthsToBeTrue_55 hl (by decide) rfl (fun ls hl => ?_)
      refine lv_iload hx hb dX2_tenthsToBeTrue_57 (lv_at hl 1 rfl) ?_
      refine lv_iload hx hb dX2_tenthsToBeTrue_59 (lv_at hl 0 rfl) ?_
      refine lv_iadd hx hb dX2_tenthsToBeTrue_61 ?_
      exact b_ret hx hb hr (by subst ex7; subst ex2; subst ex1; rw [if_pos c3, if_pos c6]; first | done | decide | rw [show nI 0 = 0 by decide]) dX2_tenthsToBeTrue_62 hlocks
theorem u_X2_layCourse_X2 : ∀ w ∈ wsX20, w ∈ wsX2_layCourse := fun _ h => List.mem_cons_of_mem _ (List.mem_append_right _ h)
theorem u_X2_layCourse_X8 : ∀ w ∈ wsX80, w ∈ wsX2_layCourse := fun _ h => List.mem_cons_of_mem _ (List.mem_append_left _ (List.mem_append_right _ h))
set_option maxHeartbeats 4000000 in
set_option maxRecDepth 100000 in
theorem c_X2_layCourse (l : Launch) (D : va_G) (cI cZ cT : ClassId) (ta : Nat → Nat) (st dy ln rd : Int32) (kd dd nt lf : Nat → Int32) (fa : Nat → Nat) (co wy : Nat → Int32) (r : Nat) (kk nu : Int32) (hr_ : r ≤ 5) (hkk : isK kk) : Met l yX2_layCourse wsX2_layCourse ({ frames := 3, cells := 0, slots := 0, locals := 67 }) (pM D cI cZ cT [.ref (fa 0), .ref (ta 0), .int (nI (r)), .int kk, .int nu] (wTown cI ta st dy ln rd kd dd nt lf ++ wFore cI fa co wy)) (qM D none (wTown cI ta st dy ln rd kd dd nt lf ++ wFore cI fa (lcC kk dy (dd r) nu (lf r) co 16) wy) (adr (wTown cI ta st dy ln rd kd dd nt lf ++ wFore cI fa co wy))) 0 0 (adr (wTown cI ta st dy ln rd kd dd nt lf ++ wFore cI fa co wy)) := by
  refine Met.ofW (cc := cX2_layCourse) (maxL := 8) (ret := none) (by decide) rfl ?_
  intro p e s m args below meth c s₁ B hml hv
  obtain ⟨rfl, hP, hD0, hK⟩ := hv
  have hx := B.exec
  have hb := B.bytes
  have hr := B.returns
  have hts := atoms_spec (ws := wsX2_layCourse) B.pre
  have hown : s.vm.findClass RX2 = some m.cls := findClass_of_methodNamed B.named
  have hlocks := B.notSynchronized
  have hD := hD0.toAdr
  have hS : va_S (adr (wTown cI ta st dy ln rd kd dd nt lf ++ wFore cI fa co wy)) s.heap s.heap [] := va_S.rf
  generalize adr (wTown cI ta st dy ln rd kd dd nt lf ++ wFore cI fa co wy) = A at hD hS ⊢
  have hl := lv_entry ([.ref (fa 0), .ref (ta 0), .int (nI (r)), .int kk, .int nu]) (n := 8) (Nat.le_of_ble_eq_true rfl)
  rw [lg_entry_eq]
  generalize (lg_sl ([.ref (fa 0), .ref (ta 0), .int (nI (r)), .int kk, .int nu]) ++ List.replicate (8 - (lg_sl ([.ref (fa 0), .ref (ta 0), .int (nI (r)), .int kk, .int nu])).length) Slot.unset).toArray = ls at hl ⊢
  have hl : lv_has ls 8 [(0, .ref (fa 0)), (1, .ref (ta 0)), (2, .int (nI (r))), (3, .int kk), (4, .int nu)] := hl
  rcases hkk with hk9 | hk9 | hk9 | hk9 | hk9
  · refine lv_aload_n hx hb dX2_layCourse_0 rfl (lv_at hl 0 rfl) ?_
    refine lv_iload_n hx hb dX2_layCourse_1 rfl (lv_at hl 3 rfl) ?_
    refine lv_topi (fun vv ev => ?_)
    rw [hk9] at ev
    subst ev
    refine b_callA (va_runV (As := [.int 1]) (rest := []) ⟨hx, hb, hml, hown, hts⟩ (c_X2_temperOf_1 l D cI cZ cT fa co wy) (cwV 1 hts gX2_layCourse_X2_temperOf rfl rfl rfl (by decide +kernel) ⟨(Nat.le_of_ble_eq_true rfl), (Nat.le_of_ble_eq_true rfl)⟩) (b_pV hK hP [5, 6, 7, 8, 9, 10, 11, 12] rfl 5 rfl rfl) rfl rfl hl.1 rfl (lv_room (Nat.le_of_ble_eq_true rfl)) dX2_layCourse_2 ⟨Nat.zero_le _, Nat.zero_le _⟩).run ?_
    refine lv_astore (lv' := [(5, .ref (fa 1)), (0, .ref (fa 0)), (1, .ref (ta 0)), (2, .int (nI (r))), (3, .int kk), (4, .int nu)]) hx hb dX2_layCourse_5 hl (by decide) rfl (fun ls hl => ?_)
    refine lv_aload_n hx hb dX2_layCourse_7 rfl (lv_at hl 2 rfl) ?_
    refine va_get (D := D) (ci := 7) (v := .ref (ta 2)) (C := RX8) (T := TX8) (N := 8) hx hb hts u_X2_layCourse_X8 hown hK.1 hP 0 rfl rfl 5 (by decide) (hts (.fieldLink RX2 66 "NoticeWeek$Town" "did" "[I") (List.mem_of_getElem? (i := 1) rfl)) (fun _ h9 => h9) rfl dX2_layCourse_8 ?_
    refine lv_iload_n hx hb dX2_layCourse_11 rfl (lv_at hl 3 rfl) ?_
    refine b_ald hx hb hK hP 2 rfl (by omega) (by decide) dX2_layCourse_12 ?_
    refine lv_topi (fun x1 ex1 => ?_)
    refine lv_istore (lv' := [(6, .int x1), (5, .ref (fa 1)), (0, .ref (fa 0)), (1, .ref (ta 0)), (2, .int (nI (r))), (3, .int kk), (4, .int nu)]) hx hb dX2_layCourse_13 hl (by decide) rfl (fun ls hl => ?_)
    subst ex1
    have hl : lv_has ls 8 [(6, .int (lcD kk dy (dd r) nu (lf r) 0)), (5, .ref (fa 1)), (0, .ref (fa 0)), (1, .ref (ta 0)), (2, .int (nI (r))), (3, .int kk), (4, .int nu)] := hl
    refine lv_iconst (v := (nI 0)) hx hb dX2_layCourse_15 (by decide) ?_
    refine lv_istore (lv' := [(7, .int (nI 0)), (6, .int (lcD kk dy (dd r) nu (lf r) 0)), (5, .ref (fa 1)), (0, .ref (fa 0)), (1, .ref (ta 0)), (2, .int (nI (r))), (3, .int kk), (4, .int nu)]) hx hb dX2_layCourse_16 hl (by decide) rfl (fun ls hl => ?_)
    refine b_loopM (N := 16) (I := fun k ls H locs => lv_has ls 8 [(7, .int (nI (k))), (6, .int (lcD kk dy (dd r) nu (lf r) k)), (5, .ref (fa 1)), (0, .ref (fa 0)), (1, .ref (ta 0)), (2, .int (nI (r))), (4, .int nu)] ∧ va_P D vwCl (wTown cI ta st dy ln rd kd dd nt lf ++ wFore cI fa (lcC kk dy (dd r) nu (lf r) co k) wy) H ∧ va_S A s.heap H locs) (fun k hk ih2 ls H locs hI => ?_) 0 (by omega) ⟨lv_sub hl [0, 1, 2, 3, 4, 5, 7] rfl, hP, hS⟩
    obtain ⟨hl, hP, hS⟩ := hI
    have hl : lv_has ls 8 [(7, .int (nI (k))), (6, .int (lcD kk dy (dd r) nu (lf r) k)), (5, .ref (fa 1)), (0, .ref (fa 0)), (1, .ref (ta 0)), (2, .int (nI (r))), (4, .int nu)] := hl
    have hP : va_P D vwCl (wTown cI ta st dy ln rd kd dd nt lf ++ wFore cI fa (lcC kk dy (dd r) nu (lf r) co k) wy) H := hP
    have hD : va_D A (wTown cI ta st dy ln rd kd dd nt lf ++ wFore cI fa (lcC kk dy (dd r) nu (lf r) co k) wy) := hD.sameA [(ta 0), (ta 1), (ta 2), (ta 3), (ta 4), (fa 0), (fa 1), (fa 2), (fa 3), (fa 4), (fa 5), (fa 6), (fa 7)] rfl rfl
    refine lv_iload hx hb dX2_layCourse_18 (lv_at hl 0 rfl) ?_
    refine lv_bipush (v := (nI 16)) hx hb dX2_layCourse_20 (by decide) ?_
    refine b_ge (tgt := 72) hx hb (by omega) (by omega) dX2_layCourse_22 (by decide) (fun c3 => ?_) (fun c3 => ?_)
    · have h_k : 16 = k := by omega
      subst h_k
      exact b_vretM hx hb hr hP hS dX2_layCourse_72 hlocks
    · refine lv_iload hx hb dX2_layCourse_25 (lv_at hl 0 rfl) ?_
      refine lv_aload_n hx hb dX2_layCourse_27 rfl (lv_at hl 4 rfl) ?_
      refine va_get (D := D) (ci := 7) (v := .ref (ta 4)) (C := RX8) (T := TX8) (N := 8) hx hb hts u_X2_layCourse_X8 hown hK.1 hP 0 rfl rfl 7 (by decide) (hts (.fieldLink RX2 78 "NoticeWeek$Town" "left" "[I") (List.mem_of_getElem? (i := 2) rfl)) (fun _ h9 => h9) rfl dX2_layCourse_28 ?_
      refine lv_iload_n hx hb dX2_layCourse_31 rfl (lv_at hl 5 rfl) ?_
      refine b_ald hx hb hK hP 4 rfl (by omega) (by decide) dX2_layCourse_32 ?_
      refine lv_icmp_ge (tgt := 57) hx hb dX2_layCourse_33 (by decide) (fun c4 => ?_) (fun c4 => ?_)
      · have ld5 : (lcD kk dy (dd r) nu (lf r) k) = (lcD kk dy (dd r) nu (lf r) (k + 1)) := (by show _ = (if lf r ≤ nI k then (lcD kk dy (dd r) nu (lf r) k) else (lcD kk dy (dd r) nu (lf r) k) ||| tDo kk (dy + nI k) (lcD kk dy (dd r) nu (lf r) k) nu); rw [if_pos c4])
        rw [ld5] at hl
        have hl : lv_has ls 8 [(7, .int (nI (k))), (6, .int (lcD kk dy (dd r) nu (lf r) (k + 1))), (5, .ref (fa 1)), (0, .ref (fa 0)), (1, .ref (ta 0)), (2, .int (nI (r))), (4, .int nu)] := hl
        refine lv_aload_n hx hb dX2_layCourse_57 rfl (lv_at hl 3 rfl) ?_
        refine va_get (D := D) (ci := 2) (v := .ref (fa 6)) (C := RX2) (T := TX2) (N := 7) hx hb hts u_X2_layCourse_X2 hown hK.1 hP 5 rfl rfl 5 (by decide) (hts (.fieldLink RX2 42 "NoticeWeek$Foresight" "course" "[I") (List.mem_of_getElem? (i := 4) rfl)) (fun _ h9 => h9) rfl dX2_layCourse_58 ?_
        refine lv_iload hx hb dX2_layCourse_61 (lv_at hl 0 rfl) ?_
        refine lv_iload hx hb dX2_layCourse_63 (lv_at hl 1 rfl) ?_
        refine b_ast hx hb hK hP hD hS 11 rfl (by omega) (by decide) dX2_layCourse_65 (fun H locs hP hS => ?_)
        have hP : va_P D vwCl (wTown cI ta st dy ln rd kd dd nt lf ++ wFore cI fa (upd (lcC kk dy (dd r) nu (lf r) co k) k (lcD kk dy (dd r) nu (lf r) (k + 1))) wy) H := hP
        have hD : va_D A (wTown cI ta st dy ln rd kd dd nt lf ++ wFore cI fa (upd (lcC kk dy (dd r) nu (lf r) co k) k (lcD kk dy (dd r) nu (lf r) (k + 1))) wy) := hD.sameA [(ta 0), (ta 1), (ta 2), (ta 3), (ta 4), (fa 0), (fa 1), (fa 2), (fa 3), (fa 4), (fa 5), (fa 6), (fa 7)] rfl rfl
        refine lv_iinc (v := (nI (k + 1))) (lv' := [(7, .int (nI (k + 1))), (6, .int (lcD kk dy (dd r) nu (lf r) (k + 1))), (5, .ref (fa 1)), (0, .ref (fa 0)), (1, .ref (ta 0)), (2, .int (nI (r))), (4, .int nu)]) hx hb dX2_layCourse_66 hl (k := 0) rfl (nI_add _ _) (by decide) rfl (fun ls hl => ?_)
        refine lv_goto (tgt := 18) hx hb dX2_layCourse_69 (by decide) ?_
        exact ih2 (by omega) ls H locs ⟨lv_sub hl [0, 1, 2, 3, 4, 5, 6] rfl, hP, hS⟩
      · refine lv_iload hx hb dX2_layCourse_36 (lv_at hl 1 rfl) ?_
        refine lv_aload hx hb dX2_layCourse_38 (lv_at hl 2 rfl) ?_
        refine lv_aload_n hx hb dX2_layCourse_40 rfl (lv_at hl 4 rfl) ?_
        refine va_get (D := D) (ci := 7) (v := .int dy) (C := RX8) (T := TX8) (N := 8) hx hb hts u_X2_layCourse_X8 hown hK.1 hP 0 rfl rfl 1 (by decide) (hts (.fieldLink RX2 62 "NoticeWeek$Town" "day" "I") (List.mem_of_getElem? (i := 3) rfl)) (fun _ h9 => h9) rfl dX2_layCourse_41 ?_
        refine lv_iload hx hb dX2_layCourse_44 (lv_at hl 0 rfl) ?_
        refine lv_iadd hx hb dX2_layCourse_46 ?_
        refine lv_iload hx hb dX2_layCourse_47 (lv_at hl 1 rfl) ?_
        refine lv_iload hx hb dX2_layCourse_49 (lv_at hl 6 rfl) ?_
        refine b_call (va_runU (As := [.int (dy + (nI (k))), .int (lcD kk dy (dd r) nu (lf r) k), .int nu]) (rest := [.int (lcD kk dy (dd r) nu (lf r) k)]) ⟨hx, hb, hml, hown, hts⟩ (c_X3_deedsOn l D cI cZ cT (fa 1) (dy + (nI (k))) (lcD kk dy (dd r) nu (lf r) k) nu) (va_cwA 3 hts gX2_layCourse_X3_deedsOn_u72X3 rfl rfl rfl hK.2.2.1 (by decide +kernel) ⟨(Nat.le_of_ble_eq_true rfl), (Nat.le_of_ble_eq_true rfl)⟩) (b_pV hK hP [] rfl 6 rfl rfl) rfl rfl hl.1 rfl (lv_room (Nat.le_of_ble_eq_true rfl)) dX2_layCourse_51 ⟨Nat.zero_le _, Nat.zero_le _⟩).run ?_
        refine lv_ior hx hb dX2_layCourse_54 ?_
        refine lv_topi (fun x6 ex6 => ?_)
        refine lv_istore (lv' := [(6, .int x6), (7, .int (nI (k))), (5, .ref (fa 1)), (0, .ref (fa 0)), (1, .ref (ta 0)), (2, .int (nI (r))), (4, .int nu)]) hx hb dX2_layCourse_55 hl (by decide) rfl (fun ls hl => ?_)
        have ld7 : x6 = (lcD kk dy (dd r) nu (lf r) (k + 1)) := (by subst ex6; show _ = (if lf r ≤ nI k then (lcD kk dy (dd r) nu (lf r) k) else (lcD kk dy (dd r) nu (lf r) k) ||| tDo kk (dy + nI k) (lcD kk dy (dd r) nu (lf r) k) nu); rw [if_neg c4]; generalize (lcD kk dy (dd r) nu (lf r) k) = z; rw [hk9, tDo_1])
        rw [ld7] at hl
        have hl : lv_has ls 8 [(6, .int (lcD kk dy (dd r) nu (lf r) (k + 1))), (7, .int (nI (k))), (5, .ref (fa 1)), (0, .ref (fa 0)), (1, .ref (ta 0)), (2, .int (nI (r))), (4, .int nu)] := hl
        refine lv_aload_n hx hb dX2_layCourse_57 rfl (lv_at hl 3 rfl) ?_
        refine va_get (D := D) (ci := 2) (v := .ref (fa 6)) (C := RX2) (T := TX2) (N := 7) hx hb hts u_X2_layCourse_X2 hown hK.1 hP 5 rfl rfl 5 (by decide) (hts (.fieldLink RX2 42 "NoticeWeek$Foresight" "course" "[I") (List.mem_of_getElem? (i := 4) rfl)) (fun _ h9 => h9) rfl dX2_layCourse_58 ?_
        refine lv_iload hx hb dX2_layCourse_61 (lv_at hl 1 rfl) ?_
        refine lv_iload hx hb dX2_layCourse_63 (lv_at hl 0 rfl) ?_
        refine b_ast hx hb hK hP hD hS 11 rfl (by omega) (by decide) dX2_layCourse_65 (fun H locs hP hS => ?_)
        have hP : va_P D vwCl (wTown cI ta st dy ln rd kd dd nt lf ++ wFore cI fa (upd (lcC kk dy (dd r) nu (lf r) co k) k (lcD kk dy (dd r) nu (lf r) (k + 1))) wy) H := hP
        have hD : va_D A (wTown cI ta st dy ln rd kd dd nt lf ++ wFore cI fa (upd (lcC kk dy (dd r) nu (lf r) co k) k (lcD kk dy (dd r) nu (lf r) (k + 1))) wy) := hD.sameA [(ta 0), (ta 1), (ta 2), (ta 3), (ta 4), (fa 0), (fa 1), (fa 2), (fa 3), (fa 4), (fa 5), (fa 6), (fa 7)] rfl rfl
        refine lv_iinc (v := (nI (k + 1))) (lv' := [(7, .int (nI (k + 1))), (6, .int (lcD kk dy (dd r) nu (lf r) (k + 1))), (5, .ref (fa 1)), (0, .ref (fa 0)), (1, .ref (ta 0)), (2, .int (nI (r))), (4, .int nu)]) hx hb dX2_layCourse_66 hl (k := 1) rfl (nI_add _ _) (by decide) rfl (fun ls hl => ?_)
        refine lv_goto (tgt := 18) hx hb dX2_layCourse_69 (by decide) ?_
        try subst ex6
        exact ih2 (by omega) ls H locs ⟨lv_sub hl [0, 1, 2, 3, 4, 5, 6] rfl, hP, hS⟩
  · refine lv_aload_n hx hb dX2_layCourse_0 rfl (lv_at hl 0 rfl) ?_
    refine lv_iload_n hx hb dX2_layCourse_1 rfl (lv_at hl 3 rfl) ?_
    refine lv_topi (fun vv ev => ?_)
    rw [hk9] at ev
    subst ev
    refine b_callA (va_runV (As := [.int 2]) (rest := []) ⟨hx, hb, hml, hown, hts⟩ (c_X2_temperOf_2 l D cI cZ cT fa co wy) (cwV 1 hts gX2_layCourse_X2_temperOf rfl rfl rfl (by decide +kernel) ⟨(Nat.le_of_ble_eq_true rfl), (Nat.le_of_ble_eq_true rfl)⟩) (b_pV hK hP [5, 6, 7, 8, 9, 10, 11, 12] rfl 5 rfl rfl) rfl rfl hl.1 rfl (lv_room (Nat.le_of_ble_eq_true rfl)) dX2_layCourse_2 ⟨Nat.zero_le _, Nat.zero_le _⟩).run ?_
    refine lv_astore (lv' := [(5, .ref (fa 2)), (0, .ref (fa 0)), (1, .ref (ta 0)), (2, .int (nI (r))), (3, .int kk), (4, .int nu)]) hx hb dX2_layCourse_5 hl (by decide) rfl (fun ls hl => ?_)
    refine lv_aload_n hx hb dX2_layCourse_7 rfl (lv_at hl 2 rfl) ?_
    refine va_get (D := D) (ci := 7) (v := .ref (ta 2)) (C := RX8) (T := TX8) (N := 8) hx hb hts u_X2_layCourse_X8 hown hK.1 hP 0 rfl rfl 5 (by decide) (hts (.fieldLink RX2 66 "NoticeWeek$Town" "did" "[I") (List.mem_of_getElem? (i := 1) rfl)) (fun _ h9 => h9) rfl dX2_layCourse_8 ?_
    refine lv_iload_n hx hb dX2_layCourse_11 rfl (lv_at hl 3 rfl) ?_
    refine b_ald hx hb hK hP 2 rfl (by omega) (by decide) dX2_layCourse_12 ?_
    refine lv_topi (fun x8 ex8 => ?_)
    refine lv_istore (lv' := [(6, .int x8), (5, .ref (fa 2)), (0, .ref (fa 0)), (1, .ref (ta 0)), (2, .int (nI (r))), (3, .int kk), (4, .int nu)]) hx hb dX2_layCourse_13 hl (by decide) rfl (fun ls hl => ?_)
    subst ex8
    have hl : lv_has ls 8 [(6, .int (lcD kk dy (dd r) nu (lf r) 0)), (5, .ref (fa 2)), (0, .ref (fa 0)), (1, .ref (ta 0)), (2, .int (nI (r))), (3, .int kk), (4, .int nu)] := hl
    refine lv_iconst (v := (nI 0)) hx hb dX2_layCourse_15 (by decide) ?_
    refine lv_istore (lv' := [(7, .int (nI 0)), (6, .int (lcD kk dy (dd r) nu (lf r) 0)), (5, .ref (fa 2)), (0, .ref (fa 0)), (1, .ref (ta 0)), (2, .int (nI (r))), (3, .int kk), (4, .int nu)]) hx hb dX2_layCourse_16 hl (by decide) rfl (fun ls hl => ?_)
    refine b_loopM (N := 16) (I := fun k ls H locs => lv_has ls 8 [(7, .int (nI (k))), (6, .int (lcD kk dy (dd r) nu (lf r) k)), (5, .ref (fa 2)), (0, .ref (fa 0)), (1, .ref (ta 0)), (2, .int (nI (r))), (4, .int nu)] ∧ va_P D vwCl (wTown cI ta st dy ln rd kd dd nt lf ++ wFore cI fa (lcC kk dy (dd r) nu (lf r) co k) wy) H ∧ va_S A s.heap H locs) (fun k hk ih9 ls H locs hI => ?_) 0 (by omega) ⟨lv_sub hl [0, 1, 2, 3, 4, 5, 7] rfl, hP, hS⟩
    obtain ⟨hl, hP, hS⟩ := hI
    have hl : lv_has ls 8 [(7, .int (nI (k))), (6, .int (lcD kk dy (dd r) nu (lf r) k)), (5, .ref (fa 2)), (0, .ref (fa 0)), (1, .ref (ta 0)), (2, .int (nI (r))), (4, .int nu)] := hl
    have hP : va_P D vwCl (wTown cI ta st dy ln rd kd dd nt lf ++ wFore cI fa (lcC kk dy (dd r) nu (lf r) co k) wy) H := hP
    have hD : va_D A (wTown cI ta st dy ln rd kd dd nt lf ++ wFore cI fa (lcC kk dy (dd r) nu (lf r) co k) wy) := hD.sameA [(ta 0), (ta 1), (ta 2), (ta 3), (ta 4), (fa 0), (fa 1), (fa 2), (fa 3), (fa 4), (fa 5), (fa 6), (fa 7)] rfl rfl
    refine lv_iload hx hb dX2_layCourse_18 (lv_at hl 0 rfl) ?_
    refine lv_bipush (v := (nI 16)) hx hb dX2_layCourse_20 (by decide) ?_
    refine b_ge (tgt := 72) hx hb (by omega) (by omega) dX2_layCourse_22 (by decide) (fun c10 => ?_) (fun c10 => ?_)
    · have h_k : 16 = k := by omega
      subst h_k
      exact b_vretM hx hb hr hP hS dX2_layCourse_72 hlocks
    · refine lv_iload hx hb dX2_layCourse_25 (lv_at hl 0 rfl) ?_
      refine lv_aload_n hx hb dX2_layCourse_27 rfl (lv_at hl 4 rfl) ?_
      refine va_get (D := D) (ci := 7) (v := .ref (ta 4)) (C := RX8) (T := TX8) (N := 8) hx hb hts u_X2_layCourse_X8 hown hK.1 hP 0 rfl rfl 7 (by decide) (hts (.fieldLink RX2 78 "NoticeWeek$Town" "left" "[I") (List.mem_of_getElem? (i := 2) rfl)) (fun _ h9 => h9) rfl dX2_layCourse_28 ?_
      refine lv_iload_n hx hb dX2_layCourse_31 rfl (lv_at hl 5 rfl) ?_
      refine b_ald hx hb hK hP 4 rfl (by omega) (by decide) dX2_layCourse_32 ?_
      refine lv_icmp_ge (tgt := 57) hx hb dX2_layCourse_33 (by decide) (fun c11 => ?_) (fun c11 => ?_)
      · have ld12 : (lcD kk dy (dd r) nu (lf r) k) = (lcD kk dy (dd r) nu (lf r) (k + 1)) := (by show _ = (if lf r ≤ nI k then (lcD kk dy (dd r) nu (lf r) k) else (lcD kk dy (dd r) nu (lf r) k) ||| tDo kk (dy + nI k) (lcD kk dy (dd r) nu (lf r) k) nu); rw [if_pos c11])
        rw [ld12] at hl
        have hl : lv_has ls 8 [(7, .int (nI (k))), (6, .int (lcD kk dy (dd r) nu (lf r) (k + 1))), (5, .ref (fa 2)), (0, .ref (fa 0)), (1, .ref (ta 0)), (2, .int (nI (r))), (4, .int nu)] := hl
        refine lv_aload_n hx hb dX2_layCourse_57 rfl (lv_at hl 3 rfl) ?_
        refine va_get (D := D) (ci := 2) (v := .ref (fa 6)) (C := RX2) (T := TX2) (N := 7) hx hb hts u_X2_layCourse_X2 hown hK.1 hP 5 rfl rfl 5 (by decide) (hts (.fieldLink RX2 42 "NoticeWeek$Foresight" "course" "[I") (List.mem_of_getElem? (i := 4) rfl)) (fun _ h9 => h9) rfl dX2_layCourse_58 ?_
        refine lv_iload hx hb dX2_layCourse_61 (lv_at hl 0 rfl) ?_
        refine lv_iload hx hb dX2_layCourse_63 (lv_at hl 1 rfl) ?_
        refine b_ast hx hb hK hP hD hS 11 rfl (by omega) (by decide) dX2_layCourse_65 (fun H locs hP hS => ?_)
        have hP : va_P D vwCl (wTown cI ta st dy ln rd kd dd nt lf ++ wFore cI fa (upd (lcC kk dy (dd r) nu (lf r) co k) k (lcD kk dy (dd r) nu (lf r) (k + 1))) wy) H := hP
        have hD : va_D A (wTown cI ta st dy ln rd kd dd nt lf ++ wFore cI fa (upd (lcC kk dy (dd r) nu (lf r) co k) k (lcD kk dy (dd r) nu (lf r) (k + 1))) wy) := hD.sameA [(ta 0), (ta 1), (ta 2), (ta 3), (ta 4), (fa 0), (fa 1), (fa 2), (fa 3), (fa 4), (fa 5), (fa 6), (fa 7)] rfl rfl
        refine lv_iinc (v := (nI (k + 1))) (lv' := [(7, .int (nI (k + 1))), (6, .int (lcD kk dy (dd r) nu (lf r) (k + 1))), (5, .ref (fa 2)), (0, .ref (fa 0)), (1, .ref (ta 0)), (2, .int (nI (r))), (4, .int nu)]) hx hb dX2_layCourse_66 hl (k := 0) rfl (nI_add _ _) (by decide) rfl (fun ls hl => ?_)
        refine lv_goto (tgt := 18) hx hb dX2_layCourse_69 (by decide) ?_
        exact ih9 (by omega) ls H locs ⟨lv_sub hl [0, 1, 2, 3, 4, 5, 6] rfl, hP, hS⟩
      · refine lv_iload hx hb dX2_layCourse_36 (lv_at hl 1 rfl) ?_
        refine lv_aload hx hb dX2_layCourse_38 (lv_at hl 2 rfl) ?_
        refine lv_aload_n hx hb dX2_layCourse_40 rfl (lv_at hl 4 rfl) ?_
        refine va_get (D := D) (ci := 7) (v := .int dy) (C := RX8) (T := TX8) (N := 8) hx hb hts u_X2_layCourse_X8 hown hK.1 hP 0 rfl rfl 1 (by decide) (hts (.fieldLink RX2 62 "NoticeWeek$Town" "day" "I") (List.mem_of_getElem? (i := 3) rfl)) (fun _ h9 => h9) rfl dX2_layCourse_41 ?_
        refine lv_iload hx hb dX2_layCourse_44 (lv_at hl 0 rfl) ?_
        refine lv_iadd hx hb dX2_layCourse_46 ?_
        refine lv_iload hx hb dX2_layCourse_47 (lv_at hl 1 rfl) ?_
        refine lv_iload hx hb dX2_layCourse_49 (lv_at hl 6 rfl) ?_
        refine b_call (va_runU (As := [.int (dy + (nI (k))), .int (lcD kk dy (dd r) nu (lf r) k), .int nu]) (rest := [.int (lcD kk dy (dd r) nu (lf r) k)]) ⟨hx, hb, hml, hown, hts⟩ (c_X10_deedsOn l D cI cZ cT (fa 2) (dy + (nI (k))) (lcD kk dy (dd r) nu (lf r) k) nu) (va_cwA 3 hts gX2_layCourse_X10_deedsOn_u72X10 rfl rfl rfl hK.2.2.1 (by decide +kernel) ⟨(Nat.le_of_ble_eq_true rfl), (Nat.le_of_ble_eq_true rfl)⟩) (b_pV hK hP [7] rfl 7 rfl rfl) rfl rfl hl.1 rfl (lv_room (Nat.le_of_ble_eq_true rfl)) dX2_layCourse_51 ⟨Nat.zero_le _, Nat.zero_le _⟩).run ?_
        refine lv_ior hx hb dX2_layCourse_54 ?_
        refine lv_topi (fun x13 ex13 => ?_)
        refine lv_istore (lv' := [(6, .int x13), (7, .int (nI (k))), (5, .ref (fa 2)), (0, .ref (fa 0)), (1, .ref (ta 0)), (2, .int (nI (r))), (4, .int nu)]) hx hb dX2_layCourse_55 hl (by decide) rfl (fun ls hl => ?_)
        have ld14 : x13 = (lcD kk dy (dd r) nu (lf r) (k + 1)) := (by subst ex13; show _ = (if lf r ≤ nI k then (lcD kk dy (dd r) nu (lf r) k) else (lcD kk dy (dd r) nu (lf r) k) ||| tDo kk (dy + nI k) (lcD kk dy (dd r) nu (lf r) k) nu); rw [if_neg c11]; generalize (lcD kk dy (dd r) nu (lf r) k) = z; rw [hk9, tDo_2])
        rw [ld14] at hl
        have hl : lv_has ls 8 [(6, .int (lcD kk dy (dd r) nu (lf r) (k + 1))), (7, .int (nI (k))), (5, .ref (fa 2)), (0, .ref (fa 0)), (1, .ref (ta 0)), (2, .int (nI (r))), (4, .int nu)] := hl
        refine lv_aload_n hx hb dX2_layCourse_57 rfl (lv_at hl 3 rfl) ?_
        refine va_get (D := D) (ci := 2) (v := .ref (fa 6)) (C := RX2) (T := TX2) (N := 7) hx hb hts u_X2_layCourse_X2 hown hK.1 hP 5 rfl rfl 5 (by decide) (hts (.fieldLink RX2 42 "NoticeWeek$Foresight" "course" "[I") (List.mem_of_getElem? (i := 4) rfl)) (fun _ h9 => h9) rfl dX2_layCourse_58 ?_
        refine lv_iload hx hb dX2_layCourse_61 (lv_at hl 1 rfl) ?_
        refine lv_iload hx hb dX2_layCourse_63 (lv_at hl 0 rfl) ?_
        refine b_ast hx hb hK hP hD hS 11 rfl (by omega) (by decide) dX2_layCourse_65 (fun H locs hP hS => ?_)
        have hP : va_P D vwCl (wTown cI ta st dy ln rd kd dd nt lf ++ wFore cI fa (upd (lcC kk dy (dd r) nu (lf r) co k) k (lcD kk dy (dd r) nu (lf r) (k + 1))) wy) H := hP
        have hD : va_D A (wTown cI ta st dy ln rd kd dd nt lf ++ wFore cI fa (upd (lcC kk dy (dd r) nu (lf r) co k) k (lcD kk dy (dd r) nu (lf r) (k + 1))) wy) := hD.sameA [(ta 0), (ta 1), (ta 2), (ta 3), (ta 4), (fa 0), (fa 1), (fa 2), (fa 3), (fa 4), (fa 5), (fa 6), (fa 7)] rfl rfl
        refine lv_iinc (v := (nI (k + 1))) (lv' := [(7, .int (nI (k + 1))), (6, .int (lcD kk dy (dd r) nu (lf r) (k + 1))), (5, .ref (fa 2)), (0, .ref (fa 0)), (1, .ref (ta 0)), (2, .int (nI (r))), (4, .int nu)]) hx hb dX2_layCourse_66 hl (k := 1) rfl (nI_add _ _) (by decide) rfl (fun ls hl => ?_)
        refine lv_goto (tgt := 18) hx hb dX2_layCourse_69 (by decide) ?_
        try subst ex13
        exact ih9 (by omega) ls H locs ⟨lv_sub hl [0, 1, 2, 3, 4, 5, 6] rfl, hP, hS⟩
  · refine lv_aload_n hx hb dX2_layCourse_0 rfl (lv_at hl 0 rfl) ?_
    refine lv_iload_n hx hb dX2_layCourse_1 rfl (lv_at hl 3 rfl) ?_
    refine lv_topi (fun vv ev => ?_)
    rw [hk9] at ev
    subst ev
    refine b_callA (va_runV (As := [.int 3]) (rest := []) ⟨hx, hb, hml, hown, hts⟩ (c_X2_temperOf_3 l D cI cZ cT fa co wy) (cwV 1 hts gX2_layCourse_X2_temperOf rfl rfl rfl (by decide +kernel) ⟨(Nat.le_of_ble_eq_true rfl), (Nat.le_of_ble_eq_true rfl)⟩) (b_pV hK hP [5, 6, 7, 8, 9, 10, 11, 12] rfl 5 rfl rfl) rfl rfl hl.1 rfl (lv_room (Nat.le_of_ble_eq_true rfl)) dX2_layCourse_2 ⟨Nat.zero_le _, Nat.zero_le _⟩).run ?_
    refine lv_astore (lv' := [(5, .ref (fa 3)), (0, .ref (fa 0)), (1, .ref (ta 0)), (2, .int (nI (r))), (3, .int kk), (4, .int nu)]) hx hb dX2_layCourse_5 hl (by decide) rfl (fun ls hl => ?_)
    refine lv_aload_n hx hb dX2_layCourse_7 rfl (lv_at hl 2 rfl) ?_
    refine va_get (D := D) (ci := 7) (v := .ref (ta 2)) (C := RX8) (T := TX8) (N := 8) hx hb hts u_X2_layCourse_X8 hown hK.1 hP 0 rfl rfl 5 (by decide) (hts (.fieldLink RX2 66 "NoticeWeek$Town" "did" "[I") (List.mem_of_getElem? (i := 1) rfl)) (fun _ h9 => h9) rfl dX2_layCourse_8 ?_
    refine lv_iload_n hx hb dX2_layCourse_11 rfl (lv_at hl 3 rfl) ?_
    refine b_ald hx hb hK hP 2 rfl (by omega) (by decide) dX2_layCourse_12 ?_
    refine lv_topi (fun x15 ex15 => ?_)
    refine lv_istore (lv' := [(6, .int x15), (5, .ref (fa 3)), (0, .ref (fa 0)), (1, .ref (ta 0)), (2, .int (nI (r))), (3, .int kk), (4, .int nu)]) hx hb dX2_layCourse_13 hl (by decide) rfl (fun ls hl => ?_)
    subst ex15
    have hl : lv_has ls 8 [(6, .int (lcD kk dy (dd r) nu (lf r) 0)), (5, .ref (fa 3)), (0, .ref (fa 0)), (1, .ref (ta 0)), (2, .int (nI (r))), (3, .int kk), (4, .int nu)] := hl
    refine lv_iconst (v := (nI 0)) hx hb dX2_layCourse_15 (by decide) ?_
    refine lv_istore (lv' := [(7, .int (nI 0)), (6, .int (lcD kk dy (dd r) nu (lf r) 0)), (5, .ref (fa 3)), (0, .ref (fa 0)), (1, .ref (ta 0)), (2, .int (nI (r))), (3, .int kk), (4, .int nu)]) hx hb dX2_layCourse_16 hl (by decide) rfl (fun ls hl => ?_)
    refine b_loopM (N := 16) (I := fun k ls H locs => lv_has ls 8 [(7, .int (nI (k))), (6, .int (lcD kk dy (dd r) nu (lf r) k)), (5, .ref (fa 3)), (0, .ref (fa 0)), (1, .ref (ta 0)), (2, .int (nI (r))), (4, .int nu)] ∧ va_P D vwCl (wTown cI ta st dy ln rd kd dd nt lf ++ wFore cI fa (lcC kk dy (dd r) nu (lf r) co k) wy) H ∧ va_S A s.heap H locs) (fun k hk ih16 ls H locs hI => ?_) 0 (by omega) ⟨lv_sub hl [0, 1, 2, 3, 4, 5, 7] rfl, hP, hS⟩
    obtain ⟨hl, hP, hS⟩ := hI
    have hl : lv_has ls 8 [(7, .int (nI (k))), (6, .int (lcD kk dy (dd r) nu (lf r) k)), (5, .ref (fa 3)), (0, .ref (fa 0)), (1, .ref (ta 0)), (2, .int (nI (r))), (4, .int nu)] := hl
    have hP : va_P D vwCl (wTown cI ta st dy ln rd kd dd nt lf ++ wFore cI fa (lcC kk dy (dd r) nu (lf r) co k) wy) H := hP
    have hD : va_D A (wTown cI ta st dy ln rd kd dd nt lf ++ wFore cI fa (lcC kk dy (dd r) nu (lf r) co k) wy) := hD.sameA [(ta 0), (ta 1), (ta 2), (ta 3), (ta 4), (fa 0), (fa 1), (fa 2), (fa 3), (fa 4), (fa 5), (fa 6), (fa 7)] rfl rfl
    refine lv_iload hx hb dX2_layCourse_18 (lv_at hl 0 rfl) ?_
    refine lv_bipush (v := (nI 16)) hx hb dX2_layCourse_20 (by decide) ?_
    refine b_ge (tgt := 72) hx hb (by omega) (by omega) dX2_layCourse_22 (by decide) (fun c17 => ?_) (fun c17 => ?_)
    · have h_k : 16 = k := by omega
      subst h_k
      exact b_vretM hx hb hr hP hS dX2_layCourse_72 hlocks
    · refine lv_iload hx hb dX2_layCourse_25 (lv_at hl 0 rfl) ?_
      refine lv_aload_n hx hb dX2_layCourse_27 rfl (lv_at hl 4 rfl) ?_
      refine va_get (D := D) (ci := 7) (v := .ref (ta 4)) (C := RX8) (T := TX8) (N := 8) hx hb hts u_X2_layCourse_X8 hown hK.1 hP 0 rfl rfl 7 (by decide) (hts (.fieldLink RX2 78 "NoticeWeek$Town" "left" "[I") (List.mem_of_getElem? (i := 2) rfl)) (fun _ h9 => h9) rfl dX2_layCourse_28 ?_
      refine lv_iload_n hx hb dX2_layCourse_31 rfl (lv_at hl 5 rfl) ?_
      refine b_ald hx hb hK hP 4 rfl (by omega) (by decide) dX2_layCourse_32 ?_
      refine lv_icmp_ge (tgt := 57) hx hb dX2_layCourse_33 (by decide) (fun c18 => ?_) (fun c18 => ?_)
      · have ld19 : (lcD kk dy (dd r) nu (lf r) k) = (lcD kk dy (dd r) nu (lf r) (k + 1)) := (by show _ = (if lf r ≤ nI k then (lcD kk dy (dd r) nu (lf r) k) else (lcD kk dy (dd r) nu (lf r) k) ||| tDo kk (dy + nI k) (lcD kk dy (dd r) nu (lf r) k) nu); rw [if_pos c18])
        rw [ld19] at hl
        have hl : lv_has ls 8 [(7, .int (nI (k))), (6, .int (lcD kk dy (dd r) nu (lf r) (k + 1))), (5, .ref (fa 3)), (0, .ref (fa 0)), (1, .ref (ta 0)), (2, .int (nI (r))), (4, .int nu)] := hl
        refine lv_aload_n hx hb dX2_layCourse_57 rfl (lv_at hl 3 rfl) ?_
        refine va_get (D := D) (ci := 2) (v := .ref (fa 6)) (C := RX2) (T := TX2) (N := 7) hx hb hts u_X2_layCourse_X2 hown hK.1 hP 5 rfl rfl 5 (by decide) (hts (.fieldLink RX2 42 "NoticeWeek$Foresight" "course" "[I") (List.mem_of_getElem? (i := 4) rfl)) (fun _ h9 => h9) rfl dX2_layCourse_58 ?_
        refine lv_iload hx hb dX2_layCourse_61 (lv_at hl 0 rfl) ?_
        refine lv_iload hx hb dX2_layCourse_63 (lv_at hl 1 rfl) ?_
        refine b_ast hx hb hK hP hD hS 11 rfl (by omega) (by decide) dX2_layCourse_65 (fun H locs hP hS => ?_)
        have hP : va_P D vwCl (wTown cI ta st dy ln rd kd dd nt lf ++ wFore cI fa (upd (lcC kk dy (dd r) nu (lf r) co k) k (lcD kk dy (dd r) nu (lf r) (k + 1))) wy) H := hP
        have hD : va_D A (wTown cI ta st dy ln rd kd dd nt lf ++ wFore cI fa (upd (lcC kk dy (dd r) nu (lf r) co k) k (lcD kk dy (dd r) nu (lf r) (k + 1))) wy) := hD.sameA [(ta 0), (ta 1), (ta 2), (ta 3), (ta 4), (fa 0), (fa 1), (fa 2), (fa 3), (fa 4), (fa 5), (fa 6), (fa 7)] rfl rfl
        refine lv_iinc (v := (nI (k + 1))) (lv' := [(7, .int (nI (k + 1))), (6, .int (lcD kk dy (dd r) nu (lf r) (k + 1))), (5, .ref (fa 3)), (0, .ref (fa 0)), (1, .ref (ta 0)), (2, .int (nI (r))), (4, .int nu)]) hx hb dX2_layCourse_66 hl (k := 0) rfl (nI_add _ _) (by decide) rfl (fun ls hl => ?_)
        refine lv_goto (tgt := 18) hx hb dX2_layCourse_69 (by decide) ?_
        exact ih16 (by omega) ls H locs ⟨lv_sub hl [0, 1, 2, 3, 4, 5, 6] rfl, hP, hS⟩
      · refine lv_iload hx hb dX2_layCourse_36 (lv_at hl 1 rfl) ?_
        refine lv_aload hx hb dX2_layCourse_38 (lv_at hl 2 rfl) ?_
        refine lv_aload_n hx hb dX2_layCourse_40 rfl (lv_at hl 4 rfl) ?_
        refine va_get (D := D) (ci := 7) (v := .int dy) (C := RX8) (T := TX8) (N := 8) hx hb hts u_X2_layCourse_X8 hown hK.1 hP 0 rfl rfl 1 (by decide) (hts (.fieldLink RX2 62 "NoticeWeek$Town" "day" "I") (List.mem_of_getElem? (i := 3) rfl)) (fun _ h9 => h9) rfl dX2_layCourse_41 ?_
        refine lv_iload hx hb dX2_layCourse_44 (lv_at hl 0 rfl) ?_
        refine lv_iadd hx hb dX2_layCourse_46 ?_
        refine lv_iload hx hb dX2_layCourse_47 (lv_at hl 1 rfl) ?_
        refine lv_iload hx hb dX2_layCourse_49 (lv_at hl 6 rfl) ?_
        refine b_call (va_runU (As := [.int (dy + (nI (k))), .int (lcD kk dy (dd r) nu (lf r) k), .int nu]) (rest := [.int (lcD kk dy (dd r) nu (lf r) k)]) ⟨hx, hb, hml, hown, hts⟩ (c_X5_deedsOn l D cI cZ cT (fa 3) (dy + (nI (k))) (lcD kk dy (dd r) nu (lf r) k) nu) (va_cwA 3 hts gX2_layCourse_X5_deedsOn_u72X5 rfl rfl rfl hK.2.2.1 (by decide +kernel) ⟨(Nat.le_of_ble_eq_true rfl), (Nat.le_of_ble_eq_true rfl)⟩) (b_pV hK hP [8] rfl 8 rfl rfl) rfl rfl hl.1 rfl (lv_room (Nat.le_of_ble_eq_true rfl)) dX2_layCourse_51 ⟨Nat.zero_le _, Nat.zero_le _⟩).run ?_
        refine lv_ior hx hb dX2_layCourse_54 ?_
        refine lv_topi (fun x20 ex20 => ?_)
        refine lv_istore (lv' := [(6, .int x20), (7, .int (nI (k))), (5, .ref (fa 3)), (0, .ref (fa 0)), (1, .ref (ta 0)), (2, .int (nI (r))), (4, .int nu)]) hx hb dX2_layCourse_55 hl (by decide) rfl (fun ls hl => ?_)
        have ld21 : x20 = (lcD kk dy (dd r) nu (lf r) (k + 1)) := (by subst ex20; show _ = (if lf r ≤ nI k then (lcD kk dy (dd r) nu (lf r) k) else (lcD kk dy (dd r) nu (lf r) k) ||| tDo kk (dy + nI k) (lcD kk dy (dd r) nu (lf r) k) nu); rw [if_neg c18]; generalize (lcD kk dy (dd r) nu (lf r) k) = z; rw [hk9, tDo_3])
        rw [ld21] at hl
        have hl : lv_has ls 8 [(6, .int (lcD kk dy (dd r) nu (lf r) (k + 1))), (7, .int (nI (k))), (5, .ref (fa 3)), (0, .ref (fa 0)), (1, .ref (ta 0)), (2, .int (nI (r))), (4, .int nu)] := hl
        refine lv_aload_n hx hb dX2_layCourse_57 rfl (lv_at hl 3 rfl) ?_
        refine va_get (D := D) (ci := 2) (v := .ref (fa 6)) (C := RX2) (T := TX2) (N := 7) hx hb hts u_X2_layCourse_X2 hown hK.1 hP 5 rfl rfl 5 (by decide) (hts (.fieldLink RX2 42 "NoticeWeek$Foresight" "course" "[I") (List.mem_of_getElem? (i := 4) rfl)) (fun _ h9 => h9) rfl dX2_layCourse_58 ?_
        refine lv_iload hx hb dX2_layCourse_61 (lv_at hl 1 rfl) ?_
        refine lv_iload hx hb dX2_layCourse_63 (lv_at hl 0 rfl) ?_
        refine b_ast hx hb hK hP hD hS 11 rfl (by omega) (by decide) dX2_layCourse_65 (fun H locs hP hS => ?_)
        have hP : va_P D vwCl (wTown cI ta st dy ln rd kd dd nt lf ++ wFore cI fa (upd (lcC kk dy (dd r) nu (lf r) co k) k (lcD kk dy (dd r) nu (lf r) (k + 1))) wy) H := hP
        have hD : va_D A (wTown cI ta st dy ln rd kd dd nt lf ++ wFore cI fa (upd (lcC kk dy (dd r) nu (lf r) co k) k (lcD kk dy (dd r) nu (lf r) (k + 1))) wy) := hD.sameA [(ta 0), (ta 1), (ta 2), (ta 3), (ta 4), (fa 0), (fa 1), (fa 2), (fa 3), (fa 4), (fa 5), (fa 6), (fa 7)] rfl rfl
        refine lv_iinc (v := (nI (k + 1))) (lv' := [(7, .int (nI (k + 1))), (6, .int (lcD kk dy (dd r) nu (lf r) (k + 1))), (5, .ref (fa 3)), (0, .ref (fa 0)), (1, .ref (ta 0)), (2, .int (nI (r))), (4, .int nu)]) hx hb dX2_layCourse_66 hl (k := 1) rfl (nI_add _ _) (by decide) rfl (fun ls hl => ?_)
        refine lv_goto (tgt := 18) hx hb dX2_layCourse_69 (by decide) ?_
        try subst ex20
        exact ih16 (by omega) ls H locs ⟨lv_sub hl [0, 1, 2, 3, 4, 5, 6] rfl, hP, hS⟩
  · refine lv_aload_n hx hb dX2_layCourse_0 rfl (lv_at hl 0 rfl) ?_
    refine lv_iload_n hx hb dX2_layCourse_1 rfl (lv_at hl 3 rfl) ?_
    refine lv_topi (fun vv ev => ?_)
    rw [hk9] at ev
    subst ev
    refine b_callA (va_runV (As := [.int 4]) (rest := []) ⟨hx, hb, hml, hown, hts⟩ (c_X2_temperOf_4 l D cI cZ cT fa co wy) (cwV 1 hts gX2_layCourse_X2_temperOf rfl rfl rfl (by decide +kernel) ⟨(Nat.le_of_ble_eq_true rfl), (Nat.le_of_ble_eq_true rfl)⟩) (b_pV hK hP [5, 6, 7, 8, 9, 10, 11, 12] rfl 5 rfl rfl) rfl rfl hl.1 rfl (lv_room (Nat.le_of_ble_eq_true rfl)) dX2_layCourse_2 ⟨Nat.zero_le _, Nat.zero_le _⟩).run ?_
    refine lv_astore (lv' := [(5, .ref (fa 4)), (0, .ref (fa 0)), (1, .ref (ta 0)), (2, .int (nI (r))), (3, .int kk), (4, .int nu)]) hx hb dX2_layCourse_5 hl (by decide) rfl (fun ls hl => ?_)
    refine lv_aload_n hx hb dX2_layCourse_7 rfl (lv_at hl 2 rfl) ?_
    refine va_get (D := D) (ci := 7) (v := .ref (ta 2)) (C := RX8) (T := TX8) (N := 8) hx hb hts u_X2_layCourse_X8 hown hK.1 hP 0 rfl rfl 5 (by decide) (hts (.fieldLink RX2 66 "NoticeWeek$Town" "did" "[I") (List.mem_of_getElem? (i := 1) rfl)) (fun _ h9 => h9) rfl dX2_layCourse_8 ?_
    refine lv_iload_n hx hb dX2_layCourse_11 rfl (lv_at hl 3 rfl) ?_
    refine b_ald hx hb hK hP 2 rfl (by omega) (by decide) dX2_layCourse_12 ?_
    refine lv_topi (fun x22 ex22 => ?_)
    refine lv_istore (lv' := [(6, .int x22), (5, .ref (fa 4)), (0, .ref (fa 0)), (1, .ref (ta 0)), (2, .int (nI (r))), (3, .int kk), (4, .int nu)]) hx hb dX2_layCourse_13 hl (by decide) rfl (fun ls hl => ?_)
    subst ex22
    have hl : lv_has ls 8 [(6, .int (lcD kk dy (dd r) nu (lf r) 0)), (5, .ref (fa 4)), (0, .ref (fa 0)), (1, .ref (ta 0)), (2, .int (nI (r))), (3, .int kk), (4, .int nu)] := hl
    refine lv_iconst (v := (nI 0)) hx hb dX2_layCourse_15 (by decide) ?_
    refine lv_istore (lv' := [(7, .int (nI 0)), (6, .int (lcD kk dy (dd r) nu (lf r) 0)), (5, .ref (fa 4)), (0, .ref (fa 0)), (1, .ref (ta 0)), (2, .int (nI (r))), (3, .int kk), (4, .int nu)]) hx hb dX2_layCourse_16 hl (by decide) rfl (fun ls hl => ?_)
    refine b_loopM (N := 16) (I := fun k ls H locs => lv_has ls 8 [(7, .int (nI (k))), (6, .int (lcD kk dy (dd r) nu (lf r) k)), (5, .ref (fa 4)), (0, .ref (fa 0)), (1, .ref (ta 0)), (2, .int (nI (r))), (4, .int nu)] ∧ va_P D vwCl (wTown cI ta st dy ln rd kd dd nt lf ++ wFore cI fa (lcC kk dy (dd r) nu (lf r) co k) wy) H ∧ va_S A s.heap H locs) (fun k hk ih23 ls H locs hI => ?_) 0 (by omega) ⟨lv_sub hl [0, 1, 2, 3, 4, 5, 7] rfl, hP, hS⟩
    obtain ⟨hl, hP, hS⟩ := hI
    have hl : lv_has ls 8 [(7, .int (nI (k))), (6, .int (lcD kk dy (dd r) nu (lf r) k)), (5, .ref (fa 4)), (0, .ref (fa 0)), (1, .ref (ta 0)), (2, .int (nI (r))), (4, .int nu)] := hl
    have hP : va_P D vwCl (wTown cI ta st dy ln rd kd dd nt lf ++ wFore cI fa (lcC kk dy (dd r) nu (lf r) co k) wy) H := hP
    have hD : va_D A (wTown cI ta st dy ln rd kd dd nt lf ++ wFore cI fa (lcC kk dy (dd r) nu (lf r) co k) wy) := hD.sameA [(ta 0), (ta 1), (ta 2), (ta 3), (ta 4), (fa 0), (fa 1), (fa 2), (fa 3), (fa 4), (fa 5), (fa 6), (fa 7)] rfl rfl
    refine lv_iload hx hb dX2_layCourse_18 (lv_at hl 0 rfl) ?_
    refine lv_bipush (v := (nI 16)) hx hb dX2_layCourse_20 (by decide) ?_
    refine b_ge (tgt := 72) hx hb (by omega) (by omega) dX2_layCourse_22 (by decide) (fun c24 => ?_) (fun c24 => ?_)
    · have h_k : 16 = k := by omega
      subst h_k
      exact b_vretM hx hb hr hP hS dX2_layCourse_72 hlocks
    · refine lv_iload hx hb dX2_layCourse_25 (lv_at hl 0 rfl) ?_
      refine lv_aload_n hx hb dX2_layCourse_27 rfl (lv_at hl 4 rfl) ?_
      refine va_get (D := D) (ci := 7) (v := .ref (ta 4)) (C := RX8) (T := TX8) (N := 8) hx hb hts u_X2_layCourse_X8 hown hK.1 hP 0 rfl rfl 7 (by decide) (hts (.fieldLink RX2 78 "NoticeWeek$Town" "left" "[I") (List.mem_of_getElem? (i := 2) rfl)) (fun _ h9 => h9) rfl dX2_layCourse_28 ?_
      refine lv_iload_n hx hb dX2_layCourse_31 rfl (lv_at hl 5 rfl) ?_
      refine b_ald hx hb hK hP 4 rfl (by omega) (by decide) dX2_layCourse_32 ?_
      refine lv_icmp_ge (tgt := 57) hx hb dX2_layCourse_33 (by decide) (fun c25 => ?_) (fun c25 => ?_)
      · have ld26 : (lcD kk dy (dd r) nu (lf r) k) = (lcD kk dy (dd r) nu (lf r) (k + 1)) := (by show _ = (if lf r ≤ nI k then (lcD kk dy (dd r) nu (lf r) k) else (lcD kk dy (dd r) nu (lf r) k) ||| tDo kk (dy + nI k) (lcD kk dy (dd r) nu (lf r) k) nu); rw [if_pos c25])
        rw [ld26] at hl
        have hl : lv_has ls 8 [(7, .int (nI (k))), (6, .int (lcD kk dy (dd r) nu (lf r) (k + 1))), (5, .ref (fa 4)), (0, .ref (fa 0)), (1, .ref (ta 0)), (2, .int (nI (r))), (4, .int nu)] := hl
        refine lv_aload_n hx hb dX2_layCourse_57 rfl (lv_at hl 3 rfl) ?_
        refine va_get (D := D) (ci := 2) (v := .ref (fa 6)) (C := RX2) (T := TX2) (N := 7) hx hb hts u_X2_layCourse_X2 hown hK.1 hP 5 rfl rfl 5 (by decide) (hts (.fieldLink RX2 42 "NoticeWeek$Foresight" "course" "[I") (List.mem_of_getElem? (i := 4) rfl)) (fun _ h9 => h9) rfl dX2_layCourse_58 ?_
        refine lv_iload hx hb dX2_layCourse_61 (lv_at hl 0 rfl) ?_
        refine lv_iload hx hb dX2_layCourse_63 (lv_at hl 1 rfl) ?_
        refine b_ast hx hb hK hP hD hS 11 rfl (by omega) (by decide) dX2_layCourse_65 (fun H locs hP hS => ?_)
        have hP : va_P D vwCl (wTown cI ta st dy ln rd kd dd nt lf ++ wFore cI fa (upd (lcC kk dy (dd r) nu (lf r) co k) k (lcD kk dy (dd r) nu (lf r) (k + 1))) wy) H := hP
        have hD : va_D A (wTown cI ta st dy ln rd kd dd nt lf ++ wFore cI fa (upd (lcC kk dy (dd r) nu (lf r) co k) k (lcD kk dy (dd r) nu (lf r) (k + 1))) wy) := hD.sameA [(ta 0), (ta 1), (ta 2), (ta 3), (ta 4), (fa 0), (fa 1), (fa 2), (fa 3), (fa 4), (fa 5), (fa 6), (fa 7)] rfl rfl
        refine lv_iinc (v := (nI (k + 1))) (lv' := [(7, .int (nI (k + 1))), (6, .int (lcD kk dy (dd r) nu (lf r) (k + 1))), (5, .ref (fa 4)), (0, .ref (fa 0)), (1, .ref (ta 0)), (2, .int (nI (r))), (4, .int nu)]) hx hb dX2_layCourse_66 hl (k := 0) rfl (nI_add _ _) (by decide) rfl (fun ls hl => ?_)
        refine lv_goto (tgt := 18) hx hb dX2_layCourse_69 (by decide) ?_
        exact ih23 (by omega) ls H locs ⟨lv_sub hl [0, 1, 2, 3, 4, 5, 6] rfl, hP, hS⟩
      · refine lv_iload hx hb dX2_layCourse_36 (lv_at hl 1 rfl) ?_
        refine lv_aload hx hb dX2_layCourse_38 (lv_at hl 2 rfl) ?_
        refine lv_aload_n hx hb dX2_layCourse_40 rfl (lv_at hl 4 rfl) ?_
        refine va_get (D := D) (ci := 7) (v := .int dy) (C := RX8) (T := TX8) (N := 8) hx hb hts u_X2_layCourse_X8 hown hK.1 hP 0 rfl rfl 1 (by decide) (hts (.fieldLink RX2 62 "NoticeWeek$Town" "day" "I") (List.mem_of_getElem? (i := 3) rfl)) (fun _ h9 => h9) rfl dX2_layCourse_41 ?_
        refine lv_iload hx hb dX2_layCourse_44 (lv_at hl 0 rfl) ?_
        refine lv_iadd hx hb dX2_layCourse_46 ?_
        refine lv_iload hx hb dX2_layCourse_47 (lv_at hl 1 rfl) ?_
        refine lv_iload hx hb dX2_layCourse_49 (lv_at hl 6 rfl) ?_
        refine b_call (va_runU (As := [.int (dy + (nI (k))), .int (lcD kk dy (dd r) nu (lf r) k), .int nu]) (rest := [.int (lcD kk dy (dd r) nu (lf r) k)]) ⟨hx, hb, hml, hown, hts⟩ (c_X1_deedsOn l D cI cZ cT (fa 4) (dy + (nI (k))) (lcD kk dy (dd r) nu (lf r) k) nu) (va_cwA 3 hts gX2_layCourse_X1_deedsOn_u72X1 rfl rfl rfl hK.2.2.1 (by decide +kernel) ⟨(Nat.le_of_ble_eq_true rfl), (Nat.le_of_ble_eq_true rfl)⟩) (b_pV hK hP [] rfl 9 rfl rfl) rfl rfl hl.1 rfl (lv_room (Nat.le_of_ble_eq_true rfl)) dX2_layCourse_51 ⟨Nat.zero_le _, Nat.zero_le _⟩).run ?_
        refine lv_ior hx hb dX2_layCourse_54 ?_
        refine lv_topi (fun x27 ex27 => ?_)
        refine lv_istore (lv' := [(6, .int x27), (7, .int (nI (k))), (5, .ref (fa 4)), (0, .ref (fa 0)), (1, .ref (ta 0)), (2, .int (nI (r))), (4, .int nu)]) hx hb dX2_layCourse_55 hl (by decide) rfl (fun ls hl => ?_)
        have ld28 : x27 = (lcD kk dy (dd r) nu (lf r) (k + 1)) := (by subst ex27; show _ = (if lf r ≤ nI k then (lcD kk dy (dd r) nu (lf r) k) else (lcD kk dy (dd r) nu (lf r) k) ||| tDo kk (dy + nI k) (lcD kk dy (dd r) nu (lf r) k) nu); rw [if_neg c25]; generalize (lcD kk dy (dd r) nu (lf r) k) = z; rw [hk9, tDo_4])
        rw [ld28] at hl
        have hl : lv_has ls 8 [(6, .int (lcD kk dy (dd r) nu (lf r) (k + 1))), (7, .int (nI (k))), (5, .ref (fa 4)), (0, .ref (fa 0)), (1, .ref (ta 0)), (2, .int (nI (r))), (4, .int nu)] := hl
        refine lv_aload_n hx hb dX2_layCourse_57 rfl (lv_at hl 3 rfl) ?_
        refine va_get (D := D) (ci := 2) (v := .ref (fa 6)) (C := RX2) (T := TX2) (N := 7) hx hb hts u_X2_layCourse_X2 hown hK.1 hP 5 rfl rfl 5 (by decide) (hts (.fieldLink RX2 42 "NoticeWeek$Foresight" "course" "[I") (List.mem_of_getElem? (i := 4) rfl)) (fun _ h9 => h9) rfl dX2_layCourse_58 ?_
        refine lv_iload hx hb dX2_layCourse_61 (lv_at hl 1 rfl) ?_
        refine lv_iload hx hb dX2_layCourse_63 (lv_at hl 0 rfl) ?_
        refine b_ast hx hb hK hP hD hS 11 rfl (by omega) (by decide) dX2_layCourse_65 (fun H locs hP hS => ?_)
        have hP : va_P D vwCl (wTown cI ta st dy ln rd kd dd nt lf ++ wFore cI fa (upd (lcC kk dy (dd r) nu (lf r) co k) k (lcD kk dy (dd r) nu (lf r) (k + 1))) wy) H := hP
        have hD : va_D A (wTown cI ta st dy ln rd kd dd nt lf ++ wFore cI fa (upd (lcC kk dy (dd r) nu (lf r) co k) k (lcD kk dy (dd r) nu (lf r) (k + 1))) wy) := hD.sameA [(ta 0), (ta 1), (ta 2), (ta 3), (ta 4), (fa 0), (fa 1), (fa 2), (fa 3), (fa 4), (fa 5), (fa 6), (fa 7)] rfl rfl
        refine lv_iinc (v := (nI (k + 1))) (lv' := [(7, .int (nI (k + 1))), (6, .int (lcD kk dy (dd r) nu (lf r) (k + 1))), (5, .ref (fa 4)), (0, .ref (fa 0)), (1, .ref (ta 0)), (2, .int (nI (r))), (4, .int nu)]) hx hb dX2_layCourse_66 hl (k := 1) rfl (nI_add _ _) (by decide) rfl (fun ls hl => ?_)
        refine lv_goto (tgt := 18) hx hb dX2_layCourse_69 (by decide) ?_
        try subst ex27
        exact ih23 (by omega) ls H locs ⟨lv_sub hl [0, 1, 2, 3, 4, 5, 6] rfl, hP, hS⟩
  · refine lv_aload_n hx hb dX2_layCourse_0 rfl (lv_at hl 0 rfl) ?_
    refine lv_iload_n hx hb dX2_layCourse_1 rfl (lv_at hl 3 rfl) ?_
    refine lv_topi (fun vv ev => ?_)
    rw [hk9] at ev
    subst ev
    refine b_callA (va_runV (As := [.int 5]) (rest := []) ⟨hx, hb, hml, hown, hts⟩ (c_X2_temperOf_5 l D cI cZ cT fa co wy) (cwV 1 hts gX2_layCourse_X2_temperOf rfl rfl rfl (by decide +kernel) ⟨(Nat.le_of_ble_eq_true rfl), (Nat.le_of_ble_eq_true rfl)⟩) (b_pV hK hP [5, 6, 7, 8, 9, 10, 11, 12] rfl 5 rfl rfl) rfl rfl hl.1 rfl (lv_room (Nat.le_of_ble_eq_true rfl)) dX2_layCourse_2 ⟨Nat.zero_le _, Nat.zero_le _⟩).run ?_
    refine lv_astore (lv' := [(5, .ref (fa 5)), (0, .ref (fa 0)), (1, .ref (ta 0)), (2, .int (nI (r))), (3, .int kk), (4, .int nu)]) hx hb dX2_layCourse_5 hl (by decide) rfl (fun ls hl => ?_)
    refine lv_aload_n hx hb dX2_layCourse_7 rfl (lv_at hl 2 rfl) ?_
    refine va_get (D := D) (ci := 7) (v := .ref (ta 2)) (C := RX8) (T := TX8) (N := 8) hx hb hts u_X2_layCourse_X8 hown hK.1 hP 0 rfl rfl 5 (by decide) (hts (.fieldLink RX2 66 "NoticeWeek$Town" "did" "[I") (List.mem_of_getElem? (i := 1) rfl)) (fun _ h9 => h9) rfl dX2_layCourse_8 ?_
    refine lv_iload_n hx hb dX2_layCourse_11 rfl (lv_at hl 3 rfl) ?_
    refine b_ald hx hb hK hP 2 rfl (by omega) (by decide) dX2_layCourse_12 ?_
    refine lv_topi (fun x29 ex29 => ?_)
    refine lv_istore (lv' := [(6, .int x29), (5, .ref (fa 5)), (0, .ref (fa 0)), (1, .ref (ta 0)), (2, .int (nI (r))), (3, .int kk), (4, .int nu)]) hx hb dX2_layCourse_13 hl (by decide) rfl (fun ls hl => ?_)
    subst ex29
    have hl : lv_has ls 8 [(6, .int (lcD kk dy (dd r) nu (lf r) 0)), (5, .ref (fa 5)), (0, .ref (fa 0)), (1, .ref (ta 0)), (2, .int (nI (r))), (3, .int kk), (4, .int nu)] := hl
    refine lv_iconst (v := (nI 0)) hx hb dX2_layCourse_15 (by decide) ?_
    refine lv_istore (lv' := [(7, .int (nI 0)), (6, .int (lcD kk dy (dd r) nu (lf r) 0)), (5, .ref (fa 5)), (0, .ref (fa 0)), (1, .ref (ta 0)), (2, .int (nI (r))), (3, .int kk), (4, .int nu)]) hx hb dX2_layCourse_16 hl (by decide) rfl (fun ls hl => ?_)
    refine b_loopM (N := 16) (I := fun k ls H locs => lv_has ls 8 [(7, .int (nI (k))), (6, .int (lcD kk dy (dd r) nu (lf r) k)), (5, .ref (fa 5)), (0, .ref (fa 0)), (1, .ref (ta 0)), (2, .int (nI (r))), (4, .int nu)] ∧ va_P D vwCl (wTown cI ta st dy ln rd kd dd nt lf ++ wFore cI fa (lcC kk dy (dd r) nu (lf r) co k) wy) H ∧ va_S A s.heap H locs) (fun k hk ih30 ls H locs hI => ?_) 0 (by omega) ⟨lv_sub hl [0, 1, 2, 3, 4, 5, 7] rfl, hP, hS⟩
    obtain ⟨hl, hP, hS⟩ := hI
    have hl : lv_has ls 8 [(7, .int (nI (k))), (6, .int (lcD kk dy (dd r) nu (lf r) k)), (5, .ref (fa 5)), (0, .ref (fa 0)), (1, .ref (ta 0)), (2, .int (nI (r))), (4, .int nu)] := hl
    have hP : va_P D vwCl (wTown cI ta st dy ln rd kd dd nt lf ++ wFore cI fa (lcC kk dy (dd r) nu (lf r) co k) wy) H := hP
    have hD : va_D A (wTown cI ta st dy ln rd kd dd nt lf ++ wFore cI fa (lcC kk dy (dd r) nu (lf r) co k) wy) := hD.sameA [(ta 0), (ta 1), (ta 2), (ta 3), (ta 4), (fa 0), (fa 1), (fa 2), (fa 3), (fa 4), (fa 5), (fa 6), (fa 7)] rfl rfl
    refine lv_iload hx hb dX2_layCourse_18 (lv_at hl 0 rfl) ?_
    refine lv_bipush (v := (nI 16)) hx hb dX2_layCourse_20 (by decide) ?_
    refine b_ge (tgt := 72) hx hb (by omega) (by omega) dX2_layCourse_22 (by decide) (fun c31 => ?_) (fun c31 => ?_)
    · have h_k : 16 = k := by omega
      subst h_k
      exact b_vretM hx hb hr hP hS dX2_layCourse_72 hlocks
    · refine lv_iload hx hb dX2_layCourse_25 (lv_at hl 0 rfl) ?_
      refine lv_aload_n hx hb dX2_layCourse_27 rfl (lv_at hl 4 rfl) ?_
      refine va_get (D := D) (ci := 7) (v := .ref (ta 4)) (C := RX8) (T := TX8) (N := 8) hx hb hts u_X2_layCourse_X8 hown hK.1 hP 0 rfl rfl 7 (by decide) (hts (.fieldLink RX2 78 "NoticeWeek$Town" "left" "[I") (List.mem_of_getElem? (i := 2) rfl)) (fun _ h9 => h9) rfl dX2_layCourse_28 ?_
      refine lv_iload_n hx hb dX2_layCourse_31 rfl (lv_at hl 5 rfl) ?_
      refine b_ald hx hb hK hP 4 rfl (by omega) (by decide) dX2_layCourse_32 ?_
      refine lv_icmp_ge (tgt := 57) hx hb dX2_layCourse_33 (by decide) (fun c32 => ?_) (fun c32 => ?_)
      · have ld33 : (lcD kk dy (dd r) nu (lf r) k) = (lcD kk dy (dd r) nu (lf r) (k + 1)) := (by show _ = (if lf r ≤ nI k then (lcD kk dy (dd r) nu (lf r) k) else (lcD kk dy (dd r) nu (lf r) k) ||| tDo kk (dy + nI k) (lcD kk dy (dd r) nu (lf r) k) nu); rw [if_pos c32])
        rw [ld33] at hl
        have hl : lv_has ls 8 [(7, .int (nI (k))), (6, .int (lcD kk dy (dd r) nu (lf r) (k + 1))), (5, .ref (fa 5)), (0, .ref (fa 0)), (1, .ref (ta 0)), (2, .int (nI (r))), (4, .int nu)] := hl
        refine lv_aload_n hx hb dX2_layCourse_57 rfl (lv_at hl 3 rfl) ?_
        refine va_get (D := D) (ci := 2) (v := .ref (fa 6)) (C := RX2) (T := TX2) (N := 7) hx hb hts u_X2_layCourse_X2 hown hK.1 hP 5 rfl rfl 5 (by decide) (hts (.fieldLink RX2 42 "NoticeWeek$Foresight" "course" "[I") (List.mem_of_getElem? (i := 4) rfl)) (fun _ h9 => h9) rfl dX2_layCourse_58 ?_
        refine lv_iload hx hb dX2_layCourse_61 (lv_at hl 0 rfl) ?_
        refine lv_iload hx hb dX2_layCourse_63 (lv_at hl 1 rfl) ?_
        refine b_ast hx hb hK hP hD hS 11 rfl (by omega) (by decide) dX2_layCourse_65 (fun H locs hP hS => ?_)
        have hP : va_P D vwCl (wTown cI ta st dy ln rd kd dd nt lf ++ wFore cI fa (upd (lcC kk dy (dd r) nu (lf r) co k) k (lcD kk dy (dd r) nu (lf r) (k + 1))) wy) H := hP
        have hD : va_D A (wTown cI ta st dy ln rd kd dd nt lf ++ wFore cI fa (upd (lcC kk dy (dd r) nu (lf r) co k) k (lcD kk dy (dd r) nu (lf r) (k + 1))) wy) := hD.sameA [(ta 0), (ta 1), (ta 2), (ta 3), (ta 4), (fa 0), (fa 1), (fa 2), (fa 3), (fa 4), (fa 5), (fa 6), (fa 7)] rfl rfl
        refine lv_iinc (v := (nI (k + 1))) (lv' := [(7, .int (nI (k + 1))), (6, .int (lcD kk dy (dd r) nu (lf r) (k + 1))), (5, .ref (fa 5)), (0, .ref (fa 0)), (1, .ref (ta 0)), (2, .int (nI (r))), (4, .int nu)]) hx hb dX2_layCourse_66 hl (k := 0) rfl (nI_add _ _) (by decide) rfl (fun ls hl => ?_)
        refine lv_goto (tgt := 18) hx hb dX2_layCourse_69 (by decide) ?_
        exact ih30 (by omega) ls H locs ⟨lv_sub hl [0, 1, 2, 3, 4, 5, 6] rfl, hP, hS⟩
      · refine lv_iload hx hb dX2_layCourse_36 (lv_at hl 1 rfl) ?_
        refine lv_aload hx hb dX2_layCourse_38 (lv_at hl 2 rfl) ?_
        refine lv_aload_n hx hb dX2_layCourse_40 rfl (lv_at hl 4 rfl) ?_
        refine va_get (D := D) (ci := 7) (v := .int dy) (C := RX8) (T := TX8) (N := 8) hx hb hts u_X2_layCourse_X8 hown hK.1 hP 0 rfl rfl 1 (by decide) (hts (.fieldLink RX2 62 "NoticeWeek$Town" "day" "I") (List.mem_of_getElem? (i := 3) rfl)) (fun _ h9 => h9) rfl dX2_layCourse_41 ?_
        refine lv_iload hx hb dX2_layCourse_44 (lv_at hl 0 rfl) ?_
        refine lv_iadd hx hb dX2_layCourse_46 ?_
        refine lv_iload hx hb dX2_layCourse_47 (lv_at hl 1 rfl) ?_
        refine lv_iload hx hb dX2_layCourse_49 (lv_at hl 6 rfl) ?_
        refine b_call (va_runU (As := [.int (dy + (nI (k))), .int (lcD kk dy (dd r) nu (lf r) k), .int nu]) (rest := [.int (lcD kk dy (dd r) nu (lf r) k)]) ⟨hx, hb, hml, hown, hts⟩ (c_X0_deedsOn l D cI cZ cT (fa 5) (dy + (nI (k))) (lcD kk dy (dd r) nu (lf r) k) nu) (va_cwA 3 hts gX2_layCourse_X0_deedsOn_u72X0 rfl rfl rfl hK.2.2.1 (by decide +kernel) ⟨(Nat.le_of_ble_eq_true rfl), (Nat.le_of_ble_eq_true rfl)⟩) (b_pV hK hP [10] rfl 10 rfl rfl) rfl rfl hl.1 rfl (lv_room (Nat.le_of_ble_eq_true rfl)) dX2_layCourse_51 ⟨Nat.zero_le _, Nat.zero_le _⟩).run ?_
        refine lv_ior hx hb dX2_layCourse_54 ?_
        refine lv_topi (fun x34 ex34 => ?_)
        refine lv_istore (lv' := [(6, .int x34), (7, .int (nI (k))), (5, .ref (fa 5)), (0, .ref (fa 0)), (1, .ref (ta 0)), (2, .int (nI (r))), (4, .int nu)]) hx hb dX2_layCourse_55 hl (by decide) rfl (fun ls hl => ?_)
        have ld35 : x34 = (lcD kk dy (dd r) nu (lf r) (k + 1)) := (by subst ex34; show _ = (if lf r ≤ nI k then (lcD kk dy (dd r) nu (lf r) k) else (lcD kk dy (dd r) nu (lf r) k) ||| tDo kk (dy + nI k) (lcD kk dy (dd r) nu (lf r) k) nu); rw [if_neg c32]; generalize (lcD kk dy (dd r) nu (lf r) k) = z; rw [hk9, tDo_5])
        rw [ld35] at hl
        have hl : lv_has ls 8 [(6, .int (lcD kk dy (dd r) nu (lf r) (k + 1))), (7, .int (nI (k))), (5, .ref (fa 5)), (0, .ref (fa 0)), (1, .ref (ta 0)), (2, .int (nI (r))), (4, .int nu)] := hl
        refine lv_aload_n hx hb dX2_layCourse_57 rfl (lv_at hl 3 rfl) ?_
        refine va_get (D := D) (ci := 2) (v := .ref (fa 6)) (C := RX2) (T := TX2) (N := 7) hx hb hts u_X2_layCourse_X2 hown hK.1 hP 5 rfl rfl 5 (by decide) (hts (.fieldLink RX2 42 "NoticeWeek$Foresight" "course" "[I") (List.mem_of_getElem? (i := 4) rfl)) (fun _ h9 => h9) rfl dX2_layCourse_58 ?_
        refine lv_iload hx hb dX2_layCourse_61 (lv_at hl 1 rfl) ?_
        refine lv_iload hx hb dX2_layCourse_63 (lv_at hl 0 rfl) ?_
        refine b_ast hx hb hK hP hD hS 11 rfl (by omega) (by decide) dX2_layCourse_65 (fun H locs hP hS => ?_)
        have hP : va_P D vwCl (wTown cI ta st dy ln rd kd dd nt lf ++ wFore cI fa (upd (lcC kk dy (dd r) nu (lf r) co k) k (lcD kk dy (dd r) nu (lf r) (k + 1))) wy) H := hP
        have hD : va_D A (wTown cI ta st dy ln rd kd dd nt lf ++ wFore cI fa (upd (lcC kk dy (dd r) nu (lf r) co k) k (lcD kk dy (dd r) nu (lf r) (k + 1))) wy) := hD.sameA [(ta 0), (ta 1), (ta 2), (ta 3), (ta 4), (fa 0), (fa 1), (fa 2), (fa 3), (fa 4), (fa 5), (fa 6), (fa 7)] rfl rfl
        refine lv_iinc (v := (nI (k + 1))) (lv' := [(7, .int (nI (k + 1))), (6, .int (lcD kk dy (dd r) nu (lf r) (k + 1))), (5, .ref (fa 5)), (0, .ref (fa 0)), (1, .ref (ta 0)), (2, .int (nI (r))), (4, .int nu)]) hx hb dX2_layCourse_66 hl (k := 1) rfl (nI_add _ _) (by decide) rfl (fun ls hl => ?_)
        refine lv_goto (tgt := 18) hx hb dX2_layCourse_69 (by decide) ?_
        try subst ex34
        exact ih30 (by omega) ls H locs ⟨lv_sub hl [0, 1, 2, 3, 4, 5, 6] rfl, hP, hS⟩
