/-! CLASS: the tape, second -/
theorem lk_ne {x a : Int32} {k : Int} (hk : a.toInt = k) (h : ¬ x = a) : ¬ k = x.toInt := fun g => h (i_toInt.mpr (g.symm.trans hk.symm))
theorem lk_out {x : Int32} (c1 : ¬ x = 99) (c2 : ¬ x = 107) (c3 : ¬ x = 112) (c4 : ¬ x = 115) (c5 : ¬ x = 118) : Op.lookupswitch.offset [(99, 57), (107, 59), (112, 51), (115, 55), (118, 53)] 61 x.toInt = 61 := by
  rw [Op.lookupswitch.offset_cons, if_neg (lk_ne (by decide) c1), Op.lookupswitch.offset_cons, if_neg (lk_ne (by decide) c2), Op.lookupswitch.offset_cons, if_neg (lk_ne (by decide) c3), Op.lookupswitch.offset_cons, if_neg (lk_ne (by decide) c4), Op.lookupswitch.offset_cons, if_neg (lk_ne (by decide) c5)]; rfl
def kSF (x : Int32) : Int32 := if x = 99 then 4 else if x = 107 then 5 else if x = 112 then 1 else if x = 115 then 3 else if x = 118 then 2 else 0
def nfF (bt : Nat → Int32) (t a : Nat) : Nat → Nat
  | 0 => 0
  | k + 1 => if nfF bt t a k = k ∧ a + k < t ∧ ¬ bt (a + k) < 48 ∧ ¬ 57 < bt (a + k) then k + 1 else nfF bt t a k
theorem nfF_go {bt : Nat → Int32} {t a k : Nat} (h : nfF bt t a k = k) (h1 : a + k < t) (h2 : ¬ bt (a + k) < 48 ∧ ¬ 57 < bt (a + k)) : nfF bt t a (k + 1) = k + 1 := if_pos ⟨h, h1, h2⟩
theorem nfF_le (bt : Nat → Int32) (t a k : Nat) : nfF bt t a k ≤ k := by
  induction k with
  | zero => exact Nat.le_refl _
  | succ k ih => unfold nfF; split <;> omega
theorem nfF_stop {bt : Nat → Int32} {t a k : Nat} (h : nfF bt t a k = k) (h1 : ¬ (a + k < t ∧ ¬ bt (a + k) < 48 ∧ ¬ 57 < bt (a + k))) (j : Nat) : nfF bt t a (k + j) = k := by
  induction j with
  | zero => exact h
  | succ j ih =>
    show (if nfF bt t a (k + j) = k + j ∧ a + (k + j) < t ∧ ¬ bt (a + (k + j)) < 48 ∧ ¬ 57 < bt (a + (k + j)) then k + j + 1 else nfF bt t a (k + j)) = k
    rw [if_neg, ih]
    rintro ⟨z1, z2⟩
    rw [ih] at z1
    have : j = 0 := by omega
    subst this
    exact h1 z2
def nvF (bt : Nat → Int32) (a k : Nat) : Int32 := itr (fun j x => x * 10 + bt (a + j) - 48) k 0
def tNm (bt : Nat → Int32) (t : Nat) (mo : Int32) (z : Nat × Int32) : Int32 × Nat × Int32 := if z.2 = 0 then (if nfF bt t z.1 3 = 0 ∨ nfF bt t z.1 3 = 3 then (0, z.1, 1) else if ¬ nvF bt z.1 (nfF bt t z.1 3) ≤ mo then (0, z.1, 2) else (nvF bt z.1 (nfF bt t z.1 3), z.1 + nfF bt t z.1 3, z.2)) else (0, z.1, z.2)
set_option maxHeartbeats 4000000 in
set_option maxRecDepth 100000 in
theorem c_X6_kindOfSort (l : Launch) (D : va_G) (cI cZ cT : ClassId) (x : Int32)  : Met l yX6_kindOfSort wsX6_kindOfSort ({ frames := 0, cells := 0, slots := 0, locals := 0 }) (pR D cI cZ cT [.int x] ([])) (QcRead (kSF x)) 0 0 (fun _ => False) := by
  refine Met.ofW (cc := cX6_kindOfSort) (maxL := 1) (ret := (some .int)) (by decide) rfl ?_
  intro p e s m args below meth c s₁ B hml hv
  obtain ⟨rfl, hP, hK⟩ := hv
  have hx := B.exec
  have hb := B.bytes
  have hr := B.returns
  have hts := atoms_spec (ws := wsX6_kindOfSort) B.pre
  have hown : s.vm.findClass RX6 = some m.cls := findClass_of_methodNamed B.named
  have hlocks := B.notSynchronized
  have hl := lv_entry ([.int x]) (n := 1) (Nat.le_of_ble_eq_true rfl)
  rw [lg_entry_eq]
  generalize (lg_sl ([.int x]) ++ List.replicate (1 - (lg_sl ([.int x])).length) Slot.unset).toArray = ls at hl ⊢
  have hl : lv_has ls 1 [(0, .int x)] := hl
  refine lv_iload_n hx hb dX6_kindOfSort_0 rfl (lv_at hl 0 rfl) ?_
  by_cases c1 : x = 99
  · refine lv_lookup (tgt := 58) hx hb dX6_kindOfSort_1 (by decide) (off := 57) (by rw [c1]; decide) (by decide) ?_
    refine lv_iconst (v := 4) hx hb dX6_kindOfSort_58 (by decide) ?_
    exact b_ret hx hb hr (by unfold kSF; rw [if_pos c1]) dX6_kindOfSort_59 hlocks
  by_cases c2 : x = 107
  · refine lv_lookup (tgt := 60) hx hb dX6_kindOfSort_1 (by decide) (off := 59) (by rw [c2]; decide) (by decide) ?_
    refine lv_iconst (v := 5) hx hb dX6_kindOfSort_60 (by decide) ?_
    exact b_ret hx hb hr (by unfold kSF; rw [if_neg c1, if_pos c2]) dX6_kindOfSort_61 hlocks
  by_cases c3 : x = 112
  · refine lv_lookup (tgt := 52) hx hb dX6_kindOfSort_1 (by decide) (off := 51) (by rw [c3]; decide) (by decide) ?_
    refine lv_iconst (v := 1) hx hb dX6_kindOfSort_52 (by decide) ?_
    exact b_ret hx hb hr (by unfold kSF; rw [if_neg c1, if_neg c2, if_pos c3]) dX6_kindOfSort_53 hlocks
  by_cases c4 : x = 115
  · refine lv_lookup (tgt := 56) hx hb dX6_kindOfSort_1 (by decide) (off := 55) (by rw [c4]; decide) (by decide) ?_
    refine lv_iconst (v := 3) hx hb dX6_kindOfSort_56 (by decide) ?_
    exact b_ret hx hb hr (by unfold kSF; rw [if_neg c1, if_neg c2, if_neg c3, if_pos c4]) dX6_kindOfSort_57 hlocks
  by_cases c5 : x = 118
  · refine lv_lookup (tgt := 54) hx hb dX6_kindOfSort_1 (by decide) (off := 53) (by rw [c5]; decide) (by decide) ?_
    refine lv_iconst (v := 2) hx hb dX6_kindOfSort_54 (by decide) ?_
    exact b_ret hx hb hr (by unfold kSF; rw [if_neg c1, if_neg c2, if_neg c3, if_neg c4, if_pos c5]) dX6_kindOfSort_55 hlocks
  refine lv_lookup (tgt := 62) hx hb dX6_kindOfSort_1 (by decide) (off := 61) (lk_out c1 c2 c3 c4 c5) (by decide) ?_
  refine lv_iconst (v := 0) hx hb dX6_kindOfSort_62 (by decide) ?_
  exact b_ret hx hb hr (by unfold kSF; rw [if_neg c1, if_neg c2, if_neg c3, if_neg c4, if_neg c5]) dX6_kindOfSort_63 hlocks
theorem u_X6_takeNumber_X6 : ∀ w ∈ wsX60, w ∈ wsX6_takeNumber := fun _ h => List.mem_cons_of_mem _ (List.mem_append_right _ h)
set_option maxHeartbeats 4000000 in
set_option maxRecDepth 100000 in
theorem c_X6_takeNumber (l : Launch) (D : va_G) (cI cZ cT : ClassId) (pa : Nat → Nat) (t : Nat) (tf : Int32) (bt : Nat → Int32) (σ : Nat × Int32) (mo : Int32) (ht : t ≤ 120) (ha : σ.1 ≤ t) : Met l yX6_takeNumber wsX6_takeNumber ({ frames := 1, cells := 0, slots := 0, locals := 20 }) (pM D cI cZ cT [.ref (pa 0), .int mo] (wTape cI pa (nI t) tf (nI σ.1) σ.2 bt)) (qM D (some (.int ((tNm bt t mo σ).1))) (wTape cI pa (nI t) tf (nI (tNm bt t mo σ).2.1) ((tNm bt t mo σ).2.2) bt) (adr (wTape cI pa (nI t) tf (nI σ.1) σ.2 bt))) 0 0 (adr (wTape cI pa (nI t) tf (nI σ.1) σ.2 bt)) := by
  refine Met.ofW (cc := cX6_takeNumber) (maxL := 4) (ret := (some .int)) (by decide) rfl ?_
  intro p e s m args below meth c s₁ B hml hv
  obtain ⟨rfl, hP, hD0, hK⟩ := hv
  have hx := B.exec
  have hb := B.bytes
  have hr := B.returns
  have hts := atoms_spec (ws := wsX6_takeNumber) B.pre
  have hown : s.vm.findClass RX6 = some m.cls := findClass_of_methodNamed B.named
  have hlocks := B.notSynchronized
  have hD := hD0.toAdr
  have hS : va_S (adr (wTape cI pa (nI t) tf (nI σ.1) σ.2 bt)) s.heap s.heap [] := va_S.rf
  generalize adr (wTape cI pa (nI t) tf (nI σ.1) σ.2 bt) = A at hD hS ⊢
  have hl := lv_entry ([.ref (pa 0), .int mo]) (n := 4) (Nat.le_of_ble_eq_true rfl)
  rw [lg_entry_eq]
  generalize (lg_sl ([.ref (pa 0), .int mo]) ++ List.replicate (4 - (lg_sl ([.ref (pa 0), .int mo])).length) Slot.unset).toArray = ls at hl ⊢
  have hl : lv_has ls 4 [(0, .ref (pa 0)), (1, .int mo)] := hl
  refine lv_aload_n hx hb dX6_takeNumber_0 rfl (lv_at hl 0 rfl) ?_
  refine va_get (D := D) (ci := 6) (v := .int σ.2) (C := RX6) (T := TX6) (N := 5) hx hb hts u_X6_takeNumber_X6 hown hK.1 hP 0 rfl rfl 4 (by decide) (hts (.fieldLink RX6 25 "NoticeWeek$Tape" "flaw" "I") (List.mem_of_getElem? (i := 1) rfl)) (fun _ h9 => h9) rfl dX6_takeNumber_1 ?_
  refine lv_if_eq (tgt := 9) hx hb dX6_takeNumber_4 (by decide) (fun c1 => ?_) (fun c1 => ?_)
  · refine lv_iconst (v := 0) hx hb dX6_takeNumber_9 (by decide) ?_
    refine lv_istore_n (lv' := [(2, .int 0), (0, .ref (pa 0)), (1, .int mo)]) hx hb dX6_takeNumber_10 rfl hl (by decide) rfl (fun ls hl => ?_)
    refine lv_aload_n hx hb dX6_takeNumber_11 rfl (lv_at hl 1 rfl) ?_
    refine va_get (D := D) (ci := 6) (v := .int (nI (σ.1))) (C := RX6) (T := TX6) (N := 5) hx hb hts u_X6_takeNumber_X6 hown hK.1 hP 0 rfl rfl 3 (by decide) (hts (.fieldLink RX6 22 "NoticeWeek$Tape" "at" "I") (List.mem_of_getElem? (i := 2) rfl)) (fun _ h9 => h9) rfl dX6_takeNumber_12 ?_
    refine lv_istore_n (lv' := [(3, .int (nI (σ.1))), (2, .int 0), (0, .ref (pa 0)), (1, .int mo)]) hx hb dX6_takeNumber_15 rfl hl (by decide) rfl (fun ls hl => ?_)
    refine b_loopM (N := 3) (I := fun k ls H locs => lv_has ls 4 [(3, .int (nI (σ.1 + k))), (2, .int (nvF bt σ.1 k)), (0, .ref (pa 0)), (1, .int mo)] ∧ va_P D vwCl (wTape cI pa (nI t) tf (nI σ.1) σ.2 bt) H ∧ va_S A s.heap H locs ∧ (nfF bt t σ.1 k = k) ∧ (σ.1 + k ≤ t)) (fun k hk ih2 ls H locs hI => ?_) 0 (by omega) ⟨lv_sub hl [0, 1, 2, 3] rfl, hP, hS, rfl, (by omega)⟩
    obtain ⟨hl, hP, hS, hF, hT⟩ := hI
    have hl : lv_has ls 4 [(3, .int (nI (σ.1 + k))), (2, .int (nvF bt σ.1 k)), (0, .ref (pa 0)), (1, .int mo)] := hl
    have hP : va_P D vwCl (wTape cI pa (nI t) tf (nI σ.1) σ.2 bt) H := hP
    have hD : va_D A (wTape cI pa (nI t) tf (nI σ.1) σ.2 bt) := hD.sameA [(pa 0), (pa 1)] rfl rfl
    refine lv_iload_n hx hb dX6_takeNumber_16 rfl (lv_at hl 0 rfl) ?_
    refine lv_aload_n hx hb dX6_takeNumber_17 rfl (lv_at hl 2 rfl) ?_
    refine va_get (D := D) (ci := 6) (v := .int (nI (t))) (C := RX6) (T := TX6) (N := 5) hx hb hts u_X6_takeNumber_X6 hown hK.1 hP 0 rfl rfl 1 (by decide) (hts (.fieldLink RX6 15 "NoticeWeek$Tape" "length" "I") (List.mem_of_getElem? (i := 3) rfl)) (fun _ h9 => h9) rfl dX6_takeNumber_18 ?_
    refine b_ge (tgt := 67) hx hb (by omega) (by omega) dX6_takeNumber_21 (by decide) (fun c3 => ?_) (fun c3 => ?_)
    · have hN : nfF bt t σ.1 3 = k := by rcases Nat.lt_or_ge k 3 with h3 | h3; (have z := nfF_stop hF (fun z => absurd z.1 (by omega)) (3 - k); rwa [show k + (3 - k) = 3 by omega] at z); (have z : k = 3 := by omega); rw [z] at hF ⊢; exact hF
      refine lv_iload_n hx hb dX6_takeNumber_67 rfl (lv_at hl 0 rfl) ?_
      refine lv_aload_n hx hb dX6_takeNumber_68 rfl (lv_at hl 2 rfl) ?_
      refine va_get (D := D) (ci := 6) (v := .int (nI (σ.1))) (C := RX6) (T := TX6) (N := 5) hx hb hts u_X6_takeNumber_X6 hown hK.1 hP 0 rfl rfl 3 (by decide) (hts (.fieldLink RX6 22 "NoticeWeek$Tape" "at" "I") (List.mem_of_getElem? (i := 2) rfl)) (fun _ h9 => h9) rfl dX6_takeNumber_69 ?_
      refine b_eq (tgt := 85) hx hb (by omega) (by omega) dX6_takeNumber_72 (by decide) (fun c4 => ?_) (fun c4 => ?_)
      · refine lv_aload_n hx hb dX6_takeNumber_85 rfl (lv_at hl 2 rfl) ?_
        refine lv_iconst (v := 1) hx hb dX6_takeNumber_86 (by decide) ?_
        refine b_put (C := RX6) (T := TX6) (N := 5) hx hb hts u_X6_takeNumber_X6 tyX6 tyX6_ok nmX6 hown hK hP hD hS 0 rfl rfl 4 (by decide) (hts (.fieldLink RX6 25 "NoticeWeek$Tape" "flaw" "I") (List.mem_of_getElem? (i := 1) rfl)) rfl (by decide +kernel) (Nat.le_of_ble_eq_true rfl) dX6_takeNumber_87 (fun H locs hP hS => ?_)
        have hP : va_P D vwCl (wTape cI pa (nI t) tf (nI σ.1) 1 bt) H := hP
        have hD : va_D A (wTape cI pa (nI t) tf (nI σ.1) 1 bt) := hD.sameA [(pa 0), (pa 1)] rfl rfl
        refine lv_iconst (v := 0) hx hb dX6_takeNumber_90 (by decide) ?_
        have E : tNm bt t mo σ = (0, σ.1, 1) := (by unfold tNm; rw [if_pos c1, hN, if_pos (by omega)])
        rw [E]
        exact b_retM hx hb hr hP hS rfl dX6_takeNumber_91 hlocks
      · refine lv_iload_n hx hb dX6_takeNumber_75 rfl (lv_at hl 0 rfl) ?_
        refine lv_aload_n hx hb dX6_takeNumber_76 rfl (lv_at hl 2 rfl) ?_
        refine va_get (D := D) (ci := 6) (v := .int (nI (σ.1))) (C := RX6) (T := TX6) (N := 5) hx hb hts u_X6_takeNumber_X6 hown hK.1 hP 0 rfl rfl 3 (by decide) (hts (.fieldLink RX6 22 "NoticeWeek$Tape" "at" "I") (List.mem_of_getElem? (i := 2) rfl)) (fun _ h9 => h9) rfl dX6_takeNumber_77 ?_
        refine b_sub hx hb (by omega) dX6_takeNumber_80 ?_
        refine lv_iconst (v := (nI 2)) hx hb dX6_takeNumber_81 (by decide) ?_
        refine b_le (tgt := 92) hx hb (by omega) (by omega) dX6_takeNumber_82 (by decide) (fun c5 => ?_) (fun c5 => ?_)
        · refine lv_iload_n hx hb dX6_takeNumber_92 rfl (lv_at hl 1 rfl) ?_
          refine lv_iload_n hx hb dX6_takeNumber_93 rfl (lv_at hl 3 rfl) ?_
          refine lv_icmp_le (tgt := 104) hx hb dX6_takeNumber_94 (by decide) (fun c6 => ?_) (fun c6 => ?_)
          · refine lv_aload_n hx hb dX6_takeNumber_104 rfl (lv_at hl 2 rfl) ?_
            refine lv_iload_n hx hb dX6_takeNumber_105 rfl (lv_at hl 0 rfl) ?_
            refine b_put (C := RX6) (T := TX6) (N := 5) hx hb hts u_X6_takeNumber_X6 tyX6 tyX6_ok nmX6 hown hK hP hD hS 0 rfl rfl 3 (by decide) (hts (.fieldLink RX6 22 "NoticeWeek$Tape" "at" "I") (List.mem_of_getElem? (i := 2) rfl)) rfl (by decide +kernel) (Nat.le_of_ble_eq_true rfl) dX6_takeNumber_106 (fun H locs hP hS => ?_)
            have hP : va_P D vwCl (wTape cI pa (nI t) tf (nI (σ.1 + k)) σ.2 bt) H := hP
            have hD : va_D A (wTape cI pa (nI t) tf (nI (σ.1 + k)) σ.2 bt) := hD.sameA [(pa 0), (pa 1)] rfl rfl
            refine lv_iload_n hx hb dX6_takeNumber_109 rfl (lv_at hl 1 rfl) ?_
            have E : tNm bt t mo σ = ((nvF bt σ.1 k), σ.1 + k, σ.2) := (by unfold tNm; rw [if_pos c1, hN, if_neg (by omega), if_neg (fun z => z c6)])
            rw [E]
            exact b_retM hx hb hr hP hS rfl dX6_takeNumber_110 hlocks
          · refine lv_aload_n hx hb dX6_takeNumber_97 rfl (lv_at hl 2 rfl) ?_
            refine lv_iconst (v := 2) hx hb dX6_takeNumber_98 (by decide) ?_
            refine b_put (C := RX6) (T := TX6) (N := 5) hx hb hts u_X6_takeNumber_X6 tyX6 tyX6_ok nmX6 hown hK hP hD hS 0 rfl rfl 4 (by decide) (hts (.fieldLink RX6 25 "NoticeWeek$Tape" "flaw" "I") (List.mem_of_getElem? (i := 1) rfl)) rfl (by decide +kernel) (Nat.le_of_ble_eq_true rfl) dX6_takeNumber_99 (fun H locs hP hS => ?_)
            have hP : va_P D vwCl (wTape cI pa (nI t) tf (nI σ.1) 2 bt) H := hP
            have hD : va_D A (wTape cI pa (nI t) tf (nI σ.1) 2 bt) := hD.sameA [(pa 0), (pa 1)] rfl rfl
            refine lv_iconst (v := 0) hx hb dX6_takeNumber_102 (by decide) ?_
            have E : tNm bt t mo σ = (0, σ.1, 2) := (by unfold tNm; rw [if_pos c1, hN, if_neg (by omega), if_pos c6])
            rw [E]
            exact b_retM hx hb hr hP hS rfl dX6_takeNumber_103 hlocks
        · refine lv_aload_n hx hb dX6_takeNumber_85 rfl (lv_at hl 2 rfl) ?_
          refine lv_iconst (v := 1) hx hb dX6_takeNumber_86 (by decide) ?_
          refine b_put (C := RX6) (T := TX6) (N := 5) hx hb hts u_X6_takeNumber_X6 tyX6 tyX6_ok nmX6 hown hK hP hD hS 0 rfl rfl 4 (by decide) (hts (.fieldLink RX6 25 "NoticeWeek$Tape" "flaw" "I") (List.mem_of_getElem? (i := 1) rfl)) rfl (by decide +kernel) (Nat.le_of_ble_eq_true rfl) dX6_takeNumber_87 (fun H locs hP hS => ?_)
          have hP : va_P D vwCl (wTape cI pa (nI t) tf (nI σ.1) 1 bt) H := hP
          have hD : va_D A (wTape cI pa (nI t) tf (nI σ.1) 1 bt) := hD.sameA [(pa 0), (pa 1)] rfl rfl
          refine lv_iconst (v := 0) hx hb dX6_takeNumber_90 (by decide) ?_
          have E : tNm bt t mo σ = (0, σ.1, 1) := (by unfold tNm; rw [if_pos c1, hN, if_pos (by omega)])
          rw [E]
          exact b_retM hx hb hr hP hS rfl dX6_takeNumber_91 hlocks
    · refine lv_iload_n hx hb dX6_takeNumber_24 rfl (lv_at hl 0 rfl) ?_
      refine lv_aload_n hx hb dX6_takeNumber_25 rfl (lv_at hl 2 rfl) ?_
      refine va_get (D := D) (ci := 6) (v := .int (nI (σ.1))) (C := RX6) (T := TX6) (N := 5) hx hb hts u_X6_takeNumber_X6 hown hK.1 hP 0 rfl rfl 3 (by decide) (hts (.fieldLink RX6 22 "NoticeWeek$Tape" "at" "I") (List.mem_of_getElem? (i := 2) rfl)) (fun _ h9 => h9) rfl dX6_takeNumber_26 ?_
      refine b_sub hx hb (by omega) dX6_takeNumber_29 ?_
      refine lv_iconst (v := (nI 2)) hx hb dX6_takeNumber_30 (by decide) ?_
      refine b_gt (tgt := 67) hx hb (by omega) (by omega) dX6_takeNumber_31 (by decide) (fun c7 => ?_) (fun c7 => ?_)
      · have hN : nfF bt t σ.1 3 = k := by rcases Nat.lt_or_ge k 3 with h3 | h3; (have z := nfF_stop hF (fun z => absurd z.1 (by omega)) (3 - k); rwa [show k + (3 - k) = 3 by omega] at z); (have z : k = 3 := by omega); rw [z] at hF ⊢; exact hF
        refine lv_iload_n hx hb dX6_takeNumber_67 rfl (lv_at hl 0 rfl) ?_
        refine lv_aload_n hx hb dX6_takeNumber_68 rfl (lv_at hl 2 rfl) ?_
        refine va_get (D := D) (ci := 6) (v := .int (nI (σ.1))) (C := RX6) (T := TX6) (N := 5) hx hb hts u_X6_takeNumber_X6 hown hK.1 hP 0 rfl rfl 3 (by decide) (hts (.fieldLink RX6 22 "NoticeWeek$Tape" "at" "I") (List.mem_of_getElem? (i := 2) rfl)) (fun _ h9 => h9) rfl dX6_takeNumber_69 ?_
        refine b_eq (tgt := 85) hx hb (by omega) (by omega) dX6_takeNumber_72 (by decide) (fun c8 => ?_) (fun c8 => ?_)
        · refine lv_aload_n hx hb dX6_takeNumber_85 rfl (lv_at hl 2 rfl) ?_
          refine lv_iconst (v := 1) hx hb dX6_takeNumber_86 (by decide) ?_
          refine b_put (C := RX6) (T := TX6) (N := 5) hx hb hts u_X6_takeNumber_X6 tyX6 tyX6_ok nmX6 hown hK hP hD hS 0 rfl rfl 4 (by decide) (hts (.fieldLink RX6 25 "NoticeWeek$Tape" "flaw" "I") (List.mem_of_getElem? (i := 1) rfl)) rfl (by decide +kernel) (Nat.le_of_ble_eq_true rfl) dX6_takeNumber_87 (fun H locs hP hS => ?_)
          have hP : va_P D vwCl (wTape cI pa (nI t) tf (nI σ.1) 1 bt) H := hP
          have hD : va_D A (wTape cI pa (nI t) tf (nI σ.1) 1 bt) := hD.sameA [(pa 0), (pa 1)] rfl rfl
          refine lv_iconst (v := 0) hx hb dX6_takeNumber_90 (by decide) ?_
          have E : tNm bt t mo σ = (0, σ.1, 1) := (by unfold tNm; rw [if_pos c1, hN, if_pos (by omega)])
          rw [E]
          exact b_retM hx hb hr hP hS rfl dX6_takeNumber_91 hlocks
        · refine lv_iload_n hx hb dX6_takeNumber_75 rfl (lv_at hl 0 rfl) ?_
          refine lv_aload_n hx hb dX6_takeNumber_76 rfl (lv_at hl 2 rfl) ?_
          refine va_get (D := D) (ci := 6) (v := .int (nI (σ.1))) (C := RX6) (T := TX6) (N := 5) hx hb hts u_X6_takeNumber_X6 hown hK.1 hP 0 rfl rfl 3 (by decide) (hts (.fieldLink RX6 22 "NoticeWeek$Tape" "at" "I") (List.mem_of_getElem? (i := 2) rfl)) (fun _ h9 => h9) rfl dX6_takeNumber_77 ?_
          refine b_sub hx hb (by omega) dX6_takeNumber_80 ?_
          refine lv_iconst (v := (nI 2)) hx hb dX6_takeNumber_81 (by decide) ?_
          refine b_le (tgt := 92) hx hb (by omega) (by omega) dX6_takeNumber_82 (by decide) (fun c9 => ?_) (fun c9 => ?_)
          · refine lv_iload_n hx hb dX6_takeNumber_92 rfl (lv_at hl 1 rfl) ?_
            refine lv_iload_n hx hb dX6_takeNumber_93 rfl (lv_at hl 3 rfl) ?_
            refine lv_icmp_le (tgt := 104) hx hb dX6_takeNumber_94 (by decide) (fun c10 => ?_) (fun c10 => ?_)
            · refine lv_aload_n hx hb dX6_takeNumber_104 rfl (lv_at hl 2 rfl) ?_
              refine lv_iload_n hx hb dX6_takeNumber_105 rfl (lv_at hl 0 rfl) ?_
              refine b_put (C := RX6) (T := TX6) (N := 5) hx hb hts u_X6_takeNumber_X6 tyX6 tyX6_ok nmX6 hown hK hP hD hS 0 rfl rfl 3 (by decide) (hts (.fieldLink RX6 22 "NoticeWeek$Tape" "at" "I") (List.mem_of_getElem? (i := 2) rfl)) rfl (by decide +kernel) (Nat.le_of_ble_eq_true rfl) dX6_takeNumber_106 (fun H locs hP hS => ?_)
              have hP : va_P D vwCl (wTape cI pa (nI t) tf (nI (σ.1 + k)) σ.2 bt) H := hP
              have hD : va_D A (wTape cI pa (nI t) tf (nI (σ.1 + k)) σ.2 bt) := hD.sameA [(pa 0), (pa 1)] rfl rfl
              refine lv_iload_n hx hb dX6_takeNumber_109 rfl (lv_at hl 1 rfl) ?_
              have E : tNm bt t mo σ = ((nvF bt σ.1 k), σ.1 + k, σ.2) := (by unfold tNm; rw [if_pos c1, hN, if_neg (by omega), if_neg (fun z => z c10)])
              rw [E]
              exact b_retM hx hb hr hP hS rfl dX6_takeNumber_110 hlocks
            · refine lv_aload_n hx hb dX6_takeNumber_97 rfl (lv_at hl 2 rfl) ?_
              refine lv_iconst (v := 2) hx hb dX6_takeNumber_98 (by decide) ?_
              refine b_put (C := RX6) (T := TX6) (N := 5) hx hb hts u_X6_takeNumber_X6 tyX6 tyX6_ok nmX6 hown hK hP hD hS 0 rfl rfl 4 (by decide) (hts (.fieldLink RX6 25 "NoticeWeek$Tape" "flaw" "I") (List.mem_of_getElem? (i := 1) rfl)) rfl (by decide +kernel) (Nat.le_of_ble_eq_true rfl) dX6_takeNumber_99 (fun H locs hP hS => ?_)
              have hP : va_P D vwCl (wTape cI pa (nI t) tf (nI σ.1) 2 bt) H := hP
              have hD : va_D A (wTape cI pa (nI t) tf (nI σ.1) 2 bt) := hD.sameA [(pa 0), (pa 1)] rfl rfl
              refine lv_iconst (v := 0) hx hb dX6_takeNumber_102 (by decide) ?_
              have E : tNm bt t mo σ = (0, σ.1, 2) := (by unfold tNm; rw [if_pos c1, hN, if_neg (by omega), if_pos c10])
              rw [E]
              exact b_retM hx hb hr hP hS rfl dX6_takeNumber_103 hlocks
          · refine lv_aload_n hx hb dX6_takeNumber_85 rfl (lv_at hl 2 rfl) ?_
            refine lv_iconst (v := 1) hx hb dX6_takeNumber_86 (by decide) ?_
            refine b_put (C := RX6) (T := TX6) (N := 5) hx hb hts u_X6_takeNumber_X6 tyX6 tyX6_ok nmX6 hown hK hP hD hS 0 rfl rfl 4 (by decide) (hts (.fieldLink RX6 25 "NoticeWeek$Tape" "flaw" "I") (List.mem_of_getElem? (i := 1) rfl)) rfl (by decide +kernel) (Nat.le_of_ble_eq_true rfl) dX6_takeNumber_87 (fun H locs hP hS => ?_)
            have hP : va_P D vwCl (wTape cI pa (nI t) tf (nI σ.1) 1 bt) H := hP
            have hD : va_D A (wTape cI pa (nI t) tf (nI σ.1) 1 bt) := hD.sameA [(pa 0), (pa 1)] rfl rfl
            refine lv_iconst (v := 0) hx hb dX6_takeNumber_90 (by decide) ?_
            have E : tNm bt t mo σ = (0, σ.1, 1) := (by unfold tNm; rw [if_pos c1, hN, if_pos (by omega)])
            rw [E]
            exact b_retM hx hb hr hP hS rfl dX6_takeNumber_91 hlocks
      · refine lv_aload_n hx hb dX6_takeNumber_34 rfl (lv_at hl 2 rfl) ?_
        refine va_get (D := D) (ci := 6) (v := .ref (pa 1)) (C := RX6) (T := TX6) (N := 5) hx hb hts u_X6_takeNumber_X6 hown hK.1 hP 0 rfl rfl 0 (by decide) (hts (.fieldLink RX6 11 "NoticeWeek$Tape" "bytes" "[I") (List.mem_of_getElem? (i := 4) rfl)) (fun _ h9 => h9) rfl dX6_takeNumber_35 ?_
        refine lv_iload_n hx hb dX6_takeNumber_38 rfl (lv_at hl 0 rfl) ?_
        refine b_ald hx hb hK hP 1 rfl (by omega) (by decide) dX6_takeNumber_39 ?_
        refine b_call (va_runS (As := [.int (bt (σ.1 + k))]) (rest := []) ⟨hx, hb, hml, hown, hts⟩ (c_X6_isFigure l D cI cZ cT (bt (σ.1 + k))) (va_cwS 1 hts gX6_takeNumber_X6_isFigure rfl rfl rfl (by decide +kernel) ⟨(Nat.le_of_ble_eq_true rfl), (Nat.le_of_ble_eq_true rfl)⟩) (b_pS0 hK) rfl rfl hl.1 rfl (lv_room (Nat.le_of_ble_eq_true rfl)) dX6_takeNumber_40 ⟨Nat.zero_le _, Nat.zero_le _⟩).run ?_
        refine b_ifeq (tgt := 67) hx hb dX6_takeNumber_43 (by decide) (fun c11 => ?_) (fun c11 => ?_)
        · have hN : nfF bt t σ.1 3 = k := by have z := nfF_stop hF (fun z => c11 z.2) (3 - k); rwa [show k + (3 - k) = 3 by omega] at z
          refine lv_iload_n hx hb dX6_takeNumber_67 rfl (lv_at hl 0 rfl) ?_
          refine lv_aload_n hx hb dX6_takeNumber_68 rfl (lv_at hl 2 rfl) ?_
          refine va_get (D := D) (ci := 6) (v := .int (nI (σ.1))) (C := RX6) (T := TX6) (N := 5) hx hb hts u_X6_takeNumber_X6 hown hK.1 hP 0 rfl rfl 3 (by decide) (hts (.fieldLink RX6 22 "NoticeWeek$Tape" "at" "I") (List.mem_of_getElem? (i := 2) rfl)) (fun _ h9 => h9) rfl dX6_takeNumber_69 ?_
          refine b_eq (tgt := 85) hx hb (by omega) (by omega) dX6_takeNumber_72 (by decide) (fun c12 => ?_) (fun c12 => ?_)
          · refine lv_aload_n hx hb dX6_takeNumber_85 rfl (lv_at hl 2 rfl) ?_
            refine lv_iconst (v := 1) hx hb dX6_takeNumber_86 (by decide) ?_
            refine b_put (C := RX6) (T := TX6) (N := 5) hx hb hts u_X6_takeNumber_X6 tyX6 tyX6_ok nmX6 hown hK hP hD hS 0 rfl rfl 4 (by decide) (hts (.fieldLink RX6 25 "NoticeWeek$Tape" "flaw" "I") (List.mem_of_getElem? (i := 1) rfl)) rfl (by decide +kernel) (Nat.le_of_ble_eq_true rfl) dX6_takeNumber_87 (fun H locs hP hS => ?_)
            have hP : va_P D vwCl (wTape cI pa (nI t) tf (nI σ.1) 1 bt) H := hP
            have hD : va_D A (wTape cI pa (nI t) tf (nI σ.1) 1 bt) := hD.sameA [(pa 0), (pa 1)] rfl rfl
            refine lv_iconst (v := 0) hx hb dX6_takeNumber_90 (by decide) ?_
            have E : tNm bt t mo σ = (0, σ.1, 1) := (by unfold tNm; rw [if_pos c1, hN, if_pos (by omega)])
            rw [E]
            exact b_retM hx hb hr hP hS rfl dX6_takeNumber_91 hlocks
          · refine lv_iload_n hx hb dX6_takeNumber_75 rfl (lv_at hl 0 rfl) ?_
            refine lv_aload_n hx hb dX6_takeNumber_76 rfl (lv_at hl 2 rfl) ?_
            refine va_get (D := D) (ci := 6) (v := .int (nI (σ.1))) (C := RX6) (T := TX6) (N := 5) hx hb hts u_X6_takeNumber_X6 hown hK.1 hP 0 rfl rfl 3 (by decide) (hts (.fieldLink RX6 22 "NoticeWeek$Tape" "at" "I") (List.mem_of_getElem? (i := 2) rfl)) (fun _ h9 => h9) rfl dX6_takeNumber_77 ?_
            refine b_sub hx hb (by omega) dX6_takeNumber_80 ?_
            refine lv_iconst (v := (nI 2)) hx hb dX6_takeNumber_81 (by decide) ?_
            refine b_le (tgt := 92) hx hb (by omega) (by omega) dX6_takeNumber_82 (by decide) (fun c13 => ?_) (fun c13 => ?_)
            · refine lv_iload_n hx hb dX6_takeNumber_92 rfl (lv_at hl 1 rfl) ?_
              refine lv_iload_n hx hb dX6_takeNumber_93 rfl (lv_at hl 3 rfl) ?_
              refine lv_icmp_le (tgt := 104) hx hb dX6_takeNumber_94 (by decide) (fun c14 => ?_) (fun c14 => ?_)
              · refine lv_aload_n hx hb dX6_takeNumber_104 rfl (lv_at hl 2 rfl) ?_
                refine lv_iload_n hx hb dX6_takeNumber_105 rfl (lv_at hl 0 rfl) ?_
                refine b_put (C := RX6) (T := TX6) (N := 5) hx hb hts u_X6_takeNumber_X6 tyX6 tyX6_ok nmX6 hown hK hP hD hS 0 rfl rfl 3 (by decide) (hts (.fieldLink RX6 22 "NoticeWeek$Tape" "at" "I") (List.mem_of_getElem? (i := 2) rfl)) rfl (by decide +kernel) (Nat.le_of_ble_eq_true rfl) dX6_takeNumber_106 (fun H locs hP hS => ?_)
                have hP : va_P D vwCl (wTape cI pa (nI t) tf (nI (σ.1 + k)) σ.2 bt) H := hP
                have hD : va_D A (wTape cI pa (nI t) tf (nI (σ.1 + k)) σ.2 bt) := hD.sameA [(pa 0), (pa 1)] rfl rfl
                refine lv_iload_n hx hb dX6_takeNumber_109 rfl (lv_at hl 1 rfl) ?_
                have E : tNm bt t mo σ = ((nvF bt σ.1 k), σ.1 + k, σ.2) := (by unfold tNm; rw [if_pos c1, hN, if_neg (by omega), if_neg (fun z => z c14)])
                rw [E]
                exact b_retM hx hb hr hP hS rfl dX6_takeNumber_110 hlocks
              · refine lv_aload_n hx hb dX6_takeNumber_97 rfl (lv_at hl 2 rfl) ?_
                refine lv_iconst (v := 2) hx hb dX6_takeNumber_98 (by decide) ?_
                refine b_put (C := RX6) (T := TX6) (N := 5) hx hb hts u_X6_takeNumber_X6 tyX6 tyX6_ok nmX6 hown hK hP hD hS 0 rfl rfl 4 (by decide) (hts (.fieldLink RX6 25 "NoticeWeek$Tape" "flaw" "I") (List.mem_of_getElem? (i := 1) rfl)) rfl (by decide +kernel) (Nat.le_of_ble_eq_true rfl) dX6_takeNumber_99 (fun H locs hP hS => ?_)
                have hP : va_P D vwCl (wTape cI pa (nI t) tf (nI σ.1) 2 bt) H := hP
                have hD : va_D A (wTape cI pa (nI t) tf (nI σ.1) 2 bt) := hD.sameA [(pa 0), (pa 1)] rfl rfl
                refine lv_iconst (v := 0) hx hb dX6_takeNumber_102 (by decide) ?_
                have E : tNm bt t mo σ = (0, σ.1, 2) := (by unfold tNm; rw [if_pos c1, hN, if_neg (by omega), if_pos c14])
                rw [E]
                exact b_retM hx hb hr hP hS rfl dX6_takeNumber_103 hlocks
            · refine lv_aload_n hx hb dX6_takeNumber_85 rfl (lv_at hl 2 rfl) ?_
              refine lv_iconst (v := 1) hx hb dX6_takeNumber_86 (by decide) ?_
              refine b_put (C := RX6) (T := TX6) (N := 5) hx hb hts u_X6_takeNumber_X6 tyX6 tyX6_ok nmX6 hown hK hP hD hS 0 rfl rfl 4 (by decide) (hts (.fieldLink RX6 25 "NoticeWeek$Tape" "flaw" "I") (List.mem_of_getElem? (i := 1) rfl)) rfl (by decide +kernel) (Nat.le_of_ble_eq_true rfl) dX6_takeNumber_87 (fun H locs hP hS => ?_)
              have hP : va_P D vwCl (wTape cI pa (nI t) tf (nI σ.1) 1 bt) H := hP
              have hD : va_D A (wTape cI pa (nI t) tf (nI σ.1) 1 bt) := hD.sameA [(pa 0), (pa 1)] rfl rfl
              refine lv_iconst (v := 0) hx hb dX6_takeNumber_90 (by decide) ?_
              have E : tNm bt t mo σ = (0, σ.1, 1) := (by unfold tNm; rw [if_pos c1, hN, if_pos (by omega)])
              rw [E]
              exact b_retM hx hb hr hP hS rfl dX6_takeNumber_91 hlocks
        · refine lv_iload_n hx hb dX6_takeNumber_46 rfl (lv_at hl 1 rfl) ?_
          refine lv_bipush (v := 10) hx hb dX6_takeNumber_47 (by decide) ?_
          refine lv_imul hx hb dX6_takeNumber_49 ?_
          refine lv_aload_n hx hb dX6_takeNumber_50 rfl (lv_at hl 2 rfl) ?_
          refine va_get (D := D) (ci := 6) (v := .ref (pa 1)) (C := RX6) (T := TX6) (N := 5) hx hb hts u_X6_takeNumber_X6 hown hK.1 hP 0 rfl rfl 0 (by decide) (hts (.fieldLink RX6 11 "NoticeWeek$Tape" "bytes" "[I") (List.mem_of_getElem? (i := 4) rfl)) (fun _ h9 => h9) rfl dX6_takeNumber_51 ?_
          refine lv_iload_n hx hb dX6_takeNumber_54 rfl (lv_at hl 0 rfl) ?_
          refine b_ald hx hb hK hP 1 rfl (by omega) (by decide) dX6_takeNumber_55 ?_
          refine lv_iadd hx hb dX6_takeNumber_56 ?_
          refine lv_bipush (v := 48) hx hb dX6_takeNumber_57 (by decide) ?_
          refine lv_isub hx hb dX6_takeNumber_59 ?_
          refine lv_topi (fun x15 ex15 => ?_)
          refine lv_istore_n (lv' := [(2, .int x15), (3, .int (nI (σ.1 + k))), (0, .ref (pa 0)), (1, .int mo)]) hx hb dX6_takeNumber_60 rfl hl (by decide) rfl (fun ls hl => ?_)
          refine lv_iinc (v := (nI (σ.1 + k + 1))) (lv' := [(3, .int (nI (σ.1 + k + 1))), (2, .int x15), (0, .ref (pa 0)), (1, .int mo)]) hx hb dX6_takeNumber_61 hl (k := 1) rfl (nI_add _ _) (by decide) rfl (fun ls hl => ?_)
          refine lv_goto (tgt := 16) hx hb dX6_takeNumber_64 (by decide) ?_
          try subst ex15
          exact ih2 (by omega) ls H locs ⟨lv_sub hl [0, 1, 2, 3] rfl, hP, hS, (nfF_go hF (by omega) c11), (by omega)⟩
  · refine lv_iconst (v := 0) hx hb dX6_takeNumber_7 (by decide) ?_
    have E : tNm bt t mo σ = (0, σ.1, σ.2) := (by unfold tNm; rw [if_neg c1])
    rw [E]
    exact b_retM hx hb hr hP hS rfl dX6_takeNumber_8 hlocks
