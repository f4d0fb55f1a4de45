/-! MODEL: odds -/
def odB (nw : Nat → Int32) (n k : Nat) : Nat := itr (fun r b => b * (if hasb (lvI nw n) r then 10 else 1)) k 1
def odW (nw : Nat → Int32) (n cv g i : Nat) : Nat := itr (fun r b => b * (if ¬ hasb (lvI nw n) r then 1 else if hasb (nI g) r then cv else 10 - cv)) i (if (nI g &&& (lvI nw n ^^^ (-1))) = 0 then 1 else 0)
def odS (nw : Nat → Int32) (g i : Nat) : Nat := itr (fun r b => b + (if fsI nw r (if hasb (nI g) r then 0 else 60) = 0 then 1 else 0)) i 0
def odA (nw : Nat → Int32) (n kv cv g : Nat) : Nat := itr (fun g b => b + (if kv ≤ odS nw g n then odW nw n cv g n else 0)) g 0
def gE (S : Nat × Nat) : Nat × Nat := if S.2 = 0 then S else (S.2, S.1 % S.2)
def gI (S : Nat × Nat) (k : Nat) : Nat × Nat := itr (fun _ S => gE S) k S
theorem gI_1 {S : Nat × Nat} {k : Nat} : gI S (k + 1) = gE (gI S k) := rfl
theorem gI_gcd {S : Nat × Nat} (k : Nat) : Nat.gcd (gI S k).2 (gI S k).1 = Nat.gcd S.2 S.1 := by
  induction k with
  | zero => rfl
  | succ k ih =>
    rw [gI_1]; generalize gI S k = T at ih ⊢
    unfold gE; split
    · exact ih
    · show Nat.gcd (T.1 % T.2) T.2 = _
      rw [← Nat.gcd_rec]; exact ih
theorem gI_dec {S : Nat × Nat} (k : Nat) : (gI S k).2 = 0 ∨ (gI S k).2 + k ≤ S.2 := by
  induction k with
  | zero => exact Or.inr (Nat.le_refl _)
  | succ k ih =>
    rw [gI_1]; generalize gI S k = T at ih ⊢
    unfold gE; split
    · rename_i h; exact Or.inl h
    · rename_i h
      right
      show T.1 % T.2 + (k + 1) ≤ S.2
      have h1 : T.1 % T.2 < T.2 := Nat.mod_lt _ (by omega)
      rcases ih with z | z
      · exact absurd z h
      · omega
theorem gI_le {S : Nat × Nat} {M : Nat} (h1 : S.1 ≤ M) (h2 : S.2 ≤ M) (k : Nat) : (gI S k).1 ≤ M ∧ (gI S k).2 ≤ M := by
  induction k with
  | zero => exact ⟨h1, h2⟩
  | succ k ih =>
    rw [gI_1]; generalize gI S k = T at ih ⊢
    unfold gE; split
    · exact ih
    · exact ⟨ih.2, Nat.le_trans (Nat.mod_le _ _) ih.1⟩
theorem odB_pos {nw : Nat → Int32} {n : Nat} : ∀ k, 1 ≤ odB nw n k ∧ odB nw n k ≤ 10 ^ k := by
  intro k
  induction k with
  | zero => exact ⟨Nat.le_refl 1, Nat.le_refl 1⟩
  | succ k ih =>
    show 1 ≤ odB nw n k * _ ∧ odB nw n k * _ ≤ 10 ^ (k + 1)
    rw [Nat.pow_succ]
    split <;> omega
theorem odW_le {nw : Nat → Int32} {n cv g : Nat} (hc : cv ≤ 10) : ∀ i, odW nw n cv g i ≤ 10 ^ i := by
  intro i
  induction i with
  | zero => show (if _ then 1 else 0) ≤ 1; split <;> omega
  | succ i ih =>
    show odW nw n cv g i * _ ≤ 10 ^ (i + 1)
    rw [Nat.pow_succ]
    refine Nat.mul_le_mul ih ?_
    split
    · omega
    · split <;> omega
theorem odA_le {nw : Nat → Int32} {n kv cv : Nat} (hc : cv ≤ 10) (hn : n ≤ 6) : ∀ g, odA nw n kv cv g ≤ g * 1000000 := by
  intro g
  have hw : ∀ g, odW nw n cv g n ≤ 1000000 := fun g => Nat.le_trans (odW_le hc n) (Nat.le_trans (Nat.pow_le_pow_right (by omega) hn) (by decide))
  induction g with
  | zero => exact Nat.le_refl 0
  | succ g ih =>
    show odA nw n kv cv g + _ ≤ (g + 1) * 1000000
    rw [Nat.add_mul, Nat.one_mul]
    refine Nat.add_le_add ih ?_
    split
    · exact hw g
    · exact Nat.zero_le _
theorem odS_le {nw : Nat → Int32} {g : Nat} : ∀ i, odS nw g i ≤ i := by
  intro i
  induction i with
  | zero => exact Nat.le_refl 0
  | succ i ih =>
    show odS nw g i + _ ≤ i + 1
    refine Nat.add_le_add ih ?_
    generalize fsI nw i _ = y
    split
    · exact Nat.le_refl 1
    · exact Nat.zero_le 1
def odAE (nw : Nat → Int32) (n kv cv : Nat) : Nat := odA nw n kv cv (2 ^ n)
def m_odds (nw : Nat → Int32) (n : Nat) (kk dc what : Int32) : Int32 :=
  if ¬ nw 0 = 1 then -1000002 else if ¬ (¬ kk < 0 ∧ ¬ 6 < kk) then -1000001 else if ¬ (¬ dc < 0 ∧ ¬ 10 < dc) then -1000001 else if ¬ cho what then -1000001
  else if what = 0 then nI (odAE nw n (tn kk) (tn dc) / Nat.gcd (odAE nw n (tn kk) (tn dc)) (odB nw n n)) else nI (odB nw n n / Nat.gcd (odAE nw n (tn kk) (tn dc)) (odB nw n n))
theorem u_X12_odds_X12 : ∀ w ∈ wsX120, w ∈ wsX12_odds := fun _ h => List.mem_cons_of_mem _ (List.mem_append_right _ h)
set_option maxHeartbeats 4000000 in
set_option maxRecDepth 100000 in
theorem c_X12_odds (l : Launch) (D : va_G) (cI cZ cT : ClassId) (A0 : Nat → Nat) (ss tp fk fp ap sp tk vl ac tr : Int32) (la ma it sr bt nw dr pa im kp tc : Nat → Int32) (kk dc what : Int32) (n : Nat) (hW : TK nw n) : Met l yX12_odds wsX12_odds ({ frames := 6, cells := 0, slots := 0, locals := 140 }) (pR D cI cZ cT [.ref (A0 0), .int kk, .int dc, .int what] (wM cI cZ A0 ss tp fk fp ap sp tk vl ac tr la ma it sr bt nw dr pa im kp tc)) (QcRead (m_odds nw n kk dc what)) 0 0 (fun _ => False) := by
  refine Met.ofW (cc := cX12_odds) (maxL := 11) (ret := (some .int)) (by decide) rfl ?_
  intro p e s m args below meth c s₁ B hml hv
  obtain ⟨rfl, hP, hK⟩ := hv
  have hx := B.exec
  have hb := B.bytes
  have hr := B.returns
  have hts := atoms_spec (ws := wsX12_odds) B.pre
  have hown : s.vm.findClass RX12 = some m.cls := findClass_of_methodNamed B.named
  have hlocks := B.notSynchronized
  have hl := lv_entry ([.ref (A0 0), .int kk, .int dc, .int what]) (n := 11) (Nat.le_of_ble_eq_true rfl)
  rw [lg_entry_eq]
  generalize (lg_sl ([.ref (A0 0), .int kk, .int dc, .int what]) ++ List.replicate (11 - (lg_sl ([.ref (A0 0), .int kk, .int dc, .int what])).length) Slot.unset).toArray = ls at hl ⊢
  have hl : lv_has ls 11 [(0, .ref (A0 0)), (1, .int kk), (2, .int dc), (3, .int what)] := hl
  have hn6 := hW.1
  obtain ⟨pw, hpw1, hpw64, hpw2, hpw⟩ := shl1 hn6
  refine lv_aload_n hx hb dX12_odds_0 rfl (lv_at hl 0 rfl) ?_
  refine b_call (va_runV (As := []) (rest := []) ⟨hx, hb, hml, hown, hts⟩ (c_X12_isTown l D cI cZ cT A0 ss tp fk fp ap sp tk vl ac tr la ma it sr bt nw dr pa im kp tc) (cwV 0 hts gX12_odds_X12_isTown rfl rfl rfl (by decide +kernel) ⟨(Nat.le_of_ble_eq_true rfl), (Nat.le_of_ble_eq_true rfl)⟩) (b_pV hK hP [0, 1, 2, 3, 4, 5, 6, 7, 8, 9, 10, 11] rfl 0 rfl rfl) rfl rfl hl.1 rfl (lv_room (Nat.le_of_ble_eq_true rfl)) dX12_odds_1 ⟨Nat.zero_le _, Nat.zero_le _⟩).run ?_
  refine b_ifne (tgt := 10) hx hb dX12_odds_4 (by decide) (fun c1 => ?_) (fun c1 => ?_)
  · refine lv_iload_n hx hb dX12_odds_10 rfl (lv_at hl 1 rfl) ?_
    refine lv_iconst (v := 0) hx hb dX12_odds_11 (by decide) ?_
    refine lv_bipush (v := 6) hx hb dX12_odds_12 (by decide) ?_
    refine b_call (va_runS (As := [.int kk, .int 0, .int 6]) (rest := []) ⟨hx, hb, hml, hown, hts⟩ (c_X12_in l D cI cZ cT kk 0 6) (va_cwS 3 hts gX12_odds_X12_in rfl rfl rfl (by decide +kernel) ⟨(Nat.le_of_ble_eq_true rfl), (Nat.le_of_ble_eq_true rfl)⟩) (b_pS0 hK) rfl rfl hl.1 rfl (lv_room (Nat.le_of_ble_eq_true rfl)) dX12_odds_14 ⟨Nat.zero_le _, Nat.zero_le _⟩).run ?_
    refine b_ifeq (tgt := 39) hx hb dX12_odds_17 (by decide) (fun c2 => ?_) (fun c2 => ?_)
    · refine lv_ldc (v := (-1000001)) hx hb hown (hts (.constant RX12 58 (-1000001)) (List.mem_of_getElem? (i := 2) rfl)) dX12_odds_39 ?_
      exact b_ret hx hb hr (by first | (simp only [m_odds, eq_true c1, eq_false c2, bI, not_true_eq_false, not_false_eq_true, ite_true, ite_false, if_true, if_false, and_self, and_true, true_and, false_and, and_false, or_true, true_or, or_false, false_or, eq_self]; done) | (simp [m_odds, eq_true c1, eq_false c2, bI]; done)) dX12_odds_41 hlocks
    · refine lv_iload_n hx hb dX12_odds_20 rfl (lv_at hl 2 rfl) ?_
      refine lv_iconst (v := 0) hx hb dX12_odds_21 (by decide) ?_
      refine lv_bipush (v := 10) hx hb dX12_odds_22 (by decide) ?_
      refine b_call (va_runS (As := [.int dc, .int 0, .int 10]) (rest := []) ⟨hx, hb, hml, hown, hts⟩ (c_X12_in l D cI cZ cT dc 0 10) (va_cwS 3 hts gX12_odds_X12_in rfl rfl rfl (by decide +kernel) ⟨(Nat.le_of_ble_eq_true rfl), (Nat.le_of_ble_eq_true rfl)⟩) (b_pS0 hK) rfl rfl hl.1 rfl (lv_room (Nat.le_of_ble_eq_true rfl)) dX12_odds_24 ⟨Nat.zero_le _, Nat.zero_le _⟩).run ?_
      refine b_ifeq (tgt := 39) hx hb dX12_odds_27 (by decide) (fun c3 => ?_) (fun c3 => ?_)
      · refine lv_ldc (v := (-1000001)) hx hb hown (hts (.constant RX12 58 (-1000001)) (List.mem_of_getElem? (i := 2) rfl)) dX12_odds_39 ?_
        exact b_ret hx hb hr (by first | (simp only [m_odds, eq_true c1, eq_true c2, eq_false c3, bI, not_true_eq_false, not_false_eq_true, ite_true, ite_false, if_true, if_false, and_self, and_true, true_and, false_and, and_false, or_true, true_or, or_false, false_or, eq_self]; done) | (simp [m_odds, eq_true c1, eq_true c2, eq_false c3, bI]; done)) dX12_odds_41 hlocks
      · refine lv_iload_n hx hb dX12_odds_30 rfl (lv_at hl 3 rfl) ?_
        refine lv_iconst (v := 0) hx hb dX12_odds_31 (by decide) ?_
        refine lv_iconst (v := 1) hx hb dX12_odds_32 (by decide) ?_
        refine b_call (va_runS (As := [.int what, .int 0, .int 1]) (rest := []) ⟨hx, hb, hml, hown, hts⟩ (c_X12_in l D cI cZ cT what 0 1) (va_cwS 3 hts gX12_odds_X12_in rfl rfl rfl (by decide +kernel) ⟨(Nat.le_of_ble_eq_true rfl), (Nat.le_of_ble_eq_true rfl)⟩) (b_pS0 hK) rfl rfl hl.1 rfl (lv_room (Nat.le_of_ble_eq_true rfl)) dX12_odds_33 ⟨Nat.zero_le _, Nat.zero_le _⟩).run ?_
        refine b_ifne (tgt := 42) hx hb dX12_odds_36 (by decide) (fun c4 => ?_) (fun c4 => ?_)
        · obtain ⟨kv, hh_kv, rfl⟩ : ∃ r : Nat, r ≤ 6 ∧ kk = nI r := i_nat 6 c2.1 c2.2 rfl (by decide)
          have hl : lv_has ls 11 [(0, .ref (A0 0)), (1, .int (nI (kv))), (2, .int dc), (3, .int what)] := hl
          obtain ⟨cv, hh_cv, rfl⟩ : ∃ r : Nat, r ≤ 10 ∧ dc = nI r := i_nat 10 c3.1 c3.2 rfl (by decide)
          have hl : lv_has ls 11 [(0, .ref (A0 0)), (1, .int (nI (kv))), (2, .int (nI (cv))), (3, .int what)] := hl
          have htk : tn (nI kv) = kv := tn_nI hh_kv
          have htc : tn (nI cv) = cv := tn_nI hh_cv
          refine lv_aload_n hx hb dX12_odds_42 rfl (lv_at hl 0 rfl) ?_
          refine b_call (va_runV (As := []) (rest := []) ⟨hx, hb, hml, hown, hts⟩ (c_X12_living l D cI cZ cT A0 ss tp fk fp ap sp tk vl ac tr la ma it sr bt nw dr pa im kp tc n hW) (cwV 0 hts gX12_odds_X12_living rfl rfl rfl (by decide +kernel) ⟨(Nat.le_of_ble_eq_true rfl), (Nat.le_of_ble_eq_true rfl)⟩) (b_pV hK hP [0, 1, 2, 3, 4, 5, 6, 7, 8, 9, 10, 11] rfl 0 rfl rfl) rfl rfl hl.1 rfl (lv_room (Nat.le_of_ble_eq_true rfl)) dX12_odds_43 ⟨Nat.zero_le _, Nat.zero_le _⟩).run ?_
          refine lv_topi (fun x5 ex5 => ?_)
          refine lv_istore (lv' := [(4, .int x5), (0, .ref (A0 0)), (1, .int (nI (kv))), (2, .int (nI (cv))), (3, .int what)]) hx hb dX12_odds_46 hl (by decide) rfl (fun ls hl => ?_)
          subst ex5
          have hl : lv_has ls 11 [(4, .int (lvI nw n)), (0, .ref (A0 0)), (1, .int (nI (kv))), (2, .int (nI (cv))), (3, .int what)] := hl
          refine lv_iconst (v := (nI 0)) hx hb dX12_odds_48 (by decide) ?_
          refine lv_istore (lv' := [(5, .int (nI 0)), (4, .int (lvI nw n)), (0, .ref (A0 0)), (1, .int (nI (kv))), (2, .int (nI (cv))), (3, .int what)]) hx hb dX12_odds_49 hl (by decide) rfl (fun ls hl => ?_)
          refine lv_iconst (v := (nI 1)) hx hb dX12_odds_51 (by decide) ?_
          refine lv_istore (lv' := [(6, .int (nI 1)), (5, .int (nI 0)), (4, .int (lvI nw n)), (0, .ref (A0 0)), (1, .int (nI (kv))), (2, .int (nI (cv))), (3, .int what)]) hx hb dX12_odds_52 hl (by decide) rfl (fun ls hl => ?_)
          refine lv_iconst (v := (nI 0)) hx hb dX12_odds_54 (by decide) ?_
          refine lv_istore (lv' := [(7, .int (nI 0)), (6, .int (nI 1)), (5, .int (nI 0)), (4, .int (lvI nw n)), (0, .ref (A0 0)), (1, .int (nI (kv))), (2, .int (nI (cv))), (3, .int what)]) hx hb dX12_odds_55 hl (by decide) rfl (fun ls hl => ?_)
          refine b_loopR (N := n) (I := fun k ls => lv_has ls 11 [(7, .int (nI (k))), (5, .int (nI (0))), (6, .int (nI (odB nw n k))), (0, .ref (A0 0)), (1, .int (nI (kv))), (2, .int (nI (cv))), (3, .int what), (4, .int (lvI nw n))]) (fun k hk ih6 ls hI => ?_) 0 (by omega) (lv_sub hl [0, 2, 1, 4, 5, 6, 7, 3] rfl)
          have hl := hI
          have hl : lv_has ls 11 [(7, .int (nI (k))), (5, .int (nI (0))), (6, .int (nI (odB nw n k))), (0, .ref (A0 0)), (1, .int (nI (kv))), (2, .int (nI (cv))), (3, .int what), (4, .int (lvI nw n))] := hl
          refine lv_iload hx hb dX12_odds_57 (lv_at hl 0 rfl) ?_
          refine lv_aload_n hx hb dX12_odds_59 rfl (lv_at hl 3 rfl) ?_
          refine va_get (D := D) (ci := 11) (v := .ref (A0 6)) (C := RX12) (T := TX12) (N := 21) hx hb hts u_X12_odds_X12 hown hK.1 hP 0 rfl rfl 13 (by decide) (hts (.fieldLink RX12 25 "NoticeWeekModel" "now" "[I") (List.mem_of_getElem? (i := 3) rfl)) (fun _ h9 => h9) rfl dX12_odds_60 ?_
          refine lv_iconst (v := (nI 3)) hx hb dX12_odds_63 (by decide) ?_
          refine b_ald hx hb hK hP 6 rfl (by omega) (by decide) dX12_odds_64 ?_
          rw [hW.2.1]
          refine b_ge (tgt := 95) hx hb (by omega) (by omega) dX12_odds_65 (by decide) (fun c7 => ?_) (fun c7 => ?_)
          · have h_k : n = k := by omega
            subst h_k
            refine lv_iconst (v := (nI 0)) hx hb dX12_odds_95 (by decide) ?_
            refine lv_istore (lv' := [(7, .int (nI 0)), (5, .int (nI (0))), (6, .int (nI (odB nw n n))), (0, .ref (A0 0)), (1, .int (nI (kv))), (2, .int (nI (cv))), (3, .int what), (4, .int (lvI nw n))]) hx hb dX12_odds_96 hl (by decide) rfl (fun ls hl => ?_)
            refine b_loopR (N := pw) (I := fun g ls => lv_has ls 11 [(7, .int (nI (g))), (5, .int (nI (odA nw n kv cv g))), (6, .int (nI (odB nw n n))), (0, .ref (A0 0)), (1, .int (nI (kv))), (2, .int (nI (cv))), (3, .int what), (4, .int (lvI nw n))]) (fun g hg ih8 ls hI => ?_) 0 (by omega) (lv_sub hl [0, 1, 2, 3, 4, 5, 6, 7] rfl)
            have hl := hI
            have hl : lv_has ls 11 [(7, .int (nI (g))), (5, .int (nI (odA nw n kv cv g))), (6, .int (nI (odB nw n n))), (0, .ref (A0 0)), (1, .int (nI (kv))), (2, .int (nI (cv))), (3, .int what), (4, .int (lvI nw n))] := hl
            refine lv_iload hx hb dX12_odds_98 (lv_at hl 0 rfl) ?_
            refine lv_iconst (v := 1) hx hb dX12_odds_100 (by decide) ?_
            refine lv_aload_n hx hb dX12_odds_101 rfl (lv_at hl 3 rfl) ?_
            refine va_get (D := D) (ci := 11) (v := .ref (A0 6)) (C := RX12) (T := TX12) (N := 21) hx hb hts u_X12_odds_X12 hown hK.1 hP 0 rfl rfl 13 (by decide) (hts (.fieldLink RX12 25 "NoticeWeekModel" "now" "[I") (List.mem_of_getElem? (i := 3) rfl)) (fun _ h9 => h9) rfl dX12_odds_102 ?_
            refine lv_iconst (v := (nI 3)) hx hb dX12_odds_105 (by decide) ?_
            refine b_ald hx hb hK hP 6 rfl (by omega) (by decide) dX12_odds_106 ?_
            rw [hW.2.1]
            refine lv_ishl hx hb dX12_odds_107 ?_
            rw [hpw]
            refine b_ge (tgt := 246) hx hb (by omega) (by omega) dX12_odds_108 (by decide) (fun c9 => ?_) (fun c9 => ?_)
            · have h_g : pw = g := by omega
              subst h_g
              have hoA : odA nw n kv cv pw ≤ 64000000 := by have y := odA_le (nw := nw) (kv := kv) hh_cv hn6 pw; omega
              have hoB : odB nw n n ≤ 1000000 := Nat.le_trans (odB_pos n).2 (Nat.le_trans (Nat.pow_le_pow_right (by omega) hn6) (by decide))
              have hoB1 : 1 ≤ odB nw n n := (odB_pos n).1
              refine lv_iload hx hb dX12_odds_246 (lv_at hl 1 rfl) ?_
              refine lv_istore (lv' := [(7, .int (nI (odA nw n kv cv pw))), (5, .int (nI (odA nw n kv cv pw))), (6, .int (nI (odB nw n n))), (0, .ref (A0 0)), (1, .int (nI (kv))), (2, .int (nI (cv))), (3, .int what), (4, .int (lvI nw n))]) hx hb dX12_odds_248 hl (by decide) rfl (fun ls hl => ?_)
              refine lv_iload hx hb dX12_odds_250 (lv_at hl 2 rfl) ?_
              refine lv_istore (lv' := [(8, .int (nI (odB nw n n))), (7, .int (nI (odA nw n kv cv pw))), (5, .int (nI (odA nw n kv cv pw))), (6, .int (nI (odB nw n n))), (0, .ref (A0 0)), (1, .int (nI (kv))), (2, .int (nI (cv))), (3, .int what), (4, .int (lvI nw n))]) hx hb dX12_odds_252 hl (by decide) rfl (fun ls hl => ?_)
              refine b_loopR (N := odB nw n n) (I := fun z ls => lv_has ls 11 [(7, .int (nI ((gI (odA nw n kv cv pw, odB nw n n) z).1))), (8, .int (nI ((gI (odA nw n kv cv pw, odB nw n n) z).2))), (5, .int (nI (odA nw n kv cv pw))), (6, .int (nI (odB nw n n))), (3, .int what)]) (fun z hz ih10 ls hI => ?_) 0 (by omega) (lv_sub hl [1, 0, 2, 3, 7] rfl)
              have hl := hI
              have hl : lv_has ls 11 [(7, .int (nI ((gI (odA nw n kv cv pw, odB nw n n) z).1))), (8, .int (nI ((gI (odA nw n kv cv pw, odB nw n n) z).2))), (5, .int (nI (odA nw n kv cv pw))), (6, .int (nI (odB nw n n))), (3, .int what)] := hl
              have hgl := gI_le (S := (odA nw n kv cv pw, odB nw n n)) (M := 64000000) hoA (by show odB nw n n ≤ _; omega) z
              have hgd := gI_dec (S := (odA nw n kv cv pw, odB nw n n)) z
              refine lv_iload hx hb dX12_odds_254 (lv_at hl 1 rfl) ?_
              refine lv_if_eq (tgt := 277) hx hb dX12_odds_256 (by decide) (fun c11 => ?_) (fun c11 => ?_)
              · have hg0 : (gI (odA nw n kv cv pw, odB nw n n) z).2 = 0 := (nI_eq (by omega) (by omega)).mp c11
                have hgg : (gI (odA nw n kv cv pw, odB nw n n) z).1 = Nat.gcd (odA nw n kv cv pw) (odB nw n n) := by have y := gI_gcd (S := (odA nw n kv cv pw, odB nw n n)) z; rw [hg0, Nat.gcd_zero_left] at y; rw [y]; exact Nat.gcd_comm _ _
                have hgp : 0 < (gI (odA nw n kv cv pw, odB nw n n) z).1 := by rw [hgg]; exact Nat.gcd_pos_of_pos_right _ hoB1
                have hgne : ¬ nI (gI (odA nw n kv cv pw, odB nw n n) z).1 = 0 := nI_ne0 hgp (by omega)
                refine lv_iload_n hx hb dX12_odds_277 rfl (lv_at hl 4 rfl) ?_
                refine lv_if_ne (tgt := 286) hx hb dX12_odds_278 (by decide) (fun c12 => ?_) (fun c12 => ?_)
                · refine lv_iload hx hb dX12_odds_286 (lv_at hl 3 rfl) ?_
                  refine lv_iload hx hb dX12_odds_288 (lv_at hl 0 rfl) ?_
                  refine lv_idiv hx hb dX12_odds_290 hgne ?_
                  rw [pk_div (by omega) hgp (by omega)]
                  exact b_ret hx hb hr (by unfold m_odds; rw [if_neg (fun y => y c1), if_neg (fun y => y c2), if_neg (fun y => y c3), if_neg (fun y => y c4), if_neg c12, htk, htc, hgg]; unfold odAE; rw [← hpw2]) dX12_odds_291 hlocks
                · refine lv_iload hx hb dX12_odds_281 (lv_at hl 2 rfl) ?_
                  refine lv_goto (tgt := 288) hx hb dX12_odds_283 (by decide) ?_
                  refine lv_iload hx hb dX12_odds_288 (lv_at hl 0 rfl) ?_
                  refine lv_idiv hx hb dX12_odds_290 hgne ?_
                  rw [pk_div (by omega) hgp (by omega)]
                  exact b_ret hx hb hr (by unfold m_odds; rw [if_neg (fun y => y c1), if_neg (fun y => y c2), if_neg (fun y => y c3), if_neg (fun y => y c4), if_pos c12, htk, htc, hgg]; unfold odAE; rw [← hpw2]) dX12_odds_291 hlocks
              · have hg0 : (gI (odA nw n kv cv pw, odB nw n n) z).2 ≠ 0 := fun y => c11 (by rw [y]; rfl)
                have hgd2 : (gI (odA nw n kv cv pw, odB nw n n) z).2 + z ≤ odB nw n n := hgd.resolve_left hg0
                refine lv_iload hx hb dX12_odds_259 (lv_at hl 0 rfl) ?_
                refine lv_iload hx hb dX12_odds_261 (lv_at hl 1 rfl) ?_
                refine lv_irem hx hb dX12_odds_263 c11 ?_
                rw [pk_rem (by omega) (by omega) (by omega)]
                refine lv_istore (lv' := [(9, .int (nI ((gI (odA nw n kv cv pw, odB nw n n) z).1 % (gI (odA nw n kv cv pw, odB nw n n) z).2))), (7, .int (nI ((gI (odA nw n kv cv pw, odB nw n n) z).1))), (8, .int (nI ((gI (odA nw n kv cv pw, odB nw n n) z).2))), (5, .int (nI (odA nw n kv cv pw))), (6, .int (nI (odB nw n n))), (3, .int what)]) hx hb dX12_odds_264 hl (by decide) rfl (fun ls hl => ?_)
                refine lv_iload hx hb dX12_odds_266 (lv_at hl 2 rfl) ?_
                refine lv_istore (lv' := [(7, .int (nI ((gI (odA nw n kv cv pw, odB nw n n) z).2))), (9, .int (nI ((gI (odA nw n kv cv pw, odB nw n n) z).1 % (gI (odA nw n kv cv pw, odB nw n n) z).2))), (8, .int (nI ((gI (odA nw n kv cv pw, odB nw n n) z).2))), (5, .int (nI (odA nw n kv cv pw))), (6, .int (nI (odB nw n n))), (3, .int what)]) hx hb dX12_odds_268 hl (by decide) rfl (fun ls hl => ?_)
                refine lv_iload hx hb dX12_odds_270 (lv_at hl 1 rfl) ?_
                refine lv_istore (lv' := [(8, .int (nI ((gI (odA nw n kv cv pw, odB nw n n) z).1 % (gI (odA nw n kv cv pw, odB nw n n) z).2))), (7, .int (nI ((gI (odA nw n kv cv pw, odB nw n n) z).2))), (9, .int (nI ((gI (odA nw n kv cv pw, odB nw n n) z).1 % (gI (odA nw n kv cv pw, odB nw n n) z).2))), (5, .int (nI (odA nw n kv cv pw))), (6, .int (nI (odB nw n n))), (3, .int what)]) hx hb dX12_odds_272 hl (by decide) rfl (fun ls hl => ?_)
                refine lv_goto (tgt := 254) hx hb dX12_odds_274 (by decide) ?_
                have st13 : (nI ((gI (odA nw n kv cv pw, odB nw n n) z).2)) = (nI ((gI (odA nw n kv cv pw, odB nw n n) (z + 1)).1)) := (by rw [gI_1]; unfold gE; rw [if_neg hg0])
                rw [st13] at hl
                have st14 : (nI ((gI (odA nw n kv cv pw, odB nw n n) z).1 % (gI (odA nw n kv cv pw, odB nw n n) z).2)) = (nI ((gI (odA nw n kv cv pw, odB nw n n) (z + 1)).2)) := (by rw [gI_1]; unfold gE; rw [if_neg hg0])
                rw [st14] at hl
                exact ih10 (by omega) ls (lv_sub hl [1, 0, 3, 4, 5] rfl)
            · refine b_join (jpc := 126) (rest' := []) (P := fun v : Int32 => v = ((nI (if (nI g &&& (lvI nw n ^^^ (-1))) = 0 then 1 else 0)) : Int32)) (fun v15 ev15 => ?_) (fun K16 => ?_)
              · subst ev15
                refine lv_istore (lv' := [(8, .int (nI ((if (nI g &&& (lvI nw n ^^^ (-1))) = 0 then 1 else 0)))), (7, .int (nI (g))), (5, .int (nI (odA nw n kv cv g))), (6, .int (nI (odB nw n n))), (0, .ref (A0 0)), (1, .int (nI (kv))), (2, .int (nI (cv))), (3, .int what), (4, .int (lvI nw n))]) hx hb dX12_odds_126 hl (by decide) rfl (fun ls hl => ?_)
                refine lv_iconst (v := (nI 0)) hx hb dX12_odds_128 (by decide) ?_
                refine lv_istore (lv' := [(9, .int (nI 0)), (8, .int (nI ((if (nI g &&& (lvI nw n ^^^ (-1))) = 0 then 1 else 0)))), (7, .int (nI (g))), (5, .int (nI (odA nw n kv cv g))), (6, .int (nI (odB nw n n))), (0, .ref (A0 0)), (1, .int (nI (kv))), (2, .int (nI (cv))), (3, .int what), (4, .int (lvI nw n))]) hx hb dX12_odds_129 hl (by decide) rfl (fun ls hl => ?_)
                refine lv_iconst (v := (nI 0)) hx hb dX12_odds_131 (by decide) ?_
                refine lv_istore (lv' := [(10, .int (nI 0)), (9, .int (nI 0)), (8, .int (nI ((if (nI g &&& (lvI nw n ^^^ (-1))) = 0 then 1 else 0)))), (7, .int (nI (g))), (5, .int (nI (odA nw n kv cv g))), (6, .int (nI (odB nw n n))), (0, .ref (A0 0)), (1, .int (nI (kv))), (2, .int (nI (cv))), (3, .int what), (4, .int (lvI nw n))]) hx hb dX12_odds_132 hl (by decide) rfl (fun ls hl => ?_)
                refine b_loopR (N := n) (I := fun i ls => lv_has ls 11 [(10, .int (nI (i))), (8, .int (nI (odW nw n cv g i))), (9, .int (nI (odS nw g i))), (7, .int (nI (g))), (5, .int (nI (odA nw n kv cv g))), (6, .int (nI (odB nw n n))), (0, .ref (A0 0)), (1, .int (nI (kv))), (2, .int (nI (cv))), (3, .int what), (4, .int (lvI nw n))]) (fun i hi ih17 ls hI => ?_) 0 (by omega) (lv_sub hl [0, 2, 1, 3, 4, 5, 6, 7, 8, 9, 10] rfl)
                have hl := hI
                have hl : lv_has ls 11 [(10, .int (nI (i))), (8, .int (nI (odW nw n cv g i))), (9, .int (nI (odS nw g i))), (7, .int (nI (g))), (5, .int (nI (odA nw n kv cv g))), (6, .int (nI (odB nw n n))), (0, .ref (A0 0)), (1, .int (nI (kv))), (2, .int (nI (cv))), (3, .int what), (4, .int (lvI nw n))] := hl
                refine lv_iload hx hb dX12_odds_134 (lv_at hl 0 rfl) ?_
                refine lv_aload_n hx hb dX12_odds_136 rfl (lv_at hl 6 rfl) ?_
                refine va_get (D := D) (ci := 11) (v := .ref (A0 6)) (C := RX12) (T := TX12) (N := 21) hx hb hts u_X12_odds_X12 hown hK.1 hP 0 rfl rfl 13 (by decide) (hts (.fieldLink RX12 25 "NoticeWeekModel" "now" "[I") (List.mem_of_getElem? (i := 3) rfl)) (fun _ h9 => h9) rfl dX12_odds_137 ?_
                refine lv_iconst (v := (nI 3)) hx hb dX12_odds_140 (by decide) ?_
                refine b_ald hx hb hK hP 6 rfl (by omega) (by decide) dX12_odds_141 ?_
                rw [hW.2.1]
                refine b_ge (tgt := 223) hx hb (by omega) (by omega) dX12_odds_142 (by decide) (fun c18 => ?_) (fun c18 => ?_)
                · have h_i : n = i := by omega
                  subst h_i
                  have hS9 := odS_le (nw := nw) (g := g) n
                  refine lv_iload hx hb dX12_odds_223 (lv_at hl 4 rfl) ?_
                  refine b_join (jpc := 237) (rest' := [.int (nI (odA nw n kv cv g))]) (P := fun v : Int32 => v = ((nI (if kv ≤ odS nw g n then odW nw n cv g n else 0)) : Int32)) (fun v19 ev19 => ?_) (fun K20 => ?_)
                  · subst ev19
                    refine b_add hx hb dX12_odds_237 ?_
                    refine lv_istore (lv' := [(5, .int (nI (odA nw n kv cv g + (if kv ≤ odS nw g n then odW nw n cv g n else 0)))), (10, .int (nI (n))), (8, .int (nI (odW nw n cv g n))), (9, .int (nI (odS nw g n))), (7, .int (nI (g))), (6, .int (nI (odB nw n n))), (0, .ref (A0 0)), (1, .int (nI (kv))), (2, .int (nI (cv))), (3, .int what), (4, .int (lvI nw n))]) hx hb dX12_odds_238 hl (by decide) rfl (fun ls hl => ?_)
                    refine lv_iinc (v := (nI (g + 1))) (lv' := [(7, .int (nI (g + 1))), (5, .int (nI (odA nw n kv cv g + (if kv ≤ odS nw g n then odW nw n cv g n else 0)))), (10, .int (nI (n))), (8, .int (nI (odW nw n cv g n))), (9, .int (nI (odS nw g n))), (6, .int (nI (odB nw n n))), (0, .ref (A0 0)), (1, .int (nI (kv))), (2, .int (nI (cv))), (3, .int what), (4, .int (lvI nw n))]) hx hb dX12_odds_240 hl (k := 4) rfl (nI_add _ _) (by decide) rfl (fun ls hl => ?_)
                    refine lv_goto (tgt := 98) hx hb dX12_odds_243 (by decide) ?_
                    exact ih8 (by omega) ls (lv_sub hl [0, 1, 5, 6, 7, 8, 9, 10] rfl)
                  · refine lv_iload hx hb dX12_odds_225 (lv_at hl 2 rfl) ?_
                    refine lv_iload_n hx hb dX12_odds_227 rfl (lv_at hl 7 rfl) ?_
                    refine b_lt (tgt := 236) hx hb (by omega) (by omega) dX12_odds_228 (by decide) (fun c21 => ?_) (fun c21 => ?_)
                    · refine lv_iconst (v := (nI 0)) hx hb dX12_odds_236 (by decide) ?_
                      exact K20 _ (by first | rfl | (simp only [eq_true c1, eq_true c2, eq_true c3, eq_true c4, eq_true c7, eq_true c9, eq_true c18, eq_true c21, not_true_eq_false, not_false_eq_true, ite_true, ite_false, if_true, if_false, and_self, and_true, true_and, false_and, and_false, or_true, true_or, or_false, false_or]; done) | (congr 1; simp only [eq_true c1, eq_true c2, eq_true c3, eq_true c4, eq_true c7, eq_true c9, eq_true c18, eq_true c21, not_true_eq_false, not_false_eq_true, ite_true, ite_false, if_true, if_false, and_self, and_true, true_and, false_and, and_false, or_true, true_or, or_false, false_or]; done) | (congr 1; split <;> omega))
                    · refine lv_iload hx hb dX12_odds_231 (lv_at hl 1 rfl) ?_
                      refine lv_goto (tgt := 237) hx hb dX12_odds_233 (by decide) ?_
                      exact K20 _ (by first | rfl | (simp only [eq_true c1, eq_true c2, eq_true c3, eq_true c4, eq_true c7, eq_true c9, eq_true c18, eq_true c21, not_true_eq_false, not_false_eq_true, ite_true, ite_false, if_true, if_false, and_self, and_true, true_and, false_and, and_false, or_true, true_or, or_false, false_or]; done) | (congr 1; simp only [eq_true c1, eq_true c2, eq_true c3, eq_true c4, eq_true c7, eq_true c9, eq_true c18, eq_true c21, not_true_eq_false, not_false_eq_true, ite_true, ite_false, if_true, if_false, and_self, and_true, true_and, false_and, and_false, or_true, true_or, or_false, false_or]; done) | (congr 1; split <;> omega))
                · refine lv_iload hx hb dX12_odds_145 (lv_at hl 1 rfl) ?_
                  refine b_join (jpc := 179) (rest' := [.int (nI (odW nw n cv g i))]) (P := fun v : Int32 => v = ((nI (if ¬ hasb (lvI nw n) i then 1 else if hasb (nI g) i then cv else 10 - cv)) : Int32)) (fun v22 ev22 => ?_) (fun K23 => ?_)
                  · subst ev22
                    refine b_mul hx hb dX12_odds_179 ?_
                    refine lv_istore (lv' := [(8, .int (nI ((odW nw n cv g i) * (if ¬ hasb (lvI nw n) i then 1 else if hasb (nI g) i then cv else 10 - cv)))), (10, .int (nI (i))), (9, .int (nI (odS nw g i))), (7, .int (nI (g))), (5, .int (nI (odA nw n kv cv g))), (6, .int (nI (odB nw n n))), (0, .ref (A0 0)), (1, .int (nI (kv))), (2, .int (nI (cv))), (3, .int what), (4, .int (lvI nw n))]) hx hb dX12_odds_180 hl (by decide) rfl (fun ls hl => ?_)
                    refine lv_iload hx hb dX12_odds_182 (lv_at hl 2 rfl) ?_
                    refine b_join (jpc := 214) (rest' := [.int (nI (odS nw g i))]) (P := fun v : Int32 => v = ((nI (if fsI nw i (if hasb (nI g) i then 0 else 60) = 0 then 1 else 0)) : Int32)) (fun v24 ev24 => ?_) (fun K25 => ?_)
                    · subst ev24
                      refine b_add hx hb dX12_odds_214 ?_
                      refine lv_istore (lv' := [(9, .int (nI (odS nw g i + (if fsI nw i (if hasb (nI g) i then 0 else 60) = 0 then 1 else 0)))), (8, .int (nI ((odW nw n cv g i) * (if ¬ hasb (lvI nw n) i then 1 else if hasb (nI g) i then cv else 10 - cv)))), (10, .int (nI (i))), (7, .int (nI (g))), (5, .int (nI (odA nw n kv cv g))), (6, .int (nI (odB nw n n))), (0, .ref (A0 0)), (1, .int (nI (kv))), (2, .int (nI (cv))), (3, .int what), (4, .int (lvI nw n))]) hx hb dX12_odds_215 hl (by decide) rfl (fun ls hl => ?_)
                      refine lv_iinc (v := (nI (i + 1))) (lv' := [(10, .int (nI (i + 1))), (9, .int (nI (odS nw g i + (if fsI nw i (if hasb (nI g) i then 0 else 60) = 0 then 1 else 0)))), (8, .int (nI ((odW nw n cv g i) * (if ¬ hasb (lvI nw n) i then 1 else if hasb (nI g) i then cv else 10 - cv)))), (7, .int (nI (g))), (5, .int (nI (odA nw n kv cv g))), (6, .int (nI (odB nw n n))), (0, .ref (A0 0)), (1, .int (nI (kv))), (2, .int (nI (cv))), (3, .int what), (4, .int (lvI nw n))]) hx hb dX12_odds_217 hl (k := 2) rfl (nI_add _ _) (by decide) rfl (fun ls hl => ?_)
                      refine lv_goto (tgt := 134) hx hb dX12_odds_220 (by decide) ?_
                      exact ih17 (by omega) ls (lv_sub hl [0, 2, 1, 3, 4, 5, 6, 7, 8, 9, 10] rfl)
                    · refine lv_aload_n hx hb dX12_odds_184 rfl (lv_at hl 6 rfl) ?_
                      refine lv_iload hx hb dX12_odds_185 (lv_at hl 1 rfl) ?_
                      refine b_join (jpc := 203) (rest' := [.int (nI (i)), .ref (A0 0), .int (nI (odS nw g i))]) (P := fun v : Int32 => v = ((nI (if hasb (nI g) i then 0 else 60)) : Int32)) (fun v26 ev26 => ?_) (fun K27 => ?_)
                      · subst ev26
                        refine b_call (va_runV (As := [.int (nI (i)), .int (nI ((if hasb (nI g) i then 0 else 60)))]) (rest := [.int (nI (odS nw g i))]) ⟨hx, hb, hml, hown, hts⟩ (c_X12_falseIn l D cI cZ cT A0 ss tp fk fp ap sp tk vl ac tr la ma it sr bt nw dr pa im kp tc i (if hasb (nI g) i then 0 else 60) n (by omega) (by split <;> omega) hW) (cwV 2 hts gX12_odds_X12_falseIn rfl rfl rfl (by decide +kernel) ⟨(Nat.le_of_ble_eq_true rfl), (Nat.le_of_ble_eq_true rfl)⟩) (b_pV hK hP [0, 1, 2, 3, 4, 5, 6, 7, 8, 9, 10, 11] rfl 0 rfl rfl) rfl rfl hl.1 rfl (lv_room (Nat.le_of_ble_eq_true rfl)) dX12_odds_203 ⟨Nat.zero_le _, Nat.zero_le _⟩).run ?_
                        refine lv_if_ne (tgt := 213) hx hb dX12_odds_206 (by decide) (fun c28 => ?_) (fun c28 => ?_)
                        · refine lv_iconst (v := (nI 0)) hx hb dX12_odds_213 (by decide) ?_
                          exact K25 _ (by first | rfl | (simp only [eq_true c1, eq_true c2, eq_true c3, eq_true c4, eq_true c7, eq_true c9, eq_true c18, eq_false c28, not_true_eq_false, not_false_eq_true, ite_true, ite_false, if_true, if_false, and_self, and_true, true_and, false_and, and_false, or_true, true_or, or_false, false_or]; done) | (congr 1; simp only [eq_true c1, eq_true c2, eq_true c3, eq_true c4, eq_true c7, eq_true c9, eq_true c18, eq_false c28, not_true_eq_false, not_false_eq_true, ite_true, ite_false, if_true, if_false, and_self, and_true, true_and, false_and, and_false, or_true, true_or, or_false, false_or]; done) | (congr 1; split <;> omega))
                        · refine lv_iconst (v := (nI 1)) hx hb dX12_odds_209 (by decide) ?_
                          refine lv_goto (tgt := 214) hx hb dX12_odds_210 (by decide) ?_
                          exact K25 _ (by first | rfl | (simp only [eq_true c1, eq_true c2, eq_true c3, eq_true c4, eq_true c7, eq_true c9, eq_true c18, eq_true c28, not_true_eq_false, not_false_eq_true, ite_true, ite_false, if_true, if_false, and_self, and_true, true_and, false_and, and_false, or_true, true_or, or_false, false_or]; done) | (congr 1; simp only [eq_true c1, eq_true c2, eq_true c3, eq_true c4, eq_true c7, eq_true c9, eq_true c18, eq_true c28, not_true_eq_false, not_false_eq_true, ite_true, ite_false, if_true, if_false, and_self, and_true, true_and, false_and, and_false, or_true, true_or, or_false, false_or]; done) | (congr 1; split <;> omega))
                      · refine lv_iload hx hb dX12_odds_187 (lv_at hl 3 rfl) ?_
                        refine lv_iload hx hb dX12_odds_189 (lv_at hl 1 rfl) ?_
                        refine b_call (va_runS (As := [.int (nI (g)), .int (nI (i))]) (rest := [.int (nI (i)), .ref (A0 0), .int (nI (odS nw g i))]) ⟨hx, hb, hml, hown, hts⟩ (c_X12_has l D cI cZ cT (nI (g)) i) (va_cwS 2 hts gX12_odds_X12_has rfl rfl rfl (by decide +kernel) ⟨(Nat.le_of_ble_eq_true rfl), (Nat.le_of_ble_eq_true rfl)⟩) (b_pS0 hK) rfl rfl hl.1 rfl (lv_room (Nat.le_of_ble_eq_true rfl)) dX12_odds_191 ⟨Nat.zero_le _, Nat.zero_le _⟩).run ?_
                        refine b_ifeq (tgt := 201) hx hb dX12_odds_194 (by decide) (fun c29 => ?_) (fun c29 => ?_)
                        · refine lv_bipush (v := (nI 60)) hx hb dX12_odds_201 (by decide) ?_
                          exact K27 _ (by first | rfl | (simp only [eq_true c1, eq_true c2, eq_true c3, eq_true c4, eq_true c7, eq_true c9, eq_true c18, eq_false c29, not_true_eq_false, not_false_eq_true, ite_true, ite_false, if_true, if_false, and_self, and_true, true_and, false_and, and_false, or_true, true_or, or_false, false_or]; done) | (congr 1; simp only [eq_true c1, eq_true c2, eq_true c3, eq_true c4, eq_true c7, eq_true c9, eq_true c18, eq_false c29, not_true_eq_false, not_false_eq_true, ite_true, ite_false, if_true, if_false, and_self, and_true, true_and, false_and, and_false, or_true, true_or, or_false, false_or]; done) | (congr 1; split <;> omega))
                        · refine lv_iconst (v := (nI 0)) hx hb dX12_odds_197 (by decide) ?_
                          refine lv_goto (tgt := 203) hx hb dX12_odds_198 (by decide) ?_
                          exact K27 _ (by first | rfl | (simp only [eq_true c1, eq_true c2, eq_true c3, eq_true c4, eq_true c7, eq_true c9, eq_true c18, eq_true c29, not_true_eq_false, not_false_eq_true, ite_true, ite_false, if_true, if_false, and_self, and_true, true_and, false_and, and_false, or_true, true_or, or_false, false_or]; done) | (congr 1; simp only [eq_true c1, eq_true c2, eq_true c3, eq_true c4, eq_true c7, eq_true c9, eq_true c18, eq_true c29, not_true_eq_false, not_false_eq_true, ite_true, ite_false, if_true, if_false, and_self, and_true, true_and, false_and, and_false, or_true, true_or, or_false, false_or]; done) | (congr 1; split <;> omega))
                  · refine lv_iload hx hb dX12_odds_147 (lv_at hl 10 rfl) ?_
                    refine lv_iload hx hb dX12_odds_149 (lv_at hl 0 rfl) ?_
                    refine b_call (va_runS (As := [.int (lvI nw n), .int (nI (i))]) (rest := [.int (nI (odW nw n cv g i))]) ⟨hx, hb, hml, hown, hts⟩ (c_X12_has l D cI cZ cT (lvI nw n) i) (va_cwS 2 hts gX12_odds_X12_has rfl rfl rfl (by decide +kernel) ⟨(Nat.le_of_ble_eq_true rfl), (Nat.le_of_ble_eq_true rfl)⟩) (b_pS0 hK) rfl rfl hl.1 rfl (lv_room (Nat.le_of_ble_eq_true rfl)) dX12_odds_151 ⟨Nat.zero_le _, Nat.zero_le _⟩).run ?_
                    refine b_ifne (tgt := 161) hx hb dX12_odds_154 (by decide) (fun c30 => ?_) (fun c30 => ?_)
                    · refine lv_iload hx hb dX12_odds_161 (lv_at hl 3 rfl) ?_
                      refine lv_iload hx hb dX12_odds_163 (lv_at hl 0 rfl) ?_
                      refine b_call (va_runS (As := [.int (nI (g)), .int (nI (i))]) (rest := [.int (nI (odW nw n cv g i))]) ⟨hx, hb, hml, hown, hts⟩ (c_X12_has l D cI cZ cT (nI (g)) i) (va_cwS 2 hts gX12_odds_X12_has rfl rfl rfl (by decide +kernel) ⟨(Nat.le_of_ble_eq_true rfl), (Nat.le_of_ble_eq_true rfl)⟩) (b_pS0 hK) rfl rfl hl.1 rfl (lv_room (Nat.le_of_ble_eq_true rfl)) dX12_odds_165 ⟨Nat.zero_le _, Nat.zero_le _⟩).run ?_
                      refine b_ifeq (tgt := 175) hx hb dX12_odds_168 (by decide) (fun c31 => ?_) (fun c31 => ?_)
                      · refine lv_bipush (v := (nI 10)) hx hb dX12_odds_175 (by decide) ?_
                        refine lv_iload_n hx hb dX12_odds_177 rfl (lv_at hl 8 rfl) ?_
                        refine b_sub hx hb (by omega) dX12_odds_178 ?_
                        exact K23 _ (by first | rfl | (simp only [eq_true c1, eq_true c2, eq_true c3, eq_true c4, eq_true c7, eq_true c9, eq_true c18, eq_true c30, eq_false c31, not_true_eq_false, not_false_eq_true, ite_true, ite_false, if_true, if_false, and_self, and_true, true_and, false_and, and_false, or_true, true_or, or_false, false_or]; done) | (congr 1; simp only [eq_true c1, eq_true c2, eq_true c3, eq_true c4, eq_true c7, eq_true c9, eq_true c18, eq_true c30, eq_false c31, not_true_eq_false, not_false_eq_true, ite_true, ite_false, if_true, if_false, and_self, and_true, true_and, false_and, and_false, or_true, true_or, or_false, false_or]; done) | (congr 1; split <;> omega))
                      · refine lv_iload_n hx hb dX12_odds_171 rfl (lv_at hl 8 rfl) ?_
                        refine lv_goto (tgt := 179) hx hb dX12_odds_172 (by decide) ?_
                        exact K23 _ (by first | rfl | (simp only [eq_true c1, eq_true c2, eq_true c3, eq_true c4, eq_true c7, eq_true c9, eq_true c18, eq_true c30, eq_true c31, not_true_eq_false, not_false_eq_true, ite_true, ite_false, if_true, if_false, and_self, and_true, true_and, false_and, and_false, or_true, true_or, or_false, false_or]; done) | (congr 1; simp only [eq_true c1, eq_true c2, eq_true c3, eq_true c4, eq_true c7, eq_true c9, eq_true c18, eq_true c30, eq_true c31, not_true_eq_false, not_false_eq_true, ite_true, ite_false, if_true, if_false, and_self, and_true, true_and, false_and, and_false, or_true, true_or, or_false, false_or]; done) | (congr 1; split <;> omega))
                    · refine lv_iconst (v := (nI 1)) hx hb dX12_odds_157 (by decide) ?_
                      refine lv_goto (tgt := 179) hx hb dX12_odds_158 (by decide) ?_
                      exact K23 _ (by first | rfl | (simp only [eq_true c1, eq_true c2, eq_true c3, eq_true c4, eq_true c7, eq_true c9, eq_true c18, eq_false c30, not_true_eq_false, not_false_eq_true, ite_true, ite_false, if_true, if_false, and_self, and_true, true_and, false_and, and_false, or_true, true_or, or_false, false_or]; done) | (congr 1; simp only [eq_true c1, eq_true c2, eq_true c3, eq_true c4, eq_true c7, eq_true c9, eq_true c18, eq_false c30, not_true_eq_false, not_false_eq_true, ite_true, ite_false, if_true, if_false, and_self, and_true, true_and, false_and, and_false, or_true, true_or, or_false, false_or]; done) | (congr 1; split <;> omega))
              · refine lv_iload hx hb dX12_odds_111 (lv_at hl 0 rfl) ?_
                refine lv_iload hx hb dX12_odds_113 (lv_at hl 7 rfl) ?_
                refine lv_iconst (v := (-1)) hx hb dX12_odds_115 (by decide) ?_
                refine lv_ixor hx hb dX12_odds_116 ?_
                refine lv_iand hx hb dX12_odds_117 ?_
                refine lv_if_ne (tgt := 125) hx hb dX12_odds_118 (by decide) (fun c32 => ?_) (fun c32 => ?_)
                · refine lv_iconst (v := (nI 0)) hx hb dX12_odds_125 (by decide) ?_
                  exact K16 _ (by first | rfl | (simp only [eq_true c1, eq_true c2, eq_true c3, eq_true c4, eq_true c7, eq_true c9, eq_false c32, not_true_eq_false, not_false_eq_true, ite_true, ite_false, if_true, if_false, and_self, and_true, true_and, false_and, and_false, or_true, true_or, or_false, false_or]; done) | (congr 1; simp only [eq_true c1, eq_true c2, eq_true c3, eq_true c4, eq_true c7, eq_true c9, eq_false c32, not_true_eq_false, not_false_eq_true, ite_true, ite_false, if_true, if_false, and_self, and_true, true_and, false_and, and_false, or_true, true_or, or_false, false_or]; done) | (congr 1; split <;> omega))
                · refine lv_iconst (v := (nI 1)) hx hb dX12_odds_121 (by decide) ?_
                  refine lv_goto (tgt := 126) hx hb dX12_odds_122 (by decide) ?_
                  exact K16 _ (by first | rfl | (simp only [eq_true c1, eq_true c2, eq_true c3, eq_true c4, eq_true c7, eq_true c9, eq_true c32, not_true_eq_false, not_false_eq_true, ite_true, ite_false, if_true, if_false, and_self, and_true, true_and, false_and, and_false, or_true, true_or, or_false, false_or]; done) | (congr 1; simp only [eq_true c1, eq_true c2, eq_true c3, eq_true c4, eq_true c7, eq_true c9, eq_true c32, not_true_eq_false, not_false_eq_true, ite_true, ite_false, if_true, if_false, and_self, and_true, true_and, false_and, and_false, or_true, true_or, or_false, false_or]; done) | (congr 1; split <;> omega))
          · refine lv_iload hx hb dX12_odds_68 (lv_at hl 2 rfl) ?_
            refine b_join (jpc := 86) (rest' := [.int (nI (odB nw n k))]) (P := fun v : Int32 => v = ((nI (if hasb (lvI nw n) k then 10 else 1)) : Int32)) (fun v33 ev33 => ?_) (fun K34 => ?_)
            · subst ev33
              refine b_mul hx hb dX12_odds_86 ?_
              refine lv_istore (lv' := [(6, .int (nI ((odB nw n k) * (if hasb (lvI nw n) k then 10 else 1)))), (7, .int (nI (k))), (5, .int (nI (0))), (0, .ref (A0 0)), (1, .int (nI (kv))), (2, .int (nI (cv))), (3, .int what), (4, .int (lvI nw n))]) hx hb dX12_odds_87 hl (by decide) rfl (fun ls hl => ?_)
              refine lv_iinc (v := (nI (k + 1))) (lv' := [(7, .int (nI (k + 1))), (6, .int (nI ((odB nw n k) * (if hasb (lvI nw n) k then 10 else 1)))), (5, .int (nI (0))), (0, .ref (A0 0)), (1, .int (nI (kv))), (2, .int (nI (cv))), (3, .int what), (4, .int (lvI nw n))]) hx hb dX12_odds_89 hl (k := 1) rfl (nI_add _ _) (by decide) rfl (fun ls hl => ?_)
              refine lv_goto (tgt := 57) hx hb dX12_odds_92 (by decide) ?_
              exact ih6 (by omega) ls (lv_sub hl [0, 2, 1, 3, 4, 5, 6, 7] rfl)
            · refine lv_iload hx hb dX12_odds_70 (lv_at hl 7 rfl) ?_
              refine lv_iload hx hb dX12_odds_72 (lv_at hl 0 rfl) ?_
              refine b_call (va_runS (As := [.int (lvI nw n), .int (nI (k))]) (rest := [.int (nI (odB nw n k))]) ⟨hx, hb, hml, hown, hts⟩ (c_X12_has l D cI cZ cT (lvI nw n) k) (va_cwS 2 hts gX12_odds_X12_has rfl rfl rfl (by decide +kernel) ⟨(Nat.le_of_ble_eq_true rfl), (Nat.le_of_ble_eq_true rfl)⟩) (b_pS0 hK) rfl rfl hl.1 rfl (lv_room (Nat.le_of_ble_eq_true rfl)) dX12_odds_74 ⟨Nat.zero_le _, Nat.zero_le _⟩).run ?_
              refine b_ifeq (tgt := 85) hx hb dX12_odds_77 (by decide) (fun c35 => ?_) (fun c35 => ?_)
              · refine lv_iconst (v := (nI 1)) hx hb dX12_odds_85 (by decide) ?_
                exact K34 _ (by first | rfl | (simp only [eq_true c1, eq_true c2, eq_true c3, eq_true c4, eq_true c7, eq_false c35, not_true_eq_false, not_false_eq_true, ite_true, ite_false, if_true, if_false, and_self, and_true, true_and, false_and, and_false, or_true, true_or, or_false, false_or]; done) | (congr 1; simp only [eq_true c1, eq_true c2, eq_true c3, eq_true c4, eq_true c7, eq_false c35, not_true_eq_false, not_false_eq_true, ite_true, ite_false, if_true, if_false, and_self, and_true, true_and, false_and, and_false, or_true, true_or, or_false, false_or]; done) | (congr 1; split <;> omega))
              · refine lv_bipush (v := (nI 10)) hx hb dX12_odds_80 (by decide) ?_
                refine lv_goto (tgt := 86) hx hb dX12_odds_82 (by decide) ?_
                exact K34 _ (by first | rfl | (simp only [eq_true c1, eq_true c2, eq_true c3, eq_true c4, eq_true c7, eq_true c35, not_true_eq_false, not_false_eq_true, ite_true, ite_false, if_true, if_false, and_self, and_true, true_and, false_and, and_false, or_true, true_or, or_false, false_or]; done) | (congr 1; simp only [eq_true c1, eq_true c2, eq_true c3, eq_true c4, eq_true c7, eq_true c35, not_true_eq_false, not_false_eq_true, ite_true, ite_false, if_true, if_false, and_self, and_true, true_and, false_and, and_false, or_true, true_or, or_false, false_or]; done) | (congr 1; split <;> omega))
        · refine lv_ldc (v := (-1000001)) hx hb hown (hts (.constant RX12 58 (-1000001)) (List.mem_of_getElem? (i := 2) rfl)) dX12_odds_39 ?_
          exact b_ret hx hb hr (by first | (simp only [m_odds, eq_true c1, eq_true c2, eq_true c3, eq_false c4, bI, not_true_eq_false, not_false_eq_true, ite_true, ite_false, if_true, if_false, and_self, and_true, true_and, false_and, and_false, or_true, true_or, or_false, false_or, eq_self]; done) | (simp [m_odds, eq_true c1, eq_true c2, eq_true c3, eq_false c4, bI]; done)) dX12_odds_41 hlocks
  · refine lv_ldc (v := (-1000002)) hx hb hown (hts (.constant RX12 159 (-1000002)) (List.mem_of_getElem? (i := 1) rfl)) dX12_odds_7 ?_
    exact b_ret hx hb hr (by first | (simp only [m_odds, eq_false c1, bI, not_true_eq_false, not_false_eq_true, ite_true, ite_false, if_true, if_false, and_self, and_true, true_and, false_and, and_false, or_true, true_or, or_false, false_or, eq_self]; done) | (simp [m_odds, eq_false c1, bI]; done)) dX12_odds_9 hlocks
