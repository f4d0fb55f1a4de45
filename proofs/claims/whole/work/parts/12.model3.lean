/-! MODEL: readers, the town -/
def PSok (t : Nat) (σ : PS) : Prop := σ.2.1 ≤ t
theorem adA_le {bt : Nat → Int32} {t a : Nat} (h : a ≤ t) : adA bt t a ≤ t := by
  have hr : ∀ (n a : Nat), rl bt t a n ≤ n := by
    intro n
    induction n with
    | zero => intro a; exact Nat.le_refl 0
    | succ n ih => intro a; rw [rl]; split
                   · have := ih (a + 1); omega
                   · omega
  unfold adA
  split
  · have := hr (t - a) a; omega
  · split
    · rename_i h1 h2
      by_cases ha : a < t
      · omega
      · unfold byt at h2; rw [if_neg ha] at h2; exact absurd h2 (by decide)
    · exact h
theorem pTake_ok {bt : Nat → Int32} {t : Nat} {is kd : Int32} {σ : PS} (h : PSok t σ) : PSok t (pTake bt t is kd σ).2 := by
  unfold pTake
  split
  · exact h
  · split
    · exact h
    · exact adA_le h
theorem pFig_ok {bt : Nat → Int32} {t : Nat} {lo hi : Int32} {σ : PS} (h : PSok t σ) : PSok t (pFig bt t lo hi σ).2 := by
  unfold pFig; split <;> exact pTake_ok h
theorem pNext_ok {bt : Nat → Int32} {t : Nat} {lo hi : Int32} {σ : PS} (h : PSok t σ) : PSok t (pNext bt t lo hi σ).2 := pFig_ok (pTake_ok h)
abbrev pWell (σ : PS) : Prop := σ.2.2.2.2.2 < 0
/-- the five steps of a reader's text -/
def pR1 (bt : Nat → Int32) (t n : Nat) (σ : PS) : Int32 × PS := pTake bt t (bI (n < 6)) 3 σ
def pR2 (bt : Nat → Int32) (t n : Nat) (σ : PS) : Int32 × PS := pFig bt t 0 63 (pR1 bt t n σ).2
def pR3 (bt : Nat → Int32) (t n : Nat) (σ : PS) : Int32 × PS := pNext bt t 0 63 (pR2 bt t n σ).2
def pR4 (bt : Nat → Int32) (t n : Nat) (σ : PS) : Int32 × PS := pNext bt t 0 60 (pR3 bt t n σ).2
def pR5 (bt : Nat → Int32) (t n : Nat) (σ : PS) : Int32 × PS := pTake bt t (bI ((pR4 bt t n σ).2.2.2.1 = 4)) 1 (pR4 bt t n σ).2
abbrev plc (n : Nat) : Nat := 4 + 4 * (if n < 6 then n else 0)
def pDr (dr : Nat → Int32) (n : Nat) (kd did nt dy : Int32) : Nat → Int32 := upd (upd (upd (upd (upd dr (plc n) kd) (plc n + 1) did) (plc n + 2) nt) (plc n + 3) dy) 3 (nI (n + 1))
def pRead (bt : Nat → Int32) (t n : Nat) (σ : PS) (dr : Nat → Int32) : PS × (Nat → Int32) :=
  if pWell (pR5 bt t n σ).2 then ((pR5 bt t n σ).2, pDr dr n (kindOf σ.2.2.2.1) (pR2 bt t n σ).1 (pR3 bt t n σ).1 (pR4 bt t n σ).1) else ((pR5 bt t n σ).2, dr)
theorem u_X12_takes_X12 : ∀ w ∈ wsX120, w ∈ wsX12_takes := fun _ h => List.mem_cons_of_mem _ (List.mem_append_right _ h)
set_option maxHeartbeats 4000000 in
set_option maxRecDepth 100000 in
theorem c_X12_takes (l : Launch) (D : va_G) (cI cZ cT : ClassId) (A0 : Nat → Nat) (ss : Int32) (t : Nat) (ac tr : Int32) (la ma it sr bt nw dr pa im kp tc : Nat → Int32) (σ : PS) (is kd : Int32) (ht : t ≤ 120) (ha : PSok t σ) : Met l yX12_takes wsX12_takes ({ frames := 2, cells := 0, slots := 0, locals := 43 }) (pM D cI cZ cT [.ref (A0 0), .int is, .int kd] (wM cI cZ A0 ss (nI t) σ.2.2.2.2.1 σ.2.2.2.2.2 (nI σ.2.1) (nI σ.1) σ.2.2.1 σ.2.2.2.1 ac tr la ma it sr bt nw dr pa im kp tc)) (qM D (some (.int ((pTake bt t is kd σ).1))) (wM cI cZ A0 ss (nI t) ((pTake bt t is kd σ).2.2.2.2.2.1) ((pTake bt t is kd σ).2.2.2.2.2.2) (nI (pTake bt t is kd σ).2.2.1) (nI (pTake bt t is kd σ).2.1) ((pTake bt t is kd σ).2.2.2.1) ((pTake bt t is kd σ).2.2.2.2.1) ac tr la ma it sr bt nw dr pa im kp tc) (adr (wM cI cZ A0 ss (nI t) σ.2.2.2.2.1 σ.2.2.2.2.2 (nI σ.2.1) (nI σ.1) σ.2.2.1 σ.2.2.2.1 ac tr la ma it sr bt nw dr pa im kp tc))) 0 0 (adr (wM cI cZ A0 ss (nI t) σ.2.2.2.2.1 σ.2.2.2.2.2 (nI σ.2.1) (nI σ.1) σ.2.2.1 σ.2.2.2.1 ac tr la ma it sr bt nw dr pa im kp tc)) := by
  refine Met.ofW (cc := cX12_takes) (maxL := 4) (ret := (some .int)) (by decide) rfl ?_
  intro p e s m args below meth c s₁ B hml hv
  obtain ⟨rfl, hP, hD0, hK⟩ := hv
  have hx := B.exec
  have hb := B.bytes
  have hr := B.returns
  have hts := atoms_spec (ws := wsX12_takes) B.pre
  have hown : s.vm.findClass RX12 = some m.cls := findClass_of_methodNamed B.named
  have hlocks := B.notSynchronized
  have hD := hD0.toAdr
  have hS : va_S (adr (wM cI cZ A0 ss (nI t) σ.2.2.2.2.1 σ.2.2.2.2.2 (nI σ.2.1) (nI σ.1) σ.2.2.1 σ.2.2.2.1 ac tr la ma it sr bt nw dr pa im kp tc)) s.heap s.heap [] := va_S.rf
  generalize adr (wM cI cZ A0 ss (nI t) σ.2.2.2.2.1 σ.2.2.2.2.2 (nI σ.2.1) (nI σ.1) σ.2.2.1 σ.2.2.2.1 ac tr la ma it sr bt nw dr pa im kp tc) = A at hD hS ⊢
  have hl := lv_entry ([.ref (A0 0), .int is, .int kd]) (n := 4) (Nat.le_of_ble_eq_true rfl)
  rw [lg_entry_eq]
  generalize (lg_sl ([.ref (A0 0), .int is, .int kd]) ++ List.replicate (4 - (lg_sl ([.ref (A0 0), .int is, .int kd])).length) Slot.unset).toArray = ls at hl ⊢
  have hl : lv_has ls 4 [(0, .ref (A0 0)), (1, .int is), (2, .int kd)] := hl
  refine lv_aload_n hx hb dX12_takes_0 rfl (lv_at hl 0 rfl) ?_
  refine b_call (va_runV (As := []) (rest := []) ⟨hx, hb, hml, hown, hts⟩ (c_X12_isWell l D cI cZ cT A0 ss (nI t) σ.2.2.2.2.1 σ.2.2.2.2.2 (nI σ.2.1) (nI σ.1) σ.2.2.1 σ.2.2.2.1 ac tr la ma it sr bt nw dr pa im kp tc) (cwV 0 hts gX12_takes_X12_isWell rfl rfl rfl (by decide +kernel) ⟨(Nat.le_of_ble_eq_true rfl), (Nat.le_of_ble_eq_true rfl)⟩) (b_pV hK hP [0, 1, 2, 3, 4, 5, 6, 7, 8, 9, 10, 11] rfl 0 rfl rfl) rfl rfl hl.1 rfl (lv_room (Nat.le_of_ble_eq_true rfl)) dX12_takes_1 ⟨Nat.zero_le _, Nat.zero_le _⟩).run ?_
  refine b_ifne (tgt := 9) hx hb dX12_takes_4 (by decide) (fun c1 => ?_) (fun c1 => ?_)
  · refine lv_iload_n hx hb dX12_takes_9 rfl (lv_at hl 1 rfl) ?_
    refine lv_if_ne (tgt := 28) hx hb dX12_takes_10 (by decide) (fun c2 => ?_) (fun c2 => ?_)
    · refine lv_aload_n hx hb dX12_takes_28 rfl (lv_at hl 0 rfl) ?_
      refine va_get (D := D) (ci := 11) (v := .int σ.2.2.2.1) (C := RX12) (T := TX12) (N := 21) hx hb hts u_X12_takes_X12 hown hK.1 hP 0 rfl rfl 12 (by decide) (hts (.fieldLink RX12 89 "NoticeWeekModel" "value" "I") (List.mem_of_getElem? (i := 4) rfl)) (fun _ h9 => h9) rfl dX12_takes_29 ?_
      refine lv_istore_n (lv' := [(3, .int σ.2.2.2.1), (0, .ref (A0 0)), (1, .int is), (2, .int kd)]) hx hb dX12_takes_32 rfl hl (by decide) rfl (fun ls hl => ?_)
      refine lv_aload_n hx hb dX12_takes_33 rfl (lv_at hl 1 rfl) ?_
      refine b_callM [0, 1, 2, 3, 4, 5, 6, 7, 8, 9, 10, 11] (va_runV (As := []) (rest := []) ⟨hx, hb, hml, hown, hts⟩ (c_X12_advances l D cI cZ cT A0 ss t σ.2.2.2.2.1 σ.2.2.2.2.2 σ.2.1 (nI σ.1) σ.2.2.1 σ.2.2.2.1 ac tr la ma it sr bt nw dr pa im kp tc ht ha) (cwV 0 hts gX12_takes_X12_advances rfl rfl rfl (by decide +kernel) ⟨(Nat.le_of_ble_eq_true rfl), (Nat.le_of_ble_eq_true rfl)⟩) (b_pVM hK hP hD [0, 1, 2, 3, 4, 5, 6, 7, 8, 9, 10, 11] (by decide) rfl rfl 0 rfl rfl) rfl rfl hl.1 rfl (lv_room (Nat.le_of_ble_eq_true rfl)) dX12_takes_34 ⟨Nat.zero_le _, Nat.zero_le _⟩).run hP hD hS rfl (Nat.le_of_ble_eq_true rfl) (fun H locs hP hS => ?_)
      have hP : va_P D vwCl (wM cI cZ A0 ss (nI t) σ.2.2.2.2.1 σ.2.2.2.2.2 (nI (adv bt t σ.2.1).1) (nI σ.2.1) ((adv bt t σ.2.1).2.1) ((adv bt t σ.2.1).2.2) ac tr la ma it sr bt nw dr pa im kp tc) H := hP
      generalize eq34 : adv bt t σ.2.1 = q34 at hP ⊢
      have hP : va_P D vwCl (wM cI cZ A0 ss (nI t) σ.2.2.2.2.1 σ.2.2.2.2.2 (nI q34.1) (nI σ.2.1) q34.2.1 q34.2.2 ac tr la ma it sr bt nw dr pa im kp tc) H := hP
      have hD : va_D A (wM cI cZ A0 ss (nI t) σ.2.2.2.2.1 σ.2.2.2.2.2 (nI q34.1) (nI σ.2.1) q34.2.1 q34.2.2 ac tr la ma it sr bt nw dr pa im kp tc) := hD.sameA [(A0 0), (A0 1), (A0 2), (A0 3), (A0 4), (A0 5), (A0 6), (A0 7), (A0 8), (A0 9), (A0 10), (A0 11)] rfl rfl
      refine lv_iload_n hx hb dX12_takes_37 rfl (lv_at hl 0 rfl) ?_
      have E : pTake bt t is kd σ = (σ.2.2.2.1, σ.2.1, q34.1, q34.2.1, q34.2.2, σ.2.2.2.2.1, σ.2.2.2.2.2) := (by subst eq34; first | (simp only [pTake, adv, eq_true c1, eq_false c2, bI, not_true_eq_false, not_false_eq_true, ite_true, ite_false, if_true, if_false, and_self, and_true, true_and, false_and, and_false, or_true, true_or, or_false, false_or, eq_self]; done) | (simp [pTake, adv, eq_true c1, eq_false c2, bI]; done))
      rw [E]
      exact b_retM hx hb hr hP hS rfl dX12_takes_38 hlocks
    · refine lv_aload_n hx hb dX12_takes_13 rfl (lv_at hl 0 rfl) ?_
      refine lv_aload_n hx hb dX12_takes_14 rfl (lv_at hl 0 rfl) ?_
      refine va_get (D := D) (ci := 11) (v := .int (nI (σ.1))) (C := RX12) (T := TX12) (N := 21) hx hb hts u_X12_takes_X12 hown hK.1 hP 0 rfl rfl 10 (by decide) (hts (.fieldLink RX12 83 "NoticeWeekModel" "start" "I") (List.mem_of_getElem? (i := 1) rfl)) (fun _ h9 => h9) rfl dX12_takes_15 ?_
      refine b_put (C := RX12) (T := TX12) (N := 21) hx hb hts u_X12_takes_X12 tyX12 tyX12_ok nmX12 hown hK hP hD hS 0 rfl rfl 8 (by decide) (hts (.fieldLink RX12 95 "NoticeWeekModel" "faultPlace" "I") (List.mem_of_getElem? (i := 2) rfl)) rfl (by decide +kernel) (Nat.le_of_ble_eq_true rfl) dX12_takes_18 (fun H locs hP hS => ?_)
      have hP : va_P D vwCl (wM cI cZ A0 ss (nI t) σ.2.2.2.2.1 (nI (σ.1)) (nI σ.2.1) (nI σ.1) σ.2.2.1 σ.2.2.2.1 ac tr la ma it sr bt nw dr pa im kp tc) H := hP
      have hD : va_D A (wM cI cZ A0 ss (nI t) σ.2.2.2.2.1 (nI (σ.1)) (nI σ.2.1) (nI σ.1) σ.2.2.1 σ.2.2.2.1 ac tr la ma it sr bt nw dr pa im kp tc) := hD.sameA [(A0 0), (A0 1), (A0 2), (A0 3), (A0 4), (A0 5), (A0 6), (A0 7), (A0 8), (A0 9), (A0 10), (A0 11)] rfl rfl
      refine lv_aload_n hx hb dX12_takes_21 rfl (lv_at hl 0 rfl) ?_
      refine lv_iload_n hx hb dX12_takes_22 rfl (lv_at hl 2 rfl) ?_
      refine b_put (C := RX12) (T := TX12) (N := 21) hx hb hts u_X12_takes_X12 tyX12 tyX12_ok nmX12 hown hK hP hD hS 0 rfl rfl 7 (by decide) (hts (.fieldLink RX12 102 "NoticeWeekModel" "faultKind" "I") (List.mem_of_getElem? (i := 3) rfl)) rfl (by decide +kernel) (Nat.le_of_ble_eq_true rfl) dX12_takes_23 (fun H locs hP hS => ?_)
      have hP : va_P D vwCl (wM cI cZ A0 ss (nI t) kd (nI (σ.1)) (nI σ.2.1) (nI σ.1) σ.2.2.1 σ.2.2.2.1 ac tr la ma it sr bt nw dr pa im kp tc) H := hP
      have hD : va_D A (wM cI cZ A0 ss (nI t) kd (nI (σ.1)) (nI σ.2.1) (nI σ.1) σ.2.2.1 σ.2.2.2.1 ac tr la ma it sr bt nw dr pa im kp tc) := hD.sameA [(A0 0), (A0 1), (A0 2), (A0 3), (A0 4), (A0 5), (A0 6), (A0 7), (A0 8), (A0 9), (A0 10), (A0 11)] rfl rfl
      refine lv_iconst (v := 0) hx hb dX12_takes_26 (by decide) ?_
      have E : pTake bt t is kd σ = (0, σ.1, σ.2.1, σ.2.2.1, σ.2.2.2.1, kd, (nI (σ.1))) := (by first | (simp only [pTake, adv, eq_true c1, eq_true c2, bI, not_true_eq_false, not_false_eq_true, ite_true, ite_false, if_true, if_false, and_self, and_true, true_and, false_and, and_false, or_true, true_or, or_false, false_or, eq_self]; done) | (simp [pTake, adv, eq_true c1, eq_true c2, bI]; done))
      rw [E]
      exact b_retM hx hb hr hP hS rfl dX12_takes_27 hlocks
  · refine lv_iconst (v := 0) hx hb dX12_takes_7 (by decide) ?_
    have E : pTake bt t is kd σ = (0, σ) := (by first | (simp only [pTake, adv, eq_false c1, bI, not_true_eq_false, not_false_eq_true, ite_true, ite_false, if_true, if_false, and_self, and_true, true_and, false_and, and_false, or_true, true_or, or_false, false_or, eq_self]; done) | (simp [pTake, adv, eq_false c1, bI]; done))
    rw [E]
    exact b_retM hx hb hr hP hS rfl dX12_takes_8 hlocks
theorem u_X12_figure_X12 : ∀ w ∈ wsX120, w ∈ wsX12_figure := fun _ h => List.mem_cons_of_mem _ (List.mem_append_right _ h)
set_option maxHeartbeats 4000000 in
set_option maxRecDepth 100000 in
theorem c_X12_figure (l : Launch) (D : va_G) (cI cZ cT : ClassId) (A0 : Nat → Nat) (ss : Int32) (t : Nat) (ac tr : Int32) (la ma it sr bt nw dr pa im kp tc : Nat → Int32) (σ : PS) (lo hi : Int32) (ht : t ≤ 120) (ha : PSok t σ) : Met l yX12_figure wsX12_figure ({ frames := 3, cells := 0, slots := 0, locals := 66 }) (pM D cI cZ cT [.ref (A0 0), .int lo, .int hi] (wM cI cZ A0 ss (nI t) σ.2.2.2.2.1 σ.2.2.2.2.2 (nI σ.2.1) (nI σ.1) σ.2.2.1 σ.2.2.2.1 ac tr la ma it sr bt nw dr pa im kp tc)) (qM D (some (.int ((pFig bt t lo hi σ).1))) (wM cI cZ A0 ss (nI t) ((pFig bt t lo hi σ).2.2.2.2.2.1) ((pFig bt t lo hi σ).2.2.2.2.2.2) (nI (pFig bt t lo hi σ).2.2.1) (nI (pFig bt t lo hi σ).2.1) ((pFig bt t lo hi σ).2.2.2.1) ((pFig bt t lo hi σ).2.2.2.2.1) ac tr la ma it sr bt nw dr pa im kp tc) (adr (wM cI cZ A0 ss (nI t) σ.2.2.2.2.1 σ.2.2.2.2.2 (nI σ.2.1) (nI σ.1) σ.2.2.1 σ.2.2.2.1 ac tr la ma it sr bt nw dr pa im kp tc))) 0 0 (adr (wM cI cZ A0 ss (nI t) σ.2.2.2.2.1 σ.2.2.2.2.2 (nI σ.2.1) (nI σ.1) σ.2.2.1 σ.2.2.2.1 ac tr la ma it sr bt nw dr pa im kp tc)) := by
  refine Met.ofW (cc := cX12_figure) (maxL := 3) (ret := (some .int)) (by decide) rfl ?_
  intro p e s m args below meth c s₁ B hml hv
  obtain ⟨rfl, hP, hD0, hK⟩ := hv
  have hx := B.exec
  have hb := B.bytes
  have hr := B.returns
  have hts := atoms_spec (ws := wsX12_figure) B.pre
  have hown : s.vm.findClass RX12 = some m.cls := findClass_of_methodNamed B.named
  have hlocks := B.notSynchronized
  have hD := hD0.toAdr
  have hS : va_S (adr (wM cI cZ A0 ss (nI t) σ.2.2.2.2.1 σ.2.2.2.2.2 (nI σ.2.1) (nI σ.1) σ.2.2.1 σ.2.2.2.1 ac tr la ma it sr bt nw dr pa im kp tc)) s.heap s.heap [] := va_S.rf
  generalize adr (wM cI cZ A0 ss (nI t) σ.2.2.2.2.1 σ.2.2.2.2.2 (nI σ.2.1) (nI σ.1) σ.2.2.1 σ.2.2.2.1 ac tr la ma it sr bt nw dr pa im kp tc) = A at hD hS ⊢
  have hl := lv_entry ([.ref (A0 0), .int lo, .int hi]) (n := 3) (Nat.le_of_ble_eq_true rfl)
  rw [lg_entry_eq]
  generalize (lg_sl ([.ref (A0 0), .int lo, .int hi]) ++ List.replicate (3 - (lg_sl ([.ref (A0 0), .int lo, .int hi])).length) Slot.unset).toArray = ls at hl ⊢
  have hl : lv_has ls 3 [(0, .ref (A0 0)), (1, .int lo), (2, .int hi)] := hl
  refine lv_aload_n hx hb dX12_figure_0 rfl (lv_at hl 0 rfl) ?_
  refine b_call (va_runV (As := []) (rest := []) ⟨hx, hb, hml, hown, hts⟩ (c_X12_isWell l D cI cZ cT A0 ss (nI t) σ.2.2.2.2.1 σ.2.2.2.2.2 (nI σ.2.1) (nI σ.1) σ.2.2.1 σ.2.2.2.1 ac tr la ma it sr bt nw dr pa im kp tc) (cwV 0 hts gX12_figure_X12_isWell rfl rfl rfl (by decide +kernel) ⟨(Nat.le_of_ble_eq_true rfl), (Nat.le_of_ble_eq_true rfl)⟩) (b_pV hK hP [0, 1, 2, 3, 4, 5, 6, 7, 8, 9, 10, 11] rfl 0 rfl rfl) rfl rfl hl.1 rfl (lv_room (Nat.le_of_ble_eq_true rfl)) dX12_figure_1 ⟨Nat.zero_le _, Nat.zero_le _⟩).run ?_
  refine b_ifeq (tgt := 22) hx hb dX12_figure_4 (by decide) (fun c1 => ?_) (fun c1 => ?_)
  · refine lv_aload_n hx hb dX12_figure_22 rfl (lv_at hl 0 rfl) ?_
    refine lv_aload_n hx hb dX12_figure_23 rfl (lv_at hl 0 rfl) ?_
    refine va_get (D := D) (ci := 11) (v := .int σ.2.2.2.1) (C := RX12) (T := TX12) (N := 21) hx hb hts u_X12_figure_X12 hown hK.1 hP 0 rfl rfl 12 (by decide) (hts (.fieldLink RX12 89 "NoticeWeekModel" "value" "I") (List.mem_of_getElem? (i := 2) rfl)) (fun _ h9 => h9) rfl dX12_figure_24 ?_
    refine lv_iload_n hx hb dX12_figure_27 rfl (lv_at hl 1 rfl) ?_
    refine lv_iload_n hx hb dX12_figure_28 rfl (lv_at hl 2 rfl) ?_
    refine b_call (va_runS (As := [.int σ.2.2.2.1, .int lo, .int hi]) (rest := [.ref (A0 0)]) ⟨hx, hb, hml, hown, hts⟩ (c_X12_in l D cI cZ cT σ.2.2.2.1 lo hi) (va_cwS 3 hts gX12_figure_X12_in rfl rfl rfl (by decide +kernel) ⟨(Nat.le_of_ble_eq_true rfl), (Nat.le_of_ble_eq_true rfl)⟩) (b_pS0 hK) rfl rfl hl.1 rfl (lv_room (Nat.le_of_ble_eq_true rfl)) dX12_figure_29 ⟨Nat.zero_le _, Nat.zero_le _⟩).run ?_
    refine lv_iconst (v := 2) hx hb dX12_figure_32 (by decide) ?_
    refine b_callM [0, 1, 2, 3, 4, 5, 6, 7, 8, 9, 10, 11] (va_runV (As := [.int (bI (¬ σ.2.2.2.1 < lo ∧ ¬ hi < σ.2.2.2.1)), .int 2]) (rest := []) ⟨hx, hb, hml, hown, hts⟩ (c_X12_takes l D cI cZ cT A0 ss t ac tr la ma it sr bt nw dr pa im kp tc σ (bI (¬ σ.2.2.2.1 < lo ∧ ¬ hi < σ.2.2.2.1)) 2 ht ha) (cwV 2 hts gX12_figure_X12_takes rfl rfl rfl (by decide +kernel) ⟨(Nat.le_of_ble_eq_true rfl), (Nat.le_of_ble_eq_true rfl)⟩) (b_pVM hK hP hD [0, 1, 2, 3, 4, 5, 6, 7, 8, 9, 10, 11] (by decide) rfl rfl 0 rfl rfl) rfl rfl hl.1 rfl (lv_room (Nat.le_of_ble_eq_true rfl)) dX12_figure_33 ⟨Nat.zero_le _, Nat.zero_le _⟩).run hP hD hS rfl (Nat.le_of_ble_eq_true rfl) (fun H locs hP hS => ?_)
    have hP : va_P D vwCl (wM cI cZ A0 ss (nI t) ((pTake bt t (bI (¬ σ.2.2.2.1 < lo ∧ ¬ hi < σ.2.2.2.1)) 2 σ).2.2.2.2.2.1) ((pTake bt t (bI (¬ σ.2.2.2.1 < lo ∧ ¬ hi < σ.2.2.2.1)) 2 σ).2.2.2.2.2.2) (nI (pTake bt t (bI (¬ σ.2.2.2.1 < lo ∧ ¬ hi < σ.2.2.2.1)) 2 σ).2.2.1) (nI (pTake bt t (bI (¬ σ.2.2.2.1 < lo ∧ ¬ hi < σ.2.2.2.1)) 2 σ).2.1) ((pTake bt t (bI (¬ σ.2.2.2.1 < lo ∧ ¬ hi < σ.2.2.2.1)) 2 σ).2.2.2.1) ((pTake bt t (bI (¬ σ.2.2.2.1 < lo ∧ ¬ hi < σ.2.2.2.1)) 2 σ).2.2.2.2.1) ac tr la ma it sr bt nw dr pa im kp tc) H := hP
    generalize eq33 : pTake bt t (bI (¬ σ.2.2.2.1 < lo ∧ ¬ hi < σ.2.2.2.1)) 2 σ = q33 at hP ⊢
    have hP : va_P D vwCl (wM cI cZ A0 ss (nI t) q33.2.2.2.2.2.1 q33.2.2.2.2.2.2 (nI q33.2.2.1) (nI q33.2.1) q33.2.2.2.1 q33.2.2.2.2.1 ac tr la ma it sr bt nw dr pa im kp tc) H := hP
    have hD : va_D A (wM cI cZ A0 ss (nI t) q33.2.2.2.2.2.1 q33.2.2.2.2.2.2 (nI q33.2.2.1) (nI q33.2.1) q33.2.2.2.1 q33.2.2.2.2.1 ac tr la ma it sr bt nw dr pa im kp tc) := hD.sameA [(A0 0), (A0 1), (A0 2), (A0 3), (A0 4), (A0 5), (A0 6), (A0 7), (A0 8), (A0 9), (A0 10), (A0 11)] rfl rfl
    have E : pFig bt t lo hi σ = (q33.1, q33.2) := (by subst eq33; first | (simp only [pFig, eq_false c1, bI, not_true_eq_false, not_false_eq_true, ite_true, ite_false, if_true, if_false, and_self, and_true, true_and, false_and, and_false, or_true, true_or, or_false, false_or, eq_self]; done) | (simp [pFig, eq_false c1, bI]; done))
    rw [E]
    exact b_retM hx hb hr hP hS rfl dX12_figure_36 hlocks
  · refine lv_aload_n hx hb dX12_figure_7 rfl (lv_at hl 0 rfl) ?_
    refine va_get (D := D) (ci := 11) (v := .int σ.2.2.1) (C := RX12) (T := TX12) (N := 21) hx hb hts u_X12_figure_X12 hown hK.1 hP 0 rfl rfl 11 (by decide) (hts (.fieldLink RX12 92 "NoticeWeekModel" "token" "I") (List.mem_of_getElem? (i := 1) rfl)) (fun _ h9 => h9) rfl dX12_figure_8 ?_
    refine lv_iconst (v := 2) hx hb dX12_figure_11 (by decide) ?_
    refine lv_icmp_eq (tgt := 22) hx hb dX12_figure_12 (by decide) (fun c2 => ?_) (fun c2 => ?_)
    · refine lv_aload_n hx hb dX12_figure_22 rfl (lv_at hl 0 rfl) ?_
      refine lv_aload_n hx hb dX12_figure_23 rfl (lv_at hl 0 rfl) ?_
      refine va_get (D := D) (ci := 11) (v := .int σ.2.2.2.1) (C := RX12) (T := TX12) (N := 21) hx hb hts u_X12_figure_X12 hown hK.1 hP 0 rfl rfl 12 (by decide) (hts (.fieldLink RX12 89 "NoticeWeekModel" "value" "I") (List.mem_of_getElem? (i := 2) rfl)) (fun _ h9 => h9) rfl dX12_figure_24 ?_
      refine lv_iload_n hx hb dX12_figure_27 rfl (lv_at hl 1 rfl) ?_
      refine lv_iload_n hx hb dX12_figure_28 rfl (lv_at hl 2 rfl) ?_
      refine b_call (va_runS (As := [.int σ.2.2.2.1, .int lo, .int hi]) (rest := [.ref (A0 0)]) ⟨hx, hb, hml, hown, hts⟩ (c_X12_in l D cI cZ cT σ.2.2.2.1 lo hi) (va_cwS 3 hts gX12_figure_X12_in rfl rfl rfl (by decide +kernel) ⟨(Nat.le_of_ble_eq_true rfl), (Nat.le_of_ble_eq_true rfl)⟩) (b_pS0 hK) rfl rfl hl.1 rfl (lv_room (Nat.le_of_ble_eq_true rfl)) dX12_figure_29 ⟨Nat.zero_le _, Nat.zero_le _⟩).run ?_
      refine lv_iconst (v := 2) hx hb dX12_figure_32 (by decide) ?_
      refine b_callM [0, 1, 2, 3, 4, 5, 6, 7, 8, 9, 10, 11] (va_runV (As := [.int (bI (¬ σ.2.2.2.1 < lo ∧ ¬ hi < σ.2.2.2.1)), .int 2]) (rest := []) ⟨hx, hb, hml, hown, hts⟩ (c_X12_takes l D cI cZ cT A0 ss t ac tr la ma it sr bt nw dr pa im kp tc σ (bI (¬ σ.2.2.2.1 < lo ∧ ¬ hi < σ.2.2.2.1)) 2 ht ha) (cwV 2 hts gX12_figure_X12_takes rfl rfl rfl (by decide +kernel) ⟨(Nat.le_of_ble_eq_true rfl), (Nat.le_of_ble_eq_true rfl)⟩) (b_pVM hK hP hD [0, 1, 2, 3, 4, 5, 6, 7, 8, 9, 10, 11] (by decide) rfl rfl 0 rfl rfl) rfl rfl hl.1 rfl (lv_room (Nat.le_of_ble_eq_true rfl)) dX12_figure_33 ⟨Nat.zero_le _, Nat.zero_le _⟩).run hP hD hS rfl (Nat.le_of_ble_eq_true rfl) (fun H locs hP hS => ?_)
      have hP : va_P D vwCl (wM cI cZ A0 ss (nI t) ((pTake bt t (bI (¬ σ.2.2.2.1 < lo ∧ ¬ hi < σ.2.2.2.1)) 2 σ).2.2.2.2.2.1) ((pTake bt t (bI (¬ σ.2.2.2.1 < lo ∧ ¬ hi < σ.2.2.2.1)) 2 σ).2.2.2.2.2.2) (nI (pTake bt t (bI (¬ σ.2.2.2.1 < lo ∧ ¬ hi < σ.2.2.2.1)) 2 σ).2.2.1) (nI (pTake bt t (bI (¬ σ.2.2.2.1 < lo ∧ ¬ hi < σ.2.2.2.1)) 2 σ).2.1) ((pTake bt t (bI (¬ σ.2.2.2.1 < lo ∧ ¬ hi < σ.2.2.2.1)) 2 σ).2.2.2.1) ((pTake bt t (bI (¬ σ.2.2.2.1 < lo ∧ ¬ hi < σ.2.2.2.1)) 2 σ).2.2.2.2.1) ac tr la ma it sr bt nw dr pa im kp tc) H := hP
      generalize eq33 : pTake bt t (bI (¬ σ.2.2.2.1 < lo ∧ ¬ hi < σ.2.2.2.1)) 2 σ = q33 at hP ⊢
      have hP : va_P D vwCl (wM cI cZ A0 ss (nI t) q33.2.2.2.2.2.1 q33.2.2.2.2.2.2 (nI q33.2.2.1) (nI q33.2.1) q33.2.2.2.1 q33.2.2.2.2.1 ac tr la ma it sr bt nw dr pa im kp tc) H := hP
      have hD : va_D A (wM cI cZ A0 ss (nI t) q33.2.2.2.2.2.1 q33.2.2.2.2.2.2 (nI q33.2.2.1) (nI q33.2.1) q33.2.2.2.1 q33.2.2.2.2.1 ac tr la ma it sr bt nw dr pa im kp tc) := hD.sameA [(A0 0), (A0 1), (A0 2), (A0 3), (A0 4), (A0 5), (A0 6), (A0 7), (A0 8), (A0 9), (A0 10), (A0 11)] rfl rfl
      have E : pFig bt t lo hi σ = (q33.1, q33.2) := (by subst eq33; first | (simp only [pFig, eq_true c1, eq_true c2, bI, not_true_eq_false, not_false_eq_true, ite_true, ite_false, if_true, if_false, and_self, and_true, true_and, false_and, and_false, or_true, true_or, or_false, false_or, eq_self]; done) | (simp [pFig, eq_true c1, eq_true c2, bI]; done))
      rw [E]
      exact b_retM hx hb hr hP hS rfl dX12_figure_36 hlocks
    · refine lv_aload_n hx hb dX12_figure_15 rfl (lv_at hl 0 rfl) ?_
      refine lv_iconst (v := 0) hx hb dX12_figure_16 (by decide) ?_
      refine lv_iconst (v := 1) hx hb dX12_figure_17 (by decide) ?_
      refine b_callM [0, 1, 2, 3, 4, 5, 6, 7, 8, 9, 10, 11] (va_runV (As := [.int 0, .int 1]) (rest := []) ⟨hx, hb, hml, hown, hts⟩ (c_X12_takes l D cI cZ cT A0 ss t ac tr la ma it sr bt nw dr pa im kp tc σ 0 1 ht ha) (cwV 2 hts gX12_figure_X12_takes rfl rfl rfl (by decide +kernel) ⟨(Nat.le_of_ble_eq_true rfl), (Nat.le_of_ble_eq_true rfl)⟩) (b_pVM hK hP hD [0, 1, 2, 3, 4, 5, 6, 7, 8, 9, 10, 11] (by decide) rfl rfl 0 rfl rfl) rfl rfl hl.1 rfl (lv_room (Nat.le_of_ble_eq_true rfl)) dX12_figure_18 ⟨Nat.zero_le _, Nat.zero_le _⟩).run hP hD hS rfl (Nat.le_of_ble_eq_true rfl) (fun H locs hP hS => ?_)
      have hP : va_P D vwCl (wM cI cZ A0 ss (nI t) ((pTake bt t 0 1 σ).2.2.2.2.2.1) ((pTake bt t 0 1 σ).2.2.2.2.2.2) (nI (pTake bt t 0 1 σ).2.2.1) (nI (pTake bt t 0 1 σ).2.1) ((pTake bt t 0 1 σ).2.2.2.1) ((pTake bt t 0 1 σ).2.2.2.2.1) ac tr la ma it sr bt nw dr pa im kp tc) H := hP
      generalize eq18 : pTake bt t 0 1 σ = q18 at hP ⊢
      have hP : va_P D vwCl (wM cI cZ A0 ss (nI t) q18.2.2.2.2.2.1 q18.2.2.2.2.2.2 (nI q18.2.2.1) (nI q18.2.1) q18.2.2.2.1 q18.2.2.2.2.1 ac tr la ma it sr bt nw dr pa im kp tc) H := hP
      have hD : va_D A (wM cI cZ A0 ss (nI t) q18.2.2.2.2.2.1 q18.2.2.2.2.2.2 (nI q18.2.2.1) (nI q18.2.1) q18.2.2.2.1 q18.2.2.2.2.1 ac tr la ma it sr bt nw dr pa im kp tc) := hD.sameA [(A0 0), (A0 1), (A0 2), (A0 3), (A0 4), (A0 5), (A0 6), (A0 7), (A0 8), (A0 9), (A0 10), (A0 11)] rfl rfl
      have E : pFig bt t lo hi σ = (q18.1, q18.2) := (by subst eq18; first | (simp only [pFig, eq_true c1, eq_false c2, bI, not_true_eq_false, not_false_eq_true, ite_true, ite_false, if_true, if_false, and_self, and_true, true_and, false_and, and_false, or_true, true_or, or_false, false_or, eq_self]; done) | (simp [pFig, eq_true c1, eq_false c2, bI]; done))
      rw [E]
      exact b_retM hx hb hr hP hS rfl dX12_figure_21 hlocks
theorem u_X12_next_X12 : ∀ w ∈ wsX120, w ∈ wsX12_next := fun _ h => List.mem_cons_of_mem _ (List.mem_append_right _ h)
set_option maxHeartbeats 4000000 in
set_option maxRecDepth 100000 in
theorem c_X12_next (l : Launch) (D : va_G) (cI cZ cT : ClassId) (A0 : Nat → Nat) (ss : Int32) (t : Nat) (ac tr : Int32) (la ma it sr bt nw dr pa im kp tc : Nat → Int32) (σ : PS) (lo hi : Int32) (ht : t ≤ 120) (ha : PSok t σ) : Met l yX12_next wsX12_next ({ frames := 4, cells := 0, slots := 0, locals := 88 }) (pM D cI cZ cT [.ref (A0 0), .int lo, .int hi] (wM cI cZ A0 ss (nI t) σ.2.2.2.2.1 σ.2.2.2.2.2 (nI σ.2.1) (nI σ.1) σ.2.2.1 σ.2.2.2.1 ac tr la ma it sr bt nw dr pa im kp tc)) (qM D (some (.int ((pNext bt t lo hi σ).1))) (wM cI cZ A0 ss (nI t) ((pNext bt t lo hi σ).2.2.2.2.2.1) ((pNext bt t lo hi σ).2.2.2.2.2.2) (nI (pNext bt t lo hi σ).2.2.1) (nI (pNext bt t lo hi σ).2.1) ((pNext bt t lo hi σ).2.2.2.1) ((pNext bt t lo hi σ).2.2.2.2.1) ac tr la ma it sr bt nw dr pa im kp tc) (adr (wM cI cZ A0 ss (nI t) σ.2.2.2.2.1 σ.2.2.2.2.2 (nI σ.2.1) (nI σ.1) σ.2.2.1 σ.2.2.2.1 ac tr la ma it sr bt nw dr pa im kp tc))) 0 0 (adr (wM cI cZ A0 ss (nI t) σ.2.2.2.2.1 σ.2.2.2.2.2 (nI σ.2.1) (nI σ.1) σ.2.2.1 σ.2.2.2.1 ac tr la ma it sr bt nw dr pa im kp tc)) := by
  refine Met.ofW (cc := cX12_next) (maxL := 3) (ret := (some .int)) (by decide) rfl ?_
  intro p e s m args below meth c s₁ B hml hv
  obtain ⟨rfl, hP, hD0, hK⟩ := hv
  have hx := B.exec
  have hb := B.bytes
  have hr := B.returns
  have hts := atoms_spec (ws := wsX12_next) B.pre
  have hown : s.vm.findClass RX12 = some m.cls := findClass_of_methodNamed B.named
  have hlocks := B.notSynchronized
  have hD := hD0.toAdr
  have hS : va_S (adr (wM cI cZ A0 ss (nI t) σ.2.2.2.2.1 σ.2.2.2.2.2 (nI σ.2.1) (nI σ.1) σ.2.2.1 σ.2.2.2.1 ac tr la ma it sr bt nw dr pa im kp tc)) s.heap s.heap [] := va_S.rf
  generalize adr (wM cI cZ A0 ss (nI t) σ.2.2.2.2.1 σ.2.2.2.2.2 (nI σ.2.1) (nI σ.1) σ.2.2.1 σ.2.2.2.1 ac tr la ma it sr bt nw dr pa im kp tc) = A at hD hS ⊢
  have hl := lv_entry ([.ref (A0 0), .int lo, .int hi]) (n := 3) (Nat.le_of_ble_eq_true rfl)
  rw [lg_entry_eq]
  generalize (lg_sl ([.ref (A0 0), .int lo, .int hi]) ++ List.replicate (3 - (lg_sl ([.ref (A0 0), .int lo, .int hi])).length) Slot.unset).toArray = ls at hl ⊢
  have hl : lv_has ls 3 [(0, .ref (A0 0)), (1, .int lo), (2, .int hi)] := hl
  refine lv_aload_n hx hb dX12_next_0 rfl (lv_at hl 0 rfl) ?_
  refine b_join (jpc := 14) (rest' := [.ref (A0 0)]) (P := fun v : Int32 => v = ((bI (σ.2.2.1 = 3)) : Int32)) (fun v1 ev1 => ?_) (fun K2 => ?_)
  · subst ev1
    refine lv_iconst (v := 1) hx hb dX12_next_14 (by decide) ?_
    refine b_callM [0, 1, 2, 3, 4, 5, 6, 7, 8, 9, 10, 11] (va_runV (As := [.int (bI (σ.2.2.1 = 3)), .int 1]) (rest := []) ⟨hx, hb, hml, hown, hts⟩ (c_X12_takes l D cI cZ cT A0 ss t ac tr la ma it sr bt nw dr pa im kp tc σ (bI (σ.2.2.1 = 3)) 1 ht ha) (cwV 2 hts gX12_next_X12_takes rfl rfl rfl (by decide +kernel) ⟨(Nat.le_of_ble_eq_true rfl), (Nat.le_of_ble_eq_true rfl)⟩) (b_pVM hK hP hD [0, 1, 2, 3, 4, 5, 6, 7, 8, 9, 10, 11] (by decide) rfl rfl 0 rfl rfl) rfl rfl hl.1 rfl (lv_room (Nat.le_of_ble_eq_true rfl)) dX12_next_15 ⟨Nat.zero_le _, Nat.zero_le _⟩).run hP hD hS rfl (Nat.le_of_ble_eq_true rfl) (fun H locs hP hS => ?_)
    have hP : va_P D vwCl (wM cI cZ A0 ss (nI t) ((pTake bt t (bI (σ.2.2.1 = 3)) 1 σ).2.2.2.2.2.1) ((pTake bt t (bI (σ.2.2.1 = 3)) 1 σ).2.2.2.2.2.2) (nI (pTake bt t (bI (σ.2.2.1 = 3)) 1 σ).2.2.1) (nI (pTake bt t (bI (σ.2.2.1 = 3)) 1 σ).2.1) ((pTake bt t (bI (σ.2.2.1 = 3)) 1 σ).2.2.2.1) ((pTake bt t (bI (σ.2.2.1 = 3)) 1 σ).2.2.2.2.1) ac tr la ma it sr bt nw dr pa im kp tc) H := hP
    generalize eq15 : pTake bt t (bI (σ.2.2.1 = 3)) 1 σ = q15 at hP ⊢
    have hP : va_P D vwCl (wM cI cZ A0 ss (nI t) q15.2.2.2.2.2.1 q15.2.2.2.2.2.2 (nI q15.2.2.1) (nI q15.2.1) q15.2.2.2.1 q15.2.2.2.2.1 ac tr la ma it sr bt nw dr pa im kp tc) H := hP
    have hD : va_D A (wM cI cZ A0 ss (nI t) q15.2.2.2.2.2.1 q15.2.2.2.2.2.2 (nI q15.2.2.1) (nI q15.2.1) q15.2.2.2.1 q15.2.2.2.2.1 ac tr la ma it sr bt nw dr pa im kp tc) := hD.sameA [(A0 0), (A0 1), (A0 2), (A0 3), (A0 4), (A0 5), (A0 6), (A0 7), (A0 8), (A0 9), (A0 10), (A0 11)] rfl rfl
    have ha1 : PSok t q15.2 := by rw [← eq15]; exact pTake_ok ha
    refine lv_pop hx hb dX12_next_18 rfl ?_
    refine lv_aload_n hx hb dX12_next_19 rfl (lv_at hl 0 rfl) ?_
    refine lv_iload_n hx hb dX12_next_20 rfl (lv_at hl 1 rfl) ?_
    refine lv_iload_n hx hb dX12_next_21 rfl (lv_at hl 2 rfl) ?_
    refine b_callM [0, 1, 2, 3, 4, 5, 6, 7, 8, 9, 10, 11] (va_runV (As := [.int lo, .int hi]) (rest := []) ⟨hx, hb, hml, hown, hts⟩ (c_X12_figure l D cI cZ cT A0 ss t ac tr la ma it sr bt nw dr pa im kp tc q15.2 lo hi ht ha1) (cwV 2 hts gX12_next_X12_figure rfl rfl rfl (by decide +kernel) ⟨(Nat.le_of_ble_eq_true rfl), (Nat.le_of_ble_eq_true rfl)⟩) (b_pVM hK hP hD [0, 1, 2, 3, 4, 5, 6, 7, 8, 9, 10, 11] (by decide) rfl rfl 0 rfl rfl) rfl rfl hl.1 rfl (lv_room (Nat.le_of_ble_eq_true rfl)) dX12_next_22 ⟨Nat.zero_le _, Nat.zero_le _⟩).run hP hD hS rfl (Nat.le_of_ble_eq_true rfl) (fun H locs hP hS => ?_)
    have hP : va_P D vwCl (wM cI cZ A0 ss (nI t) ((pFig bt t lo hi q15.2).2.2.2.2.2.1) ((pFig bt t lo hi q15.2).2.2.2.2.2.2) (nI (pFig bt t lo hi q15.2).2.2.1) (nI (pFig bt t lo hi q15.2).2.1) ((pFig bt t lo hi q15.2).2.2.2.1) ((pFig bt t lo hi q15.2).2.2.2.2.1) ac tr la ma it sr bt nw dr pa im kp tc) H := hP
    generalize eq22 : pFig bt t lo hi q15.2 = q22 at hP ⊢
    have hP : va_P D vwCl (wM cI cZ A0 ss (nI t) q22.2.2.2.2.2.1 q22.2.2.2.2.2.2 (nI q22.2.2.1) (nI q22.2.1) q22.2.2.2.1 q22.2.2.2.2.1 ac tr la ma it sr bt nw dr pa im kp tc) H := hP
    have hD : va_D A (wM cI cZ A0 ss (nI t) q22.2.2.2.2.2.1 q22.2.2.2.2.2.2 (nI q22.2.2.1) (nI q22.2.1) q22.2.2.2.1 q22.2.2.2.2.1 ac tr la ma it sr bt nw dr pa im kp tc) := hD.sameA [(A0 0), (A0 1), (A0 2), (A0 3), (A0 4), (A0 5), (A0 6), (A0 7), (A0 8), (A0 9), (A0 10), (A0 11)] rfl rfl
    have E : pNext bt t lo hi σ = (q22.1, q22.2) := (by unfold pNext; rw [eq15, eq22])
    rw [E]
    exact b_retM hx hb hr hP hS rfl dX12_next_25 hlocks
  · refine lv_aload_n hx hb dX12_next_1 rfl (lv_at hl 0 rfl) ?_
    refine va_get (D := D) (ci := 11) (v := .int σ.2.2.1) (C := RX12) (T := TX12) (N := 21) hx hb hts u_X12_next_X12 hown hK.1 hP 0 rfl rfl 11 (by decide) (hts (.fieldLink RX12 92 "NoticeWeekModel" "token" "I") (List.mem_of_getElem? (i := 1) rfl)) (fun _ h9 => h9) rfl dX12_next_2 ?_
    refine lv_iconst (v := 3) hx hb dX12_next_5 (by decide) ?_
    refine lv_icmp_ne (tgt := 13) hx hb dX12_next_6 (by decide) (fun c3 => ?_) (fun c3 => ?_)
    · refine lv_iconst (v := 0) hx hb dX12_next_13 (by decide) ?_
      exact K2 _ (by first | with_reducible rfl | (simp only [bI, eq_false c3, not_true_eq_false, not_false_eq_true, ite_true, ite_false, if_true, if_false, and_self, and_true, true_and, false_and, and_false, or_true, true_or, or_false, false_or]; done) | (simp [bI, eq_false c3]; done) | omega)
    · refine lv_iconst (v := 1) hx hb dX12_next_9 (by decide) ?_
      refine lv_goto (tgt := 14) hx hb dX12_next_10 (by decide) ?_
      exact K2 _ (by first | with_reducible rfl | (simp only [bI, eq_true c3, not_true_eq_false, not_false_eq_true, ite_true, ite_false, if_true, if_false, and_self, and_true, true_and, false_and, and_false, or_true, true_or, or_false, false_or]; done) | (simp [bI, eq_true c3]; done) | omega)
theorem u_X12_readsReader_X12 : ∀ w ∈ wsX120, w ∈ wsX12_readsReader := fun _ h => List.mem_cons_of_mem _ (List.mem_append_right _ h)
set_option maxHeartbeats 4000000 in
set_option maxRecDepth 100000 in
theorem c_X12_readsReader (l : Launch) (D : va_G) (cI cZ cT : ClassId) (A0 : Nat → Nat) (ss : Int32) (t : Nat) (ac tr : Int32) (la ma it sr bt nw dr pa im kp tc : Nat → Int32) (σ : PS) (n : Nat) (ht : t ≤ 120) (ha : PSok t σ) (hn : n ≤ 6) (hd : dr 3 = nI n) : Met l yX12_readsReader wsX12_readsReader ({ frames := 5, cells := 0, slots := 0, locals := 110 }) (pM D cI cZ cT [.ref (A0 0)] (wM cI cZ A0 ss (nI t) σ.2.2.2.2.1 σ.2.2.2.2.2 (nI σ.2.1) (nI σ.1) σ.2.2.1 σ.2.2.2.1 ac tr la ma it sr bt nw dr pa im kp tc)) (qM D none (wM cI cZ A0 ss (nI t) ((pRead bt t n σ dr).1.2.2.2.2.1) ((pRead bt t n σ dr).1.2.2.2.2.2) (nI (pRead bt t n σ dr).1.2.1) (nI (pRead bt t n σ dr).1.1) ((pRead bt t n σ dr).1.2.2.1) ((pRead bt t n σ dr).1.2.2.2.1) ac tr la ma it sr bt nw ((pRead bt t n σ dr).2) pa im kp tc) (adr (wM cI cZ A0 ss (nI t) σ.2.2.2.2.1 σ.2.2.2.2.2 (nI σ.2.1) (nI σ.1) σ.2.2.1 σ.2.2.2.1 ac tr la ma it sr bt nw dr pa im kp tc))) 0 0 (adr (wM cI cZ A0 ss (nI t) σ.2.2.2.2.1 σ.2.2.2.2.2 (nI σ.2.1) (nI σ.1) σ.2.2.1 σ.2.2.2.1 ac tr la ma it sr bt nw dr pa im kp tc)) := by
  refine Met.ofW (cc := cX12_readsReader) (maxL := 6) (ret := none) (by decide) rfl ?_
  intro p e s m args below meth c s₁ B hml hv
  obtain ⟨rfl, hP, hD0, hK⟩ := hv
  have hx := B.exec
  have hb := B.bytes
  have hr := B.returns
  have hts := atoms_spec (ws := wsX12_readsReader) B.pre
  have hown : s.vm.findClass RX12 = some m.cls := findClass_of_methodNamed B.named
  have hlocks := B.notSynchronized
  have hD := hD0.toAdr
  have hS : va_S (adr (wM cI cZ A0 ss (nI t) σ.2.2.2.2.1 σ.2.2.2.2.2 (nI σ.2.1) (nI σ.1) σ.2.2.1 σ.2.2.2.1 ac tr la ma it sr bt nw dr pa im kp tc)) s.heap s.heap [] := va_S.rf
  generalize adr (wM cI cZ A0 ss (nI t) σ.2.2.2.2.1 σ.2.2.2.2.2 (nI σ.2.1) (nI σ.1) σ.2.2.1 σ.2.2.2.1 ac tr la ma it sr bt nw dr pa im kp tc) = A at hD hS ⊢
  have hl := lv_entry ([.ref (A0 0)]) (n := 6) (Nat.le_of_ble_eq_true rfl)
  rw [lg_entry_eq]
  generalize (lg_sl ([.ref (A0 0)]) ++ List.replicate (6 - (lg_sl ([.ref (A0 0)])).length) Slot.unset).toArray = ls at hl ⊢
  have hl : lv_has ls 6 [(0, .ref (A0 0))] := hl
  refine lv_aload_n hx hb dX12_readsReader_0 rfl (lv_at hl 0 rfl) ?_
  refine va_get (D := D) (ci := 11) (v := .int σ.2.2.2.1) (C := RX12) (T := TX12) (N := 21) hx hb hts u_X12_readsReader_X12 hown hK.1 hP 0 rfl rfl 12 (by decide) (hts (.fieldLink RX12 89 "NoticeWeekModel" "value" "I") (List.mem_of_getElem? (i := 1) rfl)) (fun _ h9 => h9) rfl dX12_readsReader_1 ?_
  refine b_call (va_runS (As := [.int σ.2.2.2.1]) (rest := []) ⟨hx, hb, hml, hown, hts⟩ (c_X12_kindOf l D cI cZ cT σ.2.2.2.1) (va_cwS 1 hts gX12_readsReader_X12_kindOf rfl rfl rfl (by decide +kernel) ⟨(Nat.le_of_ble_eq_true rfl), (Nat.le_of_ble_eq_true rfl)⟩) (b_pS0 hK) rfl rfl hl.1 rfl (lv_room (Nat.le_of_ble_eq_true rfl)) dX12_readsReader_4 ⟨Nat.zero_le _, Nat.zero_le _⟩).run ?_
  refine lv_topi (fun x1 ex1 => ?_)
  refine lv_istore_n (lv' := [(1, .int x1), (0, .ref (A0 0))]) hx hb dX12_readsReader_7 rfl hl (by decide) rfl (fun ls hl => ?_)
  refine lv_aload_n hx hb dX12_readsReader_8 rfl (lv_at hl 1 rfl) ?_
  refine b_join (jpc := 25) (rest' := [.ref (A0 0)]) (P := fun v : Int32 => v = ((bI (n < 6)) : Int32)) (fun v2 ev2 => ?_) (fun K3 => ?_)
  · subst ev2
    refine lv_iconst (v := 3) hx hb dX12_readsReader_25 (by decide) ?_
    refine b_callM [0, 1, 2, 3, 4, 5, 6, 7, 8, 9, 10, 11] (va_runV (As := [.int (bI (n < 6)), .int 3]) (rest := []) ⟨hx, hb, hml, hown, hts⟩ (c_X12_takes l D cI cZ cT A0 ss t ac tr la ma it sr bt nw dr pa im kp tc σ (bI (n < 6)) 3 ht ha) (cwV 2 hts gX12_readsReader_X12_takes rfl rfl rfl (by decide +kernel) ⟨(Nat.le_of_ble_eq_true rfl), (Nat.le_of_ble_eq_true rfl)⟩) (b_pVM hK hP hD [0, 1, 2, 3, 4, 5, 6, 7, 8, 9, 10, 11] (by decide) rfl rfl 0 rfl rfl) rfl rfl hl.1 rfl (lv_room (Nat.le_of_ble_eq_true rfl)) dX12_readsReader_26 ⟨Nat.zero_le _, Nat.zero_le _⟩).run hP hD hS rfl (Nat.le_of_ble_eq_true rfl) (fun H locs hP hS => ?_)
    have hP : va_P D vwCl (wM cI cZ A0 ss (nI t) ((pTake bt t (bI (n < 6)) 3 σ).2.2.2.2.2.1) ((pTake bt t (bI (n < 6)) 3 σ).2.2.2.2.2.2) (nI (pTake bt t (bI (n < 6)) 3 σ).2.2.1) (nI (pTake bt t (bI (n < 6)) 3 σ).2.1) ((pTake bt t (bI (n < 6)) 3 σ).2.2.2.1) ((pTake bt t (bI (n < 6)) 3 σ).2.2.2.2.1) ac tr la ma it sr bt nw dr pa im kp tc) H := hP
    generalize eq26 : pTake bt t (bI (n < 6)) 3 σ = q26 at hP ⊢
    have hP : va_P D vwCl (wM cI cZ A0 ss (nI t) q26.2.2.2.2.2.1 q26.2.2.2.2.2.2 (nI q26.2.2.1) (nI q26.2.1) q26.2.2.2.1 q26.2.2.2.2.1 ac tr la ma it sr bt nw dr pa im kp tc) H := hP
    have hD : va_D A (wM cI cZ A0 ss (nI t) q26.2.2.2.2.2.1 q26.2.2.2.2.2.2 (nI q26.2.2.1) (nI q26.2.1) q26.2.2.2.1 q26.2.2.2.2.1 ac tr la ma it sr bt nw dr pa im kp tc) := hD.sameA [(A0 0), (A0 1), (A0 2), (A0 3), (A0 4), (A0 5), (A0 6), (A0 7), (A0 8), (A0 9), (A0 10), (A0 11)] rfl rfl
    have ha1 : PSok t q26.2 := by rw [← eq26]; exact pTake_ok ha
    refine lv_pop hx hb dX12_readsReader_29 rfl ?_
    refine lv_iconst (v := (nI 4)) hx hb dX12_readsReader_30 (by decide) ?_
    refine lv_iconst (v := (nI 4)) hx hb dX12_readsReader_31 (by decide) ?_
    refine b_join (jpc := 53) (rest' := [.int (nI 4), .int (nI 4)]) (P := fun v : Int32 => v = ((nI (if n < 6 then n else 0)) : Int32)) (fun v4 ev4 => ?_) (fun K5 => ?_)
    · subst ev4
      refine b_mul hx hb dX12_readsReader_53 ?_
      refine b_add hx hb dX12_readsReader_54 ?_
      refine lv_istore_n (lv' := [(2, .int (nI (4 + (4 * (if n < 6 then n else 0))))), (1, .int x1), (0, .ref (A0 0))]) hx hb dX12_readsReader_55 rfl hl (by decide) rfl (fun ls hl => ?_)
      refine lv_aload_n hx hb dX12_readsReader_56 rfl (lv_at hl 2 rfl) ?_
      refine lv_iconst (v := 0) hx hb dX12_readsReader_57 (by decide) ?_
      refine lv_bipush (v := 63) hx hb dX12_readsReader_58 (by decide) ?_
      refine b_callM [0, 1, 2, 3, 4, 5, 6, 7, 8, 9, 10, 11] (va_runV (As := [.int 0, .int 63]) (rest := []) ⟨hx, hb, hml, hown, hts⟩ (c_X12_figure l D cI cZ cT A0 ss t ac tr la ma it sr bt nw dr pa im kp tc q26.2 0 63 ht ha1) (cwV 2 hts gX12_readsReader_X12_figure rfl rfl rfl (by decide +kernel) ⟨(Nat.le_of_ble_eq_true rfl), (Nat.le_of_ble_eq_true rfl)⟩) (b_pVM hK hP hD [0, 1, 2, 3, 4, 5, 6, 7, 8, 9, 10, 11] (by decide) rfl rfl 0 rfl rfl) rfl rfl hl.1 rfl (lv_room (Nat.le_of_ble_eq_true rfl)) dX12_readsReader_60 ⟨Nat.zero_le _, Nat.zero_le _⟩).run hP hD hS rfl (Nat.le_of_ble_eq_true rfl) (fun H locs hP hS => ?_)
      have hP : va_P D vwCl (wM cI cZ A0 ss (nI t) ((pFig bt t 0 63 q26.2).2.2.2.2.2.1) ((pFig bt t 0 63 q26.2).2.2.2.2.2.2) (nI (pFig bt t 0 63 q26.2).2.2.1) (nI (pFig bt t 0 63 q26.2).2.1) ((pFig bt t 0 63 q26.2).2.2.2.1) ((pFig bt t 0 63 q26.2).2.2.2.2.1) ac tr la ma it sr bt nw dr pa im kp tc) H := hP
      generalize eq60 : pFig bt t 0 63 q26.2 = q60 at hP ⊢
      have hP : va_P D vwCl (wM cI cZ A0 ss (nI t) q60.2.2.2.2.2.1 q60.2.2.2.2.2.2 (nI q60.2.2.1) (nI q60.2.1) q60.2.2.2.1 q60.2.2.2.2.1 ac tr la ma it sr bt nw dr pa im kp tc) H := hP
      have hD : va_D A (wM cI cZ A0 ss (nI t) q60.2.2.2.2.2.1 q60.2.2.2.2.2.2 (nI q60.2.2.1) (nI q60.2.1) q60.2.2.2.1 q60.2.2.2.2.1 ac tr la ma it sr bt nw dr pa im kp tc) := hD.sameA [(A0 0), (A0 1), (A0 2), (A0 3), (A0 4), (A0 5), (A0 6), (A0 7), (A0 8), (A0 9), (A0 10), (A0 11)] rfl rfl
      have ha2 : PSok t q60.2 := by rw [← eq60]; exact pFig_ok ha1
      refine lv_istore_n (lv' := [(3, .int q60.1), (2, .int (nI (4 + (4 * (if n < 6 then n else 0))))), (1, .int x1), (0, .ref (A0 0))]) hx hb dX12_readsReader_63 rfl hl (by decide) rfl (fun ls hl => ?_)
      refine lv_aload_n hx hb dX12_readsReader_64 rfl (lv_at hl 3 rfl) ?_
      refine lv_iconst (v := 0) hx hb dX12_readsReader_65 (by decide) ?_
      refine lv_bipush (v := 63) hx hb dX12_readsReader_66 (by decide) ?_
      refine b_callM [0, 1, 2, 3, 4, 5, 6, 7, 8, 9, 10, 11] (va_runV (As := [.int 0, .int 63]) (rest := []) ⟨hx, hb, hml, hown, hts⟩ (c_X12_next l D cI cZ cT A0 ss t ac tr la ma it sr bt nw dr pa im kp tc q60.2 0 63 ht ha2) (cwV 2 hts gX12_readsReader_X12_next rfl rfl rfl (by decide +kernel) ⟨(Nat.le_of_ble_eq_true rfl), (Nat.le_of_ble_eq_true rfl)⟩) (b_pVM hK hP hD [0, 1, 2, 3, 4, 5, 6, 7, 8, 9, 10, 11] (by decide) rfl rfl 0 rfl rfl) rfl rfl hl.1 rfl (lv_room (Nat.le_of_ble_eq_true rfl)) dX12_readsReader_68 ⟨Nat.zero_le _, Nat.zero_le _⟩).run hP hD hS rfl (Nat.le_of_ble_eq_true rfl) (fun H locs hP hS => ?_)
      have hP : va_P D vwCl (wM cI cZ A0 ss (nI t) ((pNext bt t 0 63 q60.2).2.2.2.2.2.1) ((pNext bt t 0 63 q60.2).2.2.2.2.2.2) (nI (pNext bt t 0 63 q60.2).2.2.1) (nI (pNext bt t 0 63 q60.2).2.1) ((pNext bt t 0 63 q60.2).2.2.2.1) ((pNext bt t 0 63 q60.2).2.2.2.2.1) ac tr la ma it sr bt nw dr pa im kp tc) H := hP
      generalize eq68 : pNext bt t 0 63 q60.2 = q68 at hP ⊢
      have hP : va_P D vwCl (wM cI cZ A0 ss (nI t) q68.2.2.2.2.2.1 q68.2.2.2.2.2.2 (nI q68.2.2.1) (nI q68.2.1) q68.2.2.2.1 q68.2.2.2.2.1 ac tr la ma it sr bt nw dr pa im kp tc) H := hP
      have hD : va_D A (wM cI cZ A0 ss (nI t) q68.2.2.2.2.2.1 q68.2.2.2.2.2.2 (nI q68.2.2.1) (nI q68.2.1) q68.2.2.2.1 q68.2.2.2.2.1 ac tr la ma it sr bt nw dr pa im kp tc) := hD.sameA [(A0 0), (A0 1), (A0 2), (A0 3), (A0 4), (A0 5), (A0 6), (A0 7), (A0 8), (A0 9), (A0 10), (A0 11)] rfl rfl
      have ha3 : PSok t q68.2 := by rw [← eq68]; exact pNext_ok ha2
      refine lv_istore (lv' := [(4, .int q68.1), (3, .int q60.1), (2, .int (nI (4 + (4 * (if n < 6 then n else 0))))), (1, .int x1), (0, .ref (A0 0))]) hx hb dX12_readsReader_71 hl (by decide) rfl (fun ls hl => ?_)
      refine lv_aload_n hx hb dX12_readsReader_73 rfl (lv_at hl 4 rfl) ?_
      refine lv_iconst (v := 0) hx hb dX12_readsReader_74 (by decide) ?_
      refine lv_bipush (v := 60) hx hb dX12_readsReader_75 (by decide) ?_
      refine b_callM [0, 1, 2, 3, 4, 5, 6, 7, 8, 9, 10, 11] (va_runV (As := [.int 0, .int 60]) (rest := []) ⟨hx, hb, hml, hown, hts⟩ (c_X12_next l D cI cZ cT A0 ss t ac tr la ma it sr bt nw dr pa im kp tc q68.2 0 60 ht ha3) (cwV 2 hts gX12_readsReader_X12_next rfl rfl rfl (by decide +kernel) ⟨(Nat.le_of_ble_eq_true rfl), (Nat.le_of_ble_eq_true rfl)⟩) (b_pVM hK hP hD [0, 1, 2, 3, 4, 5, 6, 7, 8, 9, 10, 11] (by decide) rfl rfl 0 rfl rfl) rfl rfl hl.1 rfl (lv_room (Nat.le_of_ble_eq_true rfl)) dX12_readsReader_77 ⟨Nat.zero_le _, Nat.zero_le _⟩).run hP hD hS rfl (Nat.le_of_ble_eq_true rfl) (fun H locs hP hS => ?_)
      have hP : va_P D vwCl (wM cI cZ A0 ss (nI t) ((pNext bt t 0 60 q68.2).2.2.2.2.2.1) ((pNext bt t 0 60 q68.2).2.2.2.2.2.2) (nI (pNext bt t 0 60 q68.2).2.2.1) (nI (pNext bt t 0 60 q68.2).2.1) ((pNext bt t 0 60 q68.2).2.2.2.1) ((pNext bt t 0 60 q68.2).2.2.2.2.1) ac tr la ma it sr bt nw dr pa im kp tc) H := hP
      generalize eq77 : pNext bt t 0 60 q68.2 = q77 at hP ⊢
      have hP : va_P D vwCl (wM cI cZ A0 ss (nI t) q77.2.2.2.2.2.1 q77.2.2.2.2.2.2 (nI q77.2.2.1) (nI q77.2.1) q77.2.2.2.1 q77.2.2.2.2.1 ac tr la ma it sr bt nw dr pa im kp tc) H := hP
      have hD : va_D A (wM cI cZ A0 ss (nI t) q77.2.2.2.2.2.1 q77.2.2.2.2.2.2 (nI q77.2.2.1) (nI q77.2.1) q77.2.2.2.1 q77.2.2.2.2.1 ac tr la ma it sr bt nw dr pa im kp tc) := hD.sameA [(A0 0), (A0 1), (A0 2), (A0 3), (A0 4), (A0 5), (A0 6), (A0 7), (A0 8), (A0 9), (A0 10), (A0 11)] rfl rfl
      have ha4 : PSok t q77.2 := by rw [← eq77]; exact pNext_ok ha3
      refine lv_istore (lv' := [(5, .int q77.1), (4, .int q68.1), (3, .int q60.1), (2, .int (nI (4 + (4 * (if n < 6 then n else 0))))), (1, .int x1), (0, .ref (A0 0))]) hx hb dX12_readsReader_80 hl (by decide) rfl (fun ls hl => ?_)
      refine lv_aload_n hx hb dX12_readsReader_82 rfl (lv_at hl 5 rfl) ?_
      refine b_join (jpc := 96) (rest' := [.ref (A0 0)]) (P := fun v : Int32 => v = ((bI (q77.2.2.2.1 = 4)) : Int32)) (fun v6 ev6 => ?_) (fun K7 => ?_)
      · subst ev6
        refine lv_iconst (v := 1) hx hb dX12_readsReader_96 (by decide) ?_
        refine b_callM [0, 1, 2, 3, 4, 5, 6, 7, 8, 9, 10, 11] (va_runV (As := [.int (bI (q77.2.2.2.1 = 4)), .int 1]) (rest := []) ⟨hx, hb, hml, hown, hts⟩ (c_X12_takes l D cI cZ cT A0 ss t ac tr la ma it sr bt nw dr pa im kp tc q77.2 (bI (q77.2.2.2.1 = 4)) 1 ht ha4) (cwV 2 hts gX12_readsReader_X12_takes rfl rfl rfl (by decide +kernel) ⟨(Nat.le_of_ble_eq_true rfl), (Nat.le_of_ble_eq_true rfl)⟩) (b_pVM hK hP hD [0, 1, 2, 3, 4, 5, 6, 7, 8, 9, 10, 11] (by decide) rfl rfl 0 rfl rfl) rfl rfl hl.1 rfl (lv_room (Nat.le_of_ble_eq_true rfl)) dX12_readsReader_97 ⟨Nat.zero_le _, Nat.zero_le _⟩).run hP hD hS rfl (Nat.le_of_ble_eq_true rfl) (fun H locs hP hS => ?_)
        have hP : va_P D vwCl (wM cI cZ A0 ss (nI t) ((pTake bt t (bI (q77.2.2.2.1 = 4)) 1 q77.2).2.2.2.2.2.1) ((pTake bt t (bI (q77.2.2.2.1 = 4)) 1 q77.2).2.2.2.2.2.2) (nI (pTake bt t (bI (q77.2.2.2.1 = 4)) 1 q77.2).2.2.1) (nI (pTake bt t (bI (q77.2.2.2.1 = 4)) 1 q77.2).2.1) ((pTake bt t (bI (q77.2.2.2.1 = 4)) 1 q77.2).2.2.2.1) ((pTake bt t (bI (q77.2.2.2.1 = 4)) 1 q77.2).2.2.2.2.1) ac tr la ma it sr bt nw dr pa im kp tc) H := hP
        generalize eq97 : pTake bt t (bI (q77.2.2.2.1 = 4)) 1 q77.2 = q97 at hP ⊢
        have hP : va_P D vwCl (wM cI cZ A0 ss (nI t) q97.2.2.2.2.2.1 q97.2.2.2.2.2.2 (nI q97.2.2.1) (nI q97.2.1) q97.2.2.2.1 q97.2.2.2.2.1 ac tr la ma it sr bt nw dr pa im kp tc) H := hP
        have hD : va_D A (wM cI cZ A0 ss (nI t) q97.2.2.2.2.2.1 q97.2.2.2.2.2.2 (nI q97.2.2.1) (nI q97.2.1) q97.2.2.2.1 q97.2.2.2.2.1 ac tr la ma it sr bt nw dr pa im kp tc) := hD.sameA [(A0 0), (A0 1), (A0 2), (A0 3), (A0 4), (A0 5), (A0 6), (A0 7), (A0 8), (A0 9), (A0 10), (A0 11)] rfl rfl
        have ha5 : PSok t q97.2 := by rw [← eq97]; exact pTake_ok ha4
        refine lv_pop hx hb dX12_readsReader_100 rfl ?_
        refine lv_aload_n hx hb dX12_readsReader_101 rfl (lv_at hl 5 rfl) ?_
        refine b_call (va_runV (As := []) (rest := []) ⟨hx, hb, hml, hown, hts⟩ (c_X12_isWell l D cI cZ cT A0 ss (nI t) q97.2.2.2.2.2.1 q97.2.2.2.2.2.2 (nI q97.2.2.1) (nI q97.2.1) q97.2.2.2.1 q97.2.2.2.2.1 ac tr la ma it sr bt nw dr pa im kp tc) (cwV 0 hts gX12_readsReader_X12_isWell rfl rfl rfl (by decide +kernel) ⟨(Nat.le_of_ble_eq_true rfl), (Nat.le_of_ble_eq_true rfl)⟩) (b_pV hK hP [0, 1, 2, 3, 4, 5, 6, 7, 8, 9, 10, 11] rfl 0 rfl rfl) rfl rfl hl.1 rfl (lv_room (Nat.le_of_ble_eq_true rfl)) dX12_readsReader_102 ⟨Nat.zero_le _, Nat.zero_le _⟩).run ?_
        refine b_ifeq (tgt := 154) hx hb dX12_readsReader_105 (by decide) (fun c8 => ?_) (fun c8 => ?_)
        · have E : pRead bt t n σ dr = (q97.2, dr) := (by subst ex1; have r1 : pR1 bt t n σ = q26 := eq26; have r2 : pR2 bt t n σ = q60 := (by unfold pR2; rw [r1]; exact eq60); have r3 : pR3 bt t n σ = q68 := (by unfold pR3; rw [r2]; exact eq68); have r4 : pR4 bt t n σ = q77 := (by unfold pR4; rw [r3]; exact eq77); have r5 : pR5 bt t n σ = q97 := (by unfold pR5; rw [r4]; exact eq97); unfold pRead; rw [r5, if_neg c8])
          rw [E]
          exact b_vretM hx hb hr hP hS dX12_readsReader_154 hlocks
        · refine lv_aload_n hx hb dX12_readsReader_108 rfl (lv_at hl 5 rfl) ?_
          refine va_get (D := D) (ci := 11) (v := .ref (A0 7)) (C := RX12) (T := TX12) (N := 21) hx hb hts u_X12_readsReader_X12 hown hK.1 hP 0 rfl rfl 14 (by decide) (hts (.fieldLink RX12 28 "NoticeWeekModel" "draft" "[I") (List.mem_of_getElem? (i := 2) rfl)) (fun _ h9 => h9) rfl dX12_readsReader_109 ?_
          refine lv_iload_n hx hb dX12_readsReader_112 rfl (lv_at hl 3 rfl) ?_
          refine lv_iload_n hx hb dX12_readsReader_113 rfl (lv_at hl 4 rfl) ?_
          refine b_ast hx hb hK hP hD hS 7 rfl (by split <;> omega) (by decide) dX12_readsReader_114 (fun H locs hP hS => ?_)
          have hP : va_P D vwCl (wM cI cZ A0 ss (nI t) q97.2.2.2.2.2.1 q97.2.2.2.2.2.2 (nI q97.2.2.1) (nI q97.2.1) q97.2.2.2.1 q97.2.2.2.2.1 ac tr la ma it sr bt nw (upd dr (4 + (4 * (if n < 6 then n else 0))) x1) pa im kp tc) H := hP
          have hD : va_D A (wM cI cZ A0 ss (nI t) q97.2.2.2.2.2.1 q97.2.2.2.2.2.2 (nI q97.2.2.1) (nI q97.2.1) q97.2.2.2.1 q97.2.2.2.2.1 ac tr la ma it sr bt nw (upd dr (4 + (4 * (if n < 6 then n else 0))) x1) pa im kp tc) := hD.sameA [(A0 0), (A0 1), (A0 2), (A0 3), (A0 4), (A0 5), (A0 6), (A0 7), (A0 8), (A0 9), (A0 10), (A0 11)] rfl rfl
          refine lv_aload_n hx hb dX12_readsReader_115 rfl (lv_at hl 5 rfl) ?_
          refine va_get (D := D) (ci := 11) (v := .ref (A0 7)) (C := RX12) (T := TX12) (N := 21) hx hb hts u_X12_readsReader_X12 hown hK.1 hP 0 rfl rfl 14 (by decide) (hts (.fieldLink RX12 28 "NoticeWeekModel" "draft" "[I") (List.mem_of_getElem? (i := 2) rfl)) (fun _ h9 => h9) rfl dX12_readsReader_116 ?_
          refine lv_iload_n hx hb dX12_readsReader_119 rfl (lv_at hl 3 rfl) ?_
          refine lv_iconst (v := (nI 1)) hx hb dX12_readsReader_120 (by decide) ?_
          refine b_add hx hb dX12_readsReader_121 ?_
          refine lv_iload_n hx hb dX12_readsReader_122 rfl (lv_at hl 2 rfl) ?_
          refine b_ast hx hb hK hP hD hS 7 rfl (by split <;> omega) (by decide) dX12_readsReader_123 (fun H locs hP hS => ?_)
          have hP : va_P D vwCl (wM cI cZ A0 ss (nI t) q97.2.2.2.2.2.1 q97.2.2.2.2.2.2 (nI q97.2.2.1) (nI q97.2.1) q97.2.2.2.1 q97.2.2.2.2.1 ac tr la ma it sr bt nw (upd (upd dr (4 + (4 * (if n < 6 then n else 0))) x1) (4 + (4 * (if n < 6 then n else 0)) + 1) q60.1) pa im kp tc) H := hP
          have hD : va_D A (wM cI cZ A0 ss (nI t) q97.2.2.2.2.2.1 q97.2.2.2.2.2.2 (nI q97.2.2.1) (nI q97.2.1) q97.2.2.2.1 q97.2.2.2.2.1 ac tr la ma it sr bt nw (upd (upd dr (4 + (4 * (if n < 6 then n else 0))) x1) (4 + (4 * (if n < 6 then n else 0)) + 1) q60.1) pa im kp tc) := hD.sameA [(A0 0), (A0 1), (A0 2), (A0 3), (A0 4), (A0 5), (A0 6), (A0 7), (A0 8), (A0 9), (A0 10), (A0 11)] rfl rfl
          refine lv_aload_n hx hb dX12_readsReader_124 rfl (lv_at hl 5 rfl) ?_
          refine va_get (D := D) (ci := 11) (v := .ref (A0 7)) (C := RX12) (T := TX12) (N := 21) hx hb hts u_X12_readsReader_X12 hown hK.1 hP 0 rfl rfl 14 (by decide) (hts (.fieldLink RX12 28 "NoticeWeekModel" "draft" "[I") (List.mem_of_getElem? (i := 2) rfl)) (fun _ h9 => h9) rfl dX12_readsReader_125 ?_
          refine lv_iload_n hx hb dX12_readsReader_128 rfl (lv_at hl 3 rfl) ?_
          refine lv_iconst (v := (nI 2)) hx hb dX12_readsReader_129 (by decide) ?_
          refine b_add hx hb dX12_readsReader_130 ?_
          refine lv_iload hx hb dX12_readsReader_131 (lv_at hl 1 rfl) ?_
          refine b_ast hx hb hK hP hD hS 7 rfl (by split <;> omega) (by decide) dX12_readsReader_133 (fun H locs hP hS => ?_)
          have hP : va_P D vwCl (wM cI cZ A0 ss (nI t) q97.2.2.2.2.2.1 q97.2.2.2.2.2.2 (nI q97.2.2.1) (nI q97.2.1) q97.2.2.2.1 q97.2.2.2.2.1 ac tr la ma it sr bt nw (upd (upd (upd dr (4 + (4 * (if n < 6 then n else 0))) x1) (4 + (4 * (if n < 6 then n else 0)) + 1) q60.1) (4 + (4 * (if n < 6 then n else 0)) + 2) q68.1) pa im kp tc) H := hP
          have hD : va_D A (wM cI cZ A0 ss (nI t) q97.2.2.2.2.2.1 q97.2.2.2.2.2.2 (nI q97.2.2.1) (nI q97.2.1) q97.2.2.2.1 q97.2.2.2.2.1 ac tr la ma it sr bt nw (upd (upd (upd dr (4 + (4 * (if n < 6 then n else 0))) x1) (4 + (4 * (if n < 6 then n else 0)) + 1) q60.1) (4 + (4 * (if n < 6 then n else 0)) + 2) q68.1) pa im kp tc) := hD.sameA [(A0 0), (A0 1), (A0 2), (A0 3), (A0 4), (A0 5), (A0 6), (A0 7), (A0 8), (A0 9), (A0 10), (A0 11)] rfl rfl
          refine lv_aload_n hx hb dX12_readsReader_134 rfl (lv_at hl 5 rfl) ?_
          refine va_get (D := D) (ci := 11) (v := .ref (A0 7)) (C := RX12) (T := TX12) (N := 21) hx hb hts u_X12_readsReader_X12 hown hK.1 hP 0 rfl rfl 14 (by decide) (hts (.fieldLink RX12 28 "NoticeWeekModel" "draft" "[I") (List.mem_of_getElem? (i := 2) rfl)) (fun _ h9 => h9) rfl dX12_readsReader_135 ?_
          refine lv_iload_n hx hb dX12_readsReader_138 rfl (lv_at hl 3 rfl) ?_
          refine lv_iconst (v := (nI 3)) hx hb dX12_readsReader_139 (by decide) ?_
          refine b_add hx hb dX12_readsReader_140 ?_
          refine lv_iload hx hb dX12_readsReader_141 (lv_at hl 0 rfl) ?_
          refine b_ast hx hb hK hP hD hS 7 rfl (by split <;> omega) (by decide) dX12_readsReader_143 (fun H locs hP hS => ?_)
          have hP : va_P D vwCl (wM cI cZ A0 ss (nI t) q97.2.2.2.2.2.1 q97.2.2.2.2.2.2 (nI q97.2.2.1) (nI q97.2.1) q97.2.2.2.1 q97.2.2.2.2.1 ac tr la ma it sr bt nw (upd (upd (upd (upd dr (4 + (4 * (if n < 6 then n else 0))) x1) (4 + (4 * (if n < 6 then n else 0)) + 1) q60.1) (4 + (4 * (if n < 6 then n else 0)) + 2) q68.1) (4 + (4 * (if n < 6 then n else 0)) + 3) q77.1) pa im kp tc) H := hP
          have hD : va_D A (wM cI cZ A0 ss (nI t) q97.2.2.2.2.2.1 q97.2.2.2.2.2.2 (nI q97.2.2.1) (nI q97.2.1) q97.2.2.2.1 q97.2.2.2.2.1 ac tr la ma it sr bt nw (upd (upd (upd (upd dr (4 + (4 * (if n < 6 then n else 0))) x1) (4 + (4 * (if n < 6 then n else 0)) + 1) q60.1) (4 + (4 * (if n < 6 then n else 0)) + 2) q68.1) (4 + (4 * (if n < 6 then n else 0)) + 3) q77.1) pa im kp tc) := hD.sameA [(A0 0), (A0 1), (A0 2), (A0 3), (A0 4), (A0 5), (A0 6), (A0 7), (A0 8), (A0 9), (A0 10), (A0 11)] rfl rfl
          have hd4 : (upd (upd (upd (upd dr (4 + (4 * (if n < 6 then n else 0))) x1) (4 + (4 * (if n < 6 then n else 0)) + 1) q60.1) (4 + (4 * (if n < 6 then n else 0)) + 2) q68.1) (4 + (4 * (if n < 6 then n else 0)) + 3) q77.1) 3 = nI n := by rw [pk_un (by omega), pk_un (by omega), pk_un (by omega), pk_un (by omega)]; exact hd
          refine lv_aload_n hx hb dX12_readsReader_144 rfl (lv_at hl 5 rfl) ?_
          refine va_get (D := D) (ci := 11) (v := .ref (A0 7)) (C := RX12) (T := TX12) (N := 21) hx hb hts u_X12_readsReader_X12 hown hK.1 hP 0 rfl rfl 14 (by decide) (hts (.fieldLink RX12 28 "NoticeWeekModel" "draft" "[I") (List.mem_of_getElem? (i := 2) rfl)) (fun _ h9 => h9) rfl dX12_readsReader_145 ?_
          refine lv_iconst (v := (nI 3)) hx hb dX12_readsReader_148 (by decide) ?_
          refine lv_dup2_11 hx hb dX12_readsReader_149 rfl rfl ?_
          refine b_ald hx hb hK hP 7 rfl (by omega) (by decide) dX12_readsReader_150 ?_
          rw [hd4]
          refine lv_iconst (v := (nI 1)) hx hb dX12_readsReader_151 (by decide) ?_
          refine b_add hx hb dX12_readsReader_152 ?_
          refine b_ast hx hb hK hP hD hS 7 rfl (by omega) (by decide) dX12_readsReader_153 (fun H locs hP hS => ?_)
          have hP : va_P D vwCl (wM cI cZ A0 ss (nI t) q97.2.2.2.2.2.1 q97.2.2.2.2.2.2 (nI q97.2.2.1) (nI q97.2.1) q97.2.2.2.1 q97.2.2.2.2.1 ac tr la ma it sr bt nw (upd (upd (upd (upd (upd dr (4 + (4 * (if n < 6 then n else 0))) x1) (4 + (4 * (if n < 6 then n else 0)) + 1) q60.1) (4 + (4 * (if n < 6 then n else 0)) + 2) q68.1) (4 + (4 * (if n < 6 then n else 0)) + 3) q77.1) 3 (nI (n + 1))) pa im kp tc) H := hP
          have hD : va_D A (wM cI cZ A0 ss (nI t) q97.2.2.2.2.2.1 q97.2.2.2.2.2.2 (nI q97.2.2.1) (nI q97.2.1) q97.2.2.2.1 q97.2.2.2.2.1 ac tr la ma it sr bt nw (upd (upd (upd (upd (upd dr (4 + (4 * (if n < 6 then n else 0))) x1) (4 + (4 * (if n < 6 then n else 0)) + 1) q60.1) (4 + (4 * (if n < 6 then n else 0)) + 2) q68.1) (4 + (4 * (if n < 6 then n else 0)) + 3) q77.1) 3 (nI (n + 1))) pa im kp tc) := hD.sameA [(A0 0), (A0 1), (A0 2), (A0 3), (A0 4), (A0 5), (A0 6), (A0 7), (A0 8), (A0 9), (A0 10), (A0 11)] rfl rfl
          have E : pRead bt t n σ dr = (q97.2, (upd (upd (upd (upd (upd dr (4 + (4 * (if n < 6 then n else 0))) x1) (4 + (4 * (if n < 6 then n else 0)) + 1) q60.1) (4 + (4 * (if n < 6 then n else 0)) + 2) q68.1) (4 + (4 * (if n < 6 then n else 0)) + 3) q77.1) 3 (nI (n + 1)))) := (by subst ex1; have r1 : pR1 bt t n σ = q26 := eq26; have r2 : pR2 bt t n σ = q60 := (by unfold pR2; rw [r1]; exact eq60); have r3 : pR3 bt t n σ = q68 := (by unfold pR3; rw [r2]; exact eq68); have r4 : pR4 bt t n σ = q77 := (by unfold pR4; rw [r3]; exact eq77); have r5 : pR5 bt t n σ = q97 := (by unfold pR5; rw [r4]; exact eq97); unfold pRead; rw [r5, if_pos c8, r2, r3, r4]; rfl)
          rw [E]
          exact b_vretM hx hb hr hP hS dX12_readsReader_154 hlocks
      · refine lv_aload_n hx hb dX12_readsReader_83 rfl (lv_at hl 5 rfl) ?_
        refine va_get (D := D) (ci := 11) (v := .int q77.2.2.2.1) (C := RX12) (T := TX12) (N := 21) hx hb hts u_X12_readsReader_X12 hown hK.1 hP 0 rfl rfl 11 (by decide) (hts (.fieldLink RX12 92 "NoticeWeekModel" "token" "I") (List.mem_of_getElem? (i := 3) rfl)) (fun _ h9 => h9) rfl dX12_readsReader_84 ?_
        refine lv_iconst (v := 4) hx hb dX12_readsReader_87 (by decide) ?_
        refine lv_icmp_ne (tgt := 95) hx hb dX12_readsReader_88 (by decide) (fun c9 => ?_) (fun c9 => ?_)
        · refine lv_iconst (v := 0) hx hb dX12_readsReader_95 (by decide) ?_
          exact K7 _ (by first | with_reducible rfl | (simp only [bI, eq_false c9, not_true_eq_false, not_false_eq_true, ite_true, ite_false, if_true, if_false, and_self, and_true, true_and, false_and, and_false, or_true, true_or, or_false, false_or]; done) | (simp [bI, eq_false c9]; done) | omega)
        · refine lv_iconst (v := 1) hx hb dX12_readsReader_91 (by decide) ?_
          refine lv_goto (tgt := 96) hx hb dX12_readsReader_92 (by decide) ?_
          exact K7 _ (by first | with_reducible rfl | (simp only [bI, eq_true c9, not_true_eq_false, not_false_eq_true, ite_true, ite_false, if_true, if_false, and_self, and_true, true_and, false_and, and_false, or_true, true_or, or_false, false_or]; done) | (simp [bI, eq_true c9]; done) | omega)
    · refine lv_aload_n hx hb dX12_readsReader_32 rfl (lv_at hl 1 rfl) ?_
      refine va_get (D := D) (ci := 11) (v := .ref (A0 7)) (C := RX12) (T := TX12) (N := 21) hx hb hts u_X12_readsReader_X12 hown hK.1 hP 0 rfl rfl 14 (by decide) (hts (.fieldLink RX12 28 "NoticeWeekModel" "draft" "[I") (List.mem_of_getElem? (i := 2) rfl)) (fun _ h9 => h9) rfl dX12_readsReader_33 ?_
      refine lv_iconst (v := (nI 3)) hx hb dX12_readsReader_36 (by decide) ?_
      refine b_ald hx hb hK hP 7 rfl (by omega) (by decide) dX12_readsReader_37 ?_
      rw [hd]
      refine lv_bipush (v := (nI 6)) hx hb dX12_readsReader_38 (by decide) ?_
      refine b_ge (tgt := 52) hx hb (by omega) (by omega) dX12_readsReader_40 (by decide) (fun c10 => ?_) (fun c10 => ?_)
      · refine lv_iconst (v := 0) hx hb dX12_readsReader_52 (by decide) ?_
        exact K5 _ (by first | (rw [if_pos (by omega)]; done) | (rw [if_neg (by omega)]; rfl))
      · refine lv_aload_n hx hb dX12_readsReader_43 rfl (lv_at hl 1 rfl) ?_
        refine va_get (D := D) (ci := 11) (v := .ref (A0 7)) (C := RX12) (T := TX12) (N := 21) hx hb hts u_X12_readsReader_X12 hown hK.1 hP 0 rfl rfl 14 (by decide) (hts (.fieldLink RX12 28 "NoticeWeekModel" "draft" "[I") (List.mem_of_getElem? (i := 2) rfl)) (fun _ h9 => h9) rfl dX12_readsReader_44 ?_
        refine lv_iconst (v := (nI 3)) hx hb dX12_readsReader_47 (by decide) ?_
        refine b_ald hx hb hK hP 7 rfl (by omega) (by decide) dX12_readsReader_48 ?_
        rw [hd]
        refine lv_goto (tgt := 53) hx hb dX12_readsReader_49 (by decide) ?_
        exact K5 _ (by first | (rw [if_pos (by omega)]; done) | (rw [if_neg (by omega)]; rfl))
  · refine lv_aload_n hx hb dX12_readsReader_9 rfl (lv_at hl 1 rfl) ?_
    refine va_get (D := D) (ci := 11) (v := .ref (A0 7)) (C := RX12) (T := TX12) (N := 21) hx hb hts u_X12_readsReader_X12 hown hK.1 hP 0 rfl rfl 14 (by decide) (hts (.fieldLink RX12 28 "NoticeWeekModel" "draft" "[I") (List.mem_of_getElem? (i := 2) rfl)) (fun _ h9 => h9) rfl dX12_readsReader_10 ?_
    refine lv_iconst (v := (nI 3)) hx hb dX12_readsReader_13 (by decide) ?_
    refine b_ald hx hb hK hP 7 rfl (by omega) (by decide) dX12_readsReader_14 ?_
    rw [hd]
    refine lv_bipush (v := (nI 6)) hx hb dX12_readsReader_15 (by decide) ?_
    refine b_ge (tgt := 24) hx hb (by omega) (by omega) dX12_readsReader_17 (by decide) (fun c11 => ?_) (fun c11 => ?_)
    · refine lv_iconst (v := 0) hx hb dX12_readsReader_24 (by decide) ?_
      exact K3 _ (by first | with_reducible rfl | (simp only [bI, eq_true c11, not_true_eq_false, not_false_eq_true, ite_true, ite_false, if_true, if_false, and_self, and_true, true_and, false_and, and_false, or_true, true_or, or_false, false_or]; done) | (simp [bI, eq_true c11]; done) | omega)
    · refine lv_iconst (v := 1) hx hb dX12_readsReader_20 (by decide) ?_
      refine lv_goto (tgt := 25) hx hb dX12_readsReader_21 (by decide) ?_
      exact K3 _ (by first | with_reducible rfl | (simp only [bI, eq_true c11, not_true_eq_false, not_false_eq_true, ite_true, ite_false, if_true, if_false, and_self, and_true, true_and, false_and, and_false, or_true, true_or, or_false, false_or]; done) | (simp [bI, eq_true c11]; done) | omega)
