/-! MODEL: the town's text, whole -/
abbrev pGo (σ : PS) : Prop := pWell σ ∧ σ.2.2.1 = 1 ∧ ¬ kindOf σ.2.2.2.1 ≤ 0
def pStep (bt : Nat → Int32) (t : Nat) (k : Nat) (S : PS × (Nat → Int32)) : PS × (Nat → Int32) := if pGo S.1 then pRead bt t k S.1 S.2 else S
def pL (bt : Nat → Int32) (t : Nat) (S : PS × (Nat → Int32)) (k : Nat) : PS × (Nat → Int32) := itr (pStep bt t) k S
theorem pL_go {bt : Nat → Int32} {t k : Nat} {S : PS × (Nat → Int32)} (h : pGo (pL bt t S k).1) : pRead bt t k (pL bt t S k).1 (pL bt t S k).2 = pL bt t S (k + 1) := by
  show _ = pStep bt t k (pL bt t S k)
  unfold pStep; rw [if_pos h]
theorem pL_stop {bt : Nat → Int32} {t k : Nat} {S : PS × (Nat → Int32)} (h : ¬ pGo (pL bt t S k).1) (n : Nat) : pL bt t S (k + n) = pL bt t S k := by
  induction n with
  | zero => rfl
  | succ n ih =>
    show pStep bt t (k + n) (pL bt t S (k + n)) = _
    rw [ih]; unfold pStep; rw [if_neg h]
theorem pL_stop7 {bt : Nat → Int32} {t k : Nat} {S : PS × (Nat → Int32)} (hk : k ≤ 7) (h : ¬ pGo (pL bt t S k).1) : pL bt t S k = pL bt t S 7 := by
  have := pL_stop h (7 - k); rw [show k + (7 - k) = 7 by omega] at this; exact this.symm
/-- a reader's text goes well only where there is room -/
theorem pTake_bad {bt : Nat → Int32} {t : Nat} {is kd : Int32} {σ : PS} (h : ¬ pWell σ) : pTake bt t is kd σ = (0, σ) := by unfold pTake; rw [if_pos h]
theorem pFig_bad {bt : Nat → Int32} {t : Nat} {lo hi : Int32} {σ : PS} (h : ¬ pWell σ) : (pFig bt t lo hi σ).2 = σ := by unfold pFig; split <;> rw [pTake_bad h]
theorem pNext_bad {bt : Nat → Int32} {t : Nat} {lo hi : Int32} {σ : PS} (h : ¬ pWell σ) : (pNext bt t lo hi σ).2 = σ := by unfold pNext; rw [pTake_bad h]; exact pFig_bad h
theorem nI_nneg {n : Nat} (h : n ≤ 1000) : ¬ nI n < 0 := nI_pos (by omega)
def PSz (σ : PS) : Prop := σ.1 ≤ 120 ∧ σ.2.1 ≤ 120
theorem pTake_z {bt : Nat → Int32} {t : Nat} (ht : t ≤ 120) {is kd : Int32} {σ : PS} (h : PSok t σ) (hz : σ.1 ≤ 120) : (pTake bt t is kd σ).2.1 ≤ 120 := by
  unfold pTake; split
  · exact hz
  · split
    · exact hz
    · exact Nat.le_trans h ht
theorem pFig_z {bt : Nat → Int32} {t : Nat} (ht : t ≤ 120) {lo hi : Int32} {σ : PS} (h : PSok t σ) (hz : σ.1 ≤ 120) : (pFig bt t lo hi σ).2.1 ≤ 120 := by
  unfold pFig; split <;> exact pTake_z ht h hz
theorem pNext_z {bt : Nat → Int32} {t : Nat} (ht : t ≤ 120) {lo hi : Int32} {σ : PS} (h : PSok t σ) (hz : σ.1 ≤ 120) : (pNext bt t lo hi σ).2.1 ≤ 120 := pFig_z ht (pTake_ok h) (pTake_z ht h hz)
theorem pR1_ok {bt : Nat → Int32} {t n : Nat} {σ : PS} (h : PSok t σ) : PSok t (pR1 bt t n σ).2 := by unfold pR1; exact pTake_ok h
theorem pR2_ok {bt : Nat → Int32} {t n : Nat} {σ : PS} (h : PSok t σ) : PSok t (pR2 bt t n σ).2 := by unfold pR2; exact pFig_ok (pR1_ok h)
theorem pR3_ok {bt : Nat → Int32} {t n : Nat} {σ : PS} (h : PSok t σ) : PSok t (pR3 bt t n σ).2 := by unfold pR3; exact pNext_ok (pR2_ok h)
theorem pR4_ok {bt : Nat → Int32} {t n : Nat} {σ : PS} (h : PSok t σ) : PSok t (pR4 bt t n σ).2 := by unfold pR4; exact pNext_ok (pR3_ok h)
theorem pR5_ok {bt : Nat → Int32} {t n : Nat} {σ : PS} (h : PSok t σ) : PSok t (pR5 bt t n σ).2 := by unfold pR5; exact pTake_ok (pR4_ok h)
theorem pR1_z {bt : Nat → Int32} {t n : Nat} {σ : PS} (ht : t ≤ 120) (h : PSok t σ) (hz : σ.1 ≤ 120) : (pR1 bt t n σ).2.1 ≤ 120 := by unfold pR1; exact pTake_z ht h hz
theorem pR2_z {bt : Nat → Int32} {t n : Nat} {σ : PS} (ht : t ≤ 120) (h : PSok t σ) (hz : σ.1 ≤ 120) : (pR2 bt t n σ).2.1 ≤ 120 := by unfold pR2; exact pFig_z ht (pR1_ok h) (pR1_z ht h hz)
theorem pR3_z {bt : Nat → Int32} {t n : Nat} {σ : PS} (ht : t ≤ 120) (h : PSok t σ) (hz : σ.1 ≤ 120) : (pR3 bt t n σ).2.1 ≤ 120 := by unfold pR3; exact pNext_z ht (pR2_ok h) (pR2_z ht h hz)
theorem pR4_z {bt : Nat → Int32} {t n : Nat} {σ : PS} (ht : t ≤ 120) (h : PSok t σ) (hz : σ.1 ≤ 120) : (pR4 bt t n σ).2.1 ≤ 120 := by unfold pR4; exact pNext_z ht (pR3_ok h) (pR3_z ht h hz)
theorem pR5_z {bt : Nat → Int32} {t n : Nat} {σ : PS} (ht : t ≤ 120) (h : PSok t σ) (hz : σ.1 ≤ 120) : (pR5 bt t n σ).2.1 ≤ 120 := by unfold pR5; exact pTake_z ht (pR4_ok h) (pR4_z ht h hz)
theorem if_fst {α β : Type} {c : Prop} [Decidable c] (x : α) (y z : β) : (if c then (x, y) else (x, z)).1 = x := by split <;> rfl
theorem pRead_1 {bt : Nat → Int32} {t n : Nat} {σ : PS} {dr : Nat → Int32} : (pRead bt t n σ dr).1 = (pR5 bt t n σ).2 := by unfold pRead; exact if_fst _ _ _
theorem pRead_ok {bt : Nat → Int32} {t n : Nat} {σ : PS} {dr : Nat → Int32} (h : PSok t σ) : PSok t (pRead bt t n σ dr).1 := by rw [pRead_1]; exact pR5_ok h
theorem pR5_room {bt : Nat → Int32} {t n : Nat} {σ : PS} (hz : σ.1 ≤ 120) (h : pWell (pR5 bt t n σ).2) (hw : pWell σ) : n < 6 := by
  by_cases hn : n < 6
  · exact hn
  · exfalso
    have h1 : ¬ pWell (pR1 bt t n σ).2 := by
      unfold pR1 pTake
      rw [if_neg (fun q => q hw), if_pos (show bI (n < 6) = 0 from bI_0.mpr hn)]
      exact nI_nneg (by omega)
    have h2 : (pR2 bt t n σ).2 = (pR1 bt t n σ).2 := pFig_bad h1
    have h3 : (pR3 bt t n σ).2 = (pR1 bt t n σ).2 := by unfold pR3; rw [h2]; exact pNext_bad h1
    have h4 : (pR4 bt t n σ).2 = (pR1 bt t n σ).2 := by unfold pR4; rw [h3]; exact pNext_bad h1
    have h5 : (pR5 bt t n σ).2 = (pR1 bt t n σ).2 := by unfold pR5; rw [h4, pTake_bad h1]
    rw [h5] at h; exact h1 h
theorem pDr_3 {dr : Nat → Int32} {n : Nat} {a b x d : Int32} : pDr dr n a b x d 3 = nI (n + 1) := by unfold pDr; exact pk_us
theorem pRead_2 {bt : Nat → Int32} {t n : Nat} {σ : PS} {dr : Nat → Int32} (h : pWell (pR5 bt t n σ).2) : (pRead bt t n σ dr).2 = pDr dr n (kindOf σ.2.2.2.1) (pR2 bt t n σ).1 (pR3 bt t n σ).1 (pR4 bt t n σ).1 := by
  unfold pRead; rw [if_pos h]
theorem pRead_dr {bt : Nat → Int32} {t n : Nat} {σ : PS} {dr : Nat → Int32} (hz : σ.1 ≤ 120) (hw : pWell σ) (h : pWell (pRead bt t n σ dr).1) : n < 6 ∧ (pRead bt t n σ dr).2 3 = nI (n + 1) := by
  rw [pRead_1] at h
  refine ⟨pR5_room hz h hw, ?_⟩
  rw [pRead_2 h]; exact pDr_3
theorem pRead_z {bt : Nat → Int32} {t n : Nat} {σ : PS} {dr : Nat → Int32} (ht : t ≤ 120) (h : PSok t σ) (hz : σ.1 ≤ 120) : (pRead bt t n σ dr).1.1 ≤ 120 := by rw [pRead_1]; exact pR5_z ht h hz
/-- what holds as the readers are read -/
def pInv (t k : Nat) (S : PS × (Nat → Int32)) : Prop := PSok t S.1 ∧ S.1.1 ≤ 120 ∧ (pWell S.1 → k ≤ 6 ∧ S.2 3 = nI k)
theorem pInv_step {bt : Nat → Int32} {t k : Nat} {S : PS × (Nat → Int32)} (ht : t ≤ 120) (h : pInv t k S) (hw : pWell S.1) : pInv t (k + 1) (pRead bt t k S.1 S.2) :=
  ⟨pRead_ok h.1, pRead_z ht h.1 h.2.1, fun q => by have := pRead_dr h.2.1 hw q; exact ⟨by omega, this.2⟩⟩
theorem pL_okall {bt : Nat → Int32} {t : Nat} {S : PS × (Nat → Int32)} (h : PSok t S.1) (k : Nat) : PSok t (pL bt t S k).1 := by
  induction k with
  | zero => exact h
  | succ k ih =>
    show PSok t (pStep bt t k (pL bt t S k)).1
    unfold pStep; split
    · exact pRead_ok ih
    · exact ih
def zer (dr : Nat → Int32) (n : Nat) : Nat → Int32 := itr (fun k f => upd f k 0) n dr
theorem zer_at {dr : Nat → Int32} {n j : Nat} (h : j < n) : zer dr n j = 0 := by
  induction n with
  | zero => omega
  | succ n ih =>
    show upd (zer dr n) n 0 j = 0
    by_cases hj : j = n
    · subst hj; exact pk_us
    · rw [pk_un hj]; exact ih (by omega)
def pT1 (bt : Nat → Int32) (t : Nat) (fk : Int32) : PS := (pTake bt t (bI ((adv bt t 0).2.1 = 1 ∧ (adv bt t 0).2.2 = 119)) 1 (0, (adv bt t 0).1, (adv bt t 0).2.1, (adv bt t 0).2.2, fk, -1)).2
def pT2 (bt : Nat → Int32) (t : Nat) (fk : Int32) : Int32 × PS := pFig bt t 0 36 (pT1 bt t fk)
def pT3 (bt : Nat → Int32) (t : Nat) (fk : Int32) : PS := (pTake bt t (bI ((pT2 bt t fk).2.2.2.1 = 4)) 1 (pT2 bt t fk).2).2
def pT4 (bt : Nat → Int32) (t : Nat) (fk : Int32) (dr : Nat → Int32) : PS × (Nat → Int32) := pL bt t (pT3 bt t fk, upd (zer dr 28) 1 (pT2 bt t fk).1) 7
def pT5 (bt : Nat → Int32) (t : Nat) (S : PS) : PS := if pWell S then (if S.2.2.1 = 0 then S else (pTake bt t 0 1 S).2) else S
def m_town (bt : Nat → Int32) (t : Nat) (fk ac : Int32) (dr nw : Nat → Int32) : Int32 × PS × (Nat → Int32) × (Nat → Int32) × Int32 :=
  if pWell (pT5 bt t (pT4 bt t fk dr).1) then (cpy (upd (pT4 bt t fk dr).2 0 1) 0 nw 0 28 3, pT5 bt t (pT4 bt t fk dr).1, upd (pT4 bt t fk dr).2 0 1, cpy (upd (pT4 bt t fk dr).2 0 1) 0 nw 0 28, nI 0)
  else ((-1000100) - (pT5 bt t (pT4 bt t fk dr).1).2.2.2.2.2, pT5 bt t (pT4 bt t fk dr).1, (pT4 bt t fk dr).2, nw, ac)
theorem adv_le {bt : Nat → Int32} {t : Nat} : (adv bt t 0).1 ≤ t := by unfold adv; exact adA_le (Nat.zero_le t)
theorem pT1_ok {bt : Nat → Int32} {t : Nat} {fk : Int32} : PSok t (pT1 bt t fk) := by unfold pT1; exact pTake_ok (show (adv bt t 0).1 ≤ t from adv_le)
theorem pT2_ok {bt : Nat → Int32} {t : Nat} {fk : Int32} : PSok t (pT2 bt t fk).2 := by unfold pT2; exact pFig_ok pT1_ok
theorem pT3_ok {bt : Nat → Int32} {t : Nat} {fk : Int32} : PSok t (pT3 bt t fk) := by unfold pT3; exact pTake_ok pT2_ok
theorem pT1_z {bt : Nat → Int32} {t : Nat} {fk : Int32} (ht : t ≤ 120) : (pT1 bt t fk).1 ≤ 120 := by unfold pT1; exact pTake_z ht (show (adv bt t 0).1 ≤ t from adv_le) (Nat.zero_le 120)
theorem pT2_z {bt : Nat → Int32} {t : Nat} {fk : Int32} (ht : t ≤ 120) : (pT2 bt t fk).2.1 ≤ 120 := by unfold pT2; exact pFig_z ht pT1_ok (pT1_z ht)
theorem pT3_z {bt : Nat → Int32} {t : Nat} {fk : Int32} (ht : t ≤ 120) : (pT3 bt t fk).1 ≤ 120 := by unfold pT3; exact pTake_z ht pT2_ok (pT2_z ht)
theorem pInv_0 {t : Nat} {σ : PS} {d : Nat → Int32} (h1 : PSok t σ) (h2 : σ.1 ≤ 120) (h3 : d 3 = nI 0) : pInv t 0 (σ, d) := ⟨h1, h2, fun _ => ⟨by omega, h3⟩⟩
theorem pT3_inv {bt : Nat → Int32} {t : Nat} {fk : Int32} {dr : Nat → Int32} (ht : t ≤ 120) : pInv t 0 (pT3 bt t fk, upd (zer dr 28) 1 (pT2 bt t fk).1) :=
  pInv_0 pT3_ok (pT3_z ht) (by rw [pk_un (by decide)]; exact zer_at (by decide))
theorem u_X12_town_X12 : ∀ w ∈ wsX120, w ∈ wsX12_town := fun _ h => List.mem_cons_of_mem _ (List.mem_append_right _ h)
set_option maxHeartbeats 4000000 in
set_option maxRecDepth 100000 in
theorem c_X12_town (l : Launch) (D : va_G) (cI cZ cT : ClassId) (A0 : Nat → Nat) (ss : Int32) (t : Nat) (fk fp ap sp tk vl ac tr : Int32) (la ma it sr bt nw dr pa im kp tc : Nat → Int32) (ht : t ≤ 120) : Met l yX12_town wsX12_town ({ frames := 6, cells := 0, slots := 0, locals := 135 }) (pM D cI cZ cT [.ref (A0 0)] (wM cI cZ A0 ss (nI t) fk fp ap sp tk vl ac tr la ma it sr bt nw dr pa im kp tc)) (qM D (some (.int ((m_town bt t fk ac dr nw).1))) (wM cI cZ A0 ss (nI 0) ((m_town bt t fk ac dr nw).2.1.2.2.2.2.1) ((m_town bt t fk ac dr nw).2.1.2.2.2.2.2) (nI (m_town bt t fk ac dr nw).2.1.2.1) (nI (m_town bt t fk ac dr nw).2.1.1) ((m_town bt t fk ac dr nw).2.1.2.2.1) ((m_town bt t fk ac dr nw).2.1.2.2.2.1) ((m_town bt t fk ac dr nw).2.2.2.2) tr la ma it sr bt ((m_town bt t fk ac dr nw).2.2.2.1) ((m_town bt t fk ac dr nw).2.2.1) pa im kp tc) (adr (wM cI cZ A0 ss (nI t) fk fp ap sp tk vl ac tr la ma it sr bt nw dr pa im kp tc))) 0 0 (adr (wM cI cZ A0 ss (nI t) fk fp ap sp tk vl ac tr la ma it sr bt nw dr pa im kp tc)) := by
  refine Met.ofW (cc := cX12_town) (maxL := 2) (ret := (some .int)) (by decide) rfl ?_
  intro p e s m args below meth c s₁ B hml hv
  obtain ⟨rfl, hP, hD0, hK⟩ := hv
  have hx := B.exec
  have hb := B.bytes
  have hr := B.returns
  have hts := atoms_spec (ws := wsX12_town) B.pre
  have hown : s.vm.findClass RX12 = some m.cls := findClass_of_methodNamed B.named
  have hlocks := B.notSynchronized
  have hD := hD0.toAdr
  have hS : va_S (adr (wM cI cZ A0 ss (nI t) fk fp ap sp tk vl ac tr la ma it sr bt nw dr pa im kp tc)) s.heap s.heap [] := va_S.rf
  generalize adr (wM cI cZ A0 ss (nI t) fk fp ap sp tk vl ac tr la ma it sr bt nw dr pa im kp tc) = A at hD hS ⊢
  have hl := lv_entry ([.ref (A0 0)]) (n := 2) (Nat.le_of_ble_eq_true rfl)
  rw [lg_entry_eq]
  generalize (lg_sl ([.ref (A0 0)]) ++ List.replicate (2 - (lg_sl ([.ref (A0 0)])).length) Slot.unset).toArray = ls at hl ⊢
  have hl : lv_has ls 2 [(0, .ref (A0 0))] := hl
  refine lv_iconst (v := (nI 0)) hx hb dX12_town_0 (by decide) ?_
  refine lv_istore_n (lv' := [(1, .int (nI 0)), (0, .ref (A0 0))]) hx hb dX12_town_1 rfl hl (by decide) rfl (fun ls hl => ?_)
  refine b_loopM (N := 28) (I := fun kz ls H locs => lv_has ls 2 [(1, .int (nI (kz))), (0, .ref (A0 0))] ∧ va_P D vwCl (wM cI cZ A0 ss (nI t) fk fp ap sp tk vl ac tr la ma it sr bt nw (zer dr kz) pa im kp tc) H ∧ va_S A s.heap H locs) (fun kz hkz ih1 ls H locs hI => ?_) 0 (by omega) ⟨lv_sub hl [0, 1] rfl, hP, hS⟩
  obtain ⟨hl, hP, hS⟩ := hI
  have hl : lv_has ls 2 [(1, .int (nI (kz))), (0, .ref (A0 0))] := hl
  have hP : va_P D vwCl (wM cI cZ A0 ss (nI t) fk fp ap sp tk vl ac tr la ma it sr bt nw (zer dr kz) pa im kp tc) H := hP
  have hD : va_D A (wM cI cZ A0 ss (nI t) fk fp ap sp tk vl ac tr la ma it sr bt nw (zer dr kz) pa im kp tc) := hD.sameA [(A0 0), (A0 1), (A0 2), (A0 3), (A0 4), (A0 5), (A0 6), (A0 7), (A0 8), (A0 9), (A0 10), (A0 11)] rfl rfl
  refine lv_iload_n hx hb dX12_town_2 rfl (lv_at hl 0 rfl) ?_
  refine lv_bipush (v := (nI 28)) hx hb dX12_town_3 (by decide) ?_
  refine b_ge (tgt := 21) hx hb (by omega) (by omega) dX12_town_5 (by decide) (fun c2 => ?_) (fun c2 => ?_)
  · have h_kz : 28 = kz := by omega
    subst h_kz
    refine lv_aload_n hx hb dX12_town_21 rfl (lv_at hl 1 rfl) ?_
    refine lv_iconst (v := (nI 0)) hx hb dX12_town_22 (by decide) ?_
    refine b_put (C := RX12) (T := TX12) (N := 21) hx hb hts u_X12_town_X12 tyX12 tyX12_ok nmX12 hown hK hP hD hS 0 rfl rfl 9 (by decide) (hts (.fieldLink RX12 80 "NoticeWeekModel" "at" "I") (List.mem_of_getElem? (i := 2) rfl)) rfl (by decide +kernel) (Nat.le_of_ble_eq_true rfl) dX12_town_23 (fun H locs hP hS => ?_)
    have hP : va_P D vwCl (wM cI cZ A0 ss (nI t) fk fp (nI 0) sp tk vl ac tr la ma it sr bt nw (zer dr 28) pa im kp tc) H := hP
    have hD : va_D A (wM cI cZ A0 ss (nI t) fk fp (nI 0) sp tk vl ac tr la ma it sr bt nw (zer dr 28) pa im kp tc) := hD.sameA [(A0 0), (A0 1), (A0 2), (A0 3), (A0 4), (A0 5), (A0 6), (A0 7), (A0 8), (A0 9), (A0 10), (A0 11)] rfl rfl
    refine lv_aload_n hx hb dX12_town_26 rfl (lv_at hl 1 rfl) ?_
    refine lv_iconst (v := (-1)) hx hb dX12_town_27 (by decide) ?_
    refine b_put (C := RX12) (T := TX12) (N := 21) hx hb hts u_X12_town_X12 tyX12 tyX12_ok nmX12 hown hK hP hD hS 0 rfl rfl 8 (by decide) (hts (.fieldLink RX12 95 "NoticeWeekModel" "faultPlace" "I") (List.mem_of_getElem? (i := 3) rfl)) rfl (by decide +kernel) (Nat.le_of_ble_eq_true rfl) dX12_town_28 (fun H locs hP hS => ?_)
    have hP : va_P D vwCl (wM cI cZ A0 ss (nI t) fk (-1) (nI 0) sp tk vl ac tr la ma it sr bt nw (zer dr 28) pa im kp tc) H := hP
    have hD : va_D A (wM cI cZ A0 ss (nI t) fk (-1) (nI 0) sp tk vl ac tr la ma it sr bt nw (zer dr 28) pa im kp tc) := hD.sameA [(A0 0), (A0 1), (A0 2), (A0 3), (A0 4), (A0 5), (A0 6), (A0 7), (A0 8), (A0 9), (A0 10), (A0 11)] rfl rfl
    refine lv_aload_n hx hb dX12_town_31 rfl (lv_at hl 1 rfl) ?_
    refine b_callM [0, 1, 2, 3, 4, 5, 6, 7, 8, 9, 10, 11] (va_runV (As := []) (rest := []) ⟨hx, hb, hml, hown, hts⟩ (c_X12_advances l D cI cZ cT A0 ss t fk (-1) 0 sp tk vl ac tr la ma it sr bt nw (zer dr 28) pa im kp tc ht (Nat.zero_le t)) (cwV 0 hts gX12_town_X12_advances rfl rfl rfl (by decide +kernel) ⟨(Nat.le_of_ble_eq_true rfl), (Nat.le_of_ble_eq_true rfl)⟩) (b_pVM hK hP hD [0, 1, 2, 3, 4, 5, 6, 7, 8, 9, 10, 11] (by decide) rfl rfl 0 rfl rfl) rfl rfl hl.1 rfl (lv_room (Nat.le_of_ble_eq_true rfl)) dX12_town_32 ⟨Nat.zero_le _, Nat.zero_le _⟩).run hP hD hS rfl (Nat.le_of_ble_eq_true rfl) (fun H locs hP hS => ?_)
    have hP : va_P D vwCl (wM cI cZ A0 ss (nI t) fk (-1) (nI (adv bt t 0).1) (nI 0) ((adv bt t 0).2.1) ((adv bt t 0).2.2) ac tr la ma it sr bt nw (zer dr 28) pa im kp tc) H := hP
    generalize eq32 : adv bt t 0 = q32 at hP ⊢
    have hP : va_P D vwCl (wM cI cZ A0 ss (nI t) fk (-1) (nI q32.1) (nI 0) q32.2.1 q32.2.2 ac tr la ma it sr bt nw (zer dr 28) pa im kp tc) H := hP
    have hD : va_D A (wM cI cZ A0 ss (nI t) fk (-1) (nI q32.1) (nI 0) q32.2.1 q32.2.2 ac tr la ma it sr bt nw (zer dr 28) pa im kp tc) := hD.sameA [(A0 0), (A0 1), (A0 2), (A0 3), (A0 4), (A0 5), (A0 6), (A0 7), (A0 8), (A0 9), (A0 10), (A0 11)] rfl rfl
    have ha0 : q32.1 ≤ t := by rw [← eq32]; exact adv_le
    have ha1 : PSok t ((0, q32.1, q32.2.1, q32.2.2, fk, -1) : PS) := ha0
    refine lv_aload_n hx hb dX12_town_35 rfl (lv_at hl 1 rfl) ?_
    refine b_join (jpc := 58) (rest' := [.ref (A0 0)]) (P := fun v : Int32 => v = ((bI (q32.2.1 = 1 ∧ q32.2.2 = 119)) : Int32)) (fun v3 ev3 => ?_) (fun K4 => ?_)
    · subst ev3
      refine lv_iconst (v := 1) hx hb dX12_town_58 (by decide) ?_
      refine b_callM [0, 1, 2, 3, 4, 5, 6, 7, 8, 9, 10, 11] (va_runV (As := [.int (bI (q32.2.1 = 1 ∧ q32.2.2 = 119)), .int 1]) (rest := []) ⟨hx, hb, hml, hown, hts⟩ (c_X12_takes l D cI cZ cT A0 ss t ac tr la ma it sr bt nw (zer dr 28) pa im kp tc (0, q32.1, q32.2.1, q32.2.2, fk, (-1)) (bI (q32.2.1 = 1 ∧ q32.2.2 = 119)) 1 ht ha1) (cwV 2 hts gX12_town_X12_takes rfl rfl rfl (by decide +kernel) ⟨(Nat.le_of_ble_eq_true rfl), (Nat.le_of_ble_eq_true rfl)⟩) (b_pVM hK hP hD [0, 1, 2, 3, 4, 5, 6, 7, 8, 9, 10, 11] (by decide) rfl rfl 0 rfl rfl) rfl rfl hl.1 rfl (lv_room (Nat.le_of_ble_eq_true rfl)) dX12_town_59 ⟨Nat.zero_le _, Nat.zero_le _⟩).run hP hD hS rfl (Nat.le_of_ble_eq_true rfl) (fun H locs hP hS => ?_)
      have hP : va_P D vwCl (wM cI cZ A0 ss (nI t) ((pTake bt t (bI (q32.2.1 = 1 ∧ q32.2.2 = 119)) 1 (0, q32.1, q32.2.1, q32.2.2, fk, (-1))).2.2.2.2.2.1) ((pTake bt t (bI (q32.2.1 = 1 ∧ q32.2.2 = 119)) 1 (0, q32.1, q32.2.1, q32.2.2, fk, (-1))).2.2.2.2.2.2) (nI (pTake bt t (bI (q32.2.1 = 1 ∧ q32.2.2 = 119)) 1 (0, q32.1, q32.2.1, q32.2.2, fk, (-1))).2.2.1) (nI (pTake bt t (bI (q32.2.1 = 1 ∧ q32.2.2 = 119)) 1 (0, q32.1, q32.2.1, q32.2.2, fk, (-1))).2.1) ((pTake bt t (bI (q32.2.1 = 1 ∧ q32.2.2 = 119)) 1 (0, q32.1, q32.2.1, q32.2.2, fk, (-1))).2.2.2.1) ((pTake bt t (bI (q32.2.1 = 1 ∧ q32.2.2 = 119)) 1 (0, q32.1, q32.2.1, q32.2.2, fk, (-1))).2.2.2.2.1) ac tr la ma it sr bt nw (zer dr 28) pa im kp tc) H := hP
      generalize eq59 : pTake bt t (bI (q32.2.1 = 1 ∧ q32.2.2 = 119)) 1 (0, q32.1, q32.2.1, q32.2.2, fk, (-1)) = q59 at hP ⊢
      have hP : va_P D vwCl (wM cI cZ A0 ss (nI t) q59.2.2.2.2.2.1 q59.2.2.2.2.2.2 (nI q59.2.2.1) (nI q59.2.1) q59.2.2.2.1 q59.2.2.2.2.1 ac tr la ma it sr bt nw (zer dr 28) pa im kp tc) H := hP
      have hD : va_D A (wM cI cZ A0 ss (nI t) q59.2.2.2.2.2.1 q59.2.2.2.2.2.2 (nI q59.2.2.1) (nI q59.2.1) q59.2.2.2.1 q59.2.2.2.2.1 ac tr la ma it sr bt nw (zer dr 28) pa im kp tc) := hD.sameA [(A0 0), (A0 1), (A0 2), (A0 3), (A0 4), (A0 5), (A0 6), (A0 7), (A0 8), (A0 9), (A0 10), (A0 11)] rfl rfl
      have ha2 : PSok t q59.2 := by rw [← eq59]; exact pTake_ok ha1
      refine lv_pop hx hb dX12_town_62 rfl ?_
      refine lv_aload_n hx hb dX12_town_63 rfl (lv_at hl 1 rfl) ?_
      refine va_get (D := D) (ci := 11) (v := .ref (A0 7)) (C := RX12) (T := TX12) (N := 21) hx hb hts u_X12_town_X12 hown hK.1 hP 0 rfl rfl 14 (by decide) (hts (.fieldLink RX12 28 "NoticeWeekModel" "draft" "[I") (List.mem_of_getElem? (i := 1) rfl)) (fun _ h9 => h9) rfl dX12_town_64 ?_
      refine lv_iconst (v := (nI 1)) hx hb dX12_town_67 (by decide) ?_
      refine lv_aload_n hx hb dX12_town_68 rfl (lv_at hl 1 rfl) ?_
      refine lv_iconst (v := 0) hx hb dX12_town_69 (by decide) ?_
      refine lv_bipush (v := 36) hx hb dX12_town_70 (by decide) ?_
      refine b_callM [0, 1, 2, 3, 4, 5, 6, 7, 8, 9, 10, 11] (va_runV (As := [.int 0, .int 36]) (rest := [.int (nI 1), .ref (A0 7)]) ⟨hx, hb, hml, hown, hts⟩ (c_X12_figure l D cI cZ cT A0 ss t ac tr la ma it sr bt nw (zer dr 28) pa im kp tc q59.2 0 36 ht ha2) (cwV 2 hts gX12_town_X12_figure rfl rfl rfl (by decide +kernel) ⟨(Nat.le_of_ble_eq_true rfl), (Nat.le_of_ble_eq_true rfl)⟩) (b_pVM hK hP hD [0, 1, 2, 3, 4, 5, 6, 7, 8, 9, 10, 11] (by decide) rfl rfl 0 rfl rfl) rfl rfl hl.1 rfl (lv_room (Nat.le_of_ble_eq_true rfl)) dX12_town_72 ⟨Nat.zero_le _, Nat.zero_le _⟩).run hP hD hS rfl (Nat.le_of_ble_eq_true rfl) (fun H locs hP hS => ?_)
      have hP : va_P D vwCl (wM cI cZ A0 ss (nI t) ((pFig bt t 0 36 q59.2).2.2.2.2.2.1) ((pFig bt t 0 36 q59.2).2.2.2.2.2.2) (nI (pFig bt t 0 36 q59.2).2.2.1) (nI (pFig bt t 0 36 q59.2).2.1) ((pFig bt t 0 36 q59.2).2.2.2.1) ((pFig bt t 0 36 q59.2).2.2.2.2.1) ac tr la ma it sr bt nw (zer dr 28) pa im kp tc) H := hP
      generalize eq72 : pFig bt t 0 36 q59.2 = q72 at hP ⊢
      have hP : va_P D vwCl (wM cI cZ A0 ss (nI t) q72.2.2.2.2.2.1 q72.2.2.2.2.2.2 (nI q72.2.2.1) (nI q72.2.1) q72.2.2.2.1 q72.2.2.2.2.1 ac tr la ma it sr bt nw (zer dr 28) pa im kp tc) H := hP
      have hD : va_D A (wM cI cZ A0 ss (nI t) q72.2.2.2.2.2.1 q72.2.2.2.2.2.2 (nI q72.2.2.1) (nI q72.2.1) q72.2.2.2.1 q72.2.2.2.2.1 ac tr la ma it sr bt nw (zer dr 28) pa im kp tc) := hD.sameA [(A0 0), (A0 1), (A0 2), (A0 3), (A0 4), (A0 5), (A0 6), (A0 7), (A0 8), (A0 9), (A0 10), (A0 11)] rfl rfl
      have ha3 : PSok t q72.2 := by rw [← eq72]; exact pFig_ok ha2
      refine b_ast hx hb hK hP hD hS 7 rfl (by omega) (by decide) dX12_town_75 (fun H locs hP hS => ?_)
      have hP : va_P D vwCl (wM cI cZ A0 ss (nI t) q72.2.2.2.2.2.1 q72.2.2.2.2.2.2 (nI q72.2.2.1) (nI q72.2.1) q72.2.2.2.1 q72.2.2.2.2.1 ac tr la ma it sr bt nw (upd (zer dr 28) 1 q72.1) pa im kp tc) H := hP
      have hD : va_D A (wM cI cZ A0 ss (nI t) q72.2.2.2.2.2.1 q72.2.2.2.2.2.2 (nI q72.2.2.1) (nI q72.2.1) q72.2.2.2.1 q72.2.2.2.2.1 ac tr la ma it sr bt nw (upd (zer dr 28) 1 q72.1) pa im kp tc) := hD.sameA [(A0 0), (A0 1), (A0 2), (A0 3), (A0 4), (A0 5), (A0 6), (A0 7), (A0 8), (A0 9), (A0 10), (A0 11)] rfl rfl
      refine lv_aload_n hx hb dX12_town_76 rfl (lv_at hl 1 rfl) ?_
      refine b_join (jpc := 90) (rest' := [.ref (A0 0)]) (P := fun v : Int32 => v = ((bI (q72.2.2.2.1 = 4)) : Int32)) (fun v5 ev5 => ?_) (fun K6 => ?_)
      · subst ev5
        refine lv_iconst (v := 1) hx hb dX12_town_90 (by decide) ?_
        refine b_callM [0, 1, 2, 3, 4, 5, 6, 7, 8, 9, 10, 11] (va_runV (As := [.int (bI (q72.2.2.2.1 = 4)), .int 1]) (rest := []) ⟨hx, hb, hml, hown, hts⟩ (c_X12_takes l D cI cZ cT A0 ss t ac tr la ma it sr bt nw (upd (zer dr 28) 1 q72.1) pa im kp tc q72.2 (bI (q72.2.2.2.1 = 4)) 1 ht ha3) (cwV 2 hts gX12_town_X12_takes rfl rfl rfl (by decide +kernel) ⟨(Nat.le_of_ble_eq_true rfl), (Nat.le_of_ble_eq_true rfl)⟩) (b_pVM hK hP hD [0, 1, 2, 3, 4, 5, 6, 7, 8, 9, 10, 11] (by decide) rfl rfl 0 rfl rfl) rfl rfl hl.1 rfl (lv_room (Nat.le_of_ble_eq_true rfl)) dX12_town_91 ⟨Nat.zero_le _, Nat.zero_le _⟩).run hP hD hS rfl (Nat.le_of_ble_eq_true rfl) (fun H locs hP hS => ?_)
        have hP : va_P D vwCl (wM cI cZ A0 ss (nI t) ((pTake bt t (bI (q72.2.2.2.1 = 4)) 1 q72.2).2.2.2.2.2.1) ((pTake bt t (bI (q72.2.2.2.1 = 4)) 1 q72.2).2.2.2.2.2.2) (nI (pTake bt t (bI (q72.2.2.2.1 = 4)) 1 q72.2).2.2.1) (nI (pTake bt t (bI (q72.2.2.2.1 = 4)) 1 q72.2).2.1) ((pTake bt t (bI (q72.2.2.2.1 = 4)) 1 q72.2).2.2.2.1) ((pTake bt t (bI (q72.2.2.2.1 = 4)) 1 q72.2).2.2.2.2.1) ac tr la ma it sr bt nw (upd (zer dr 28) 1 q72.1) pa im kp tc) H := hP
        generalize eq91 : pTake bt t (bI (q72.2.2.2.1 = 4)) 1 q72.2 = q91 at hP ⊢
        have hP : va_P D vwCl (wM cI cZ A0 ss (nI t) q91.2.2.2.2.2.1 q91.2.2.2.2.2.2 (nI q91.2.2.1) (nI q91.2.1) q91.2.2.2.1 q91.2.2.2.2.1 ac tr la ma it sr bt nw (upd (zer dr 28) 1 q72.1) pa im kp tc) H := hP
        have hD : va_D A (wM cI cZ A0 ss (nI t) q91.2.2.2.2.2.1 q91.2.2.2.2.2.2 (nI q91.2.2.1) (nI q91.2.1) q91.2.2.2.1 q91.2.2.2.2.1 ac tr la ma it sr bt nw (upd (zer dr 28) 1 q72.1) pa im kp tc) := hD.sameA [(A0 0), (A0 1), (A0 2), (A0 3), (A0 4), (A0 5), (A0 6), (A0 7), (A0 8), (A0 9), (A0 10), (A0 11)] rfl rfl
        have t1 : pT1 bt t fk = q59.2 := by unfold pT1; rw [eq32, eq59]
        have t2 : pT2 bt t fk = q72 := by unfold pT2; rw [t1]; exact eq72
        have t3 : pT3 bt t fk = q91.2 := by unfold pT3; rw [t2, eq91]
        have hV0 : pInv t 0 (q91.2, upd (zer dr 28) 1 q72.1) := by have z := pT3_inv (bt := bt) (fk := fk) (dr := dr) ht; rw [t3, t2] at z; exact z
        have t4 : pT4 bt t fk dr = (pL bt t (q91.2, upd (zer dr 28) 1 q72.1) 7) := by unfold pT4; rw [t3, t2]
        refine lv_pop hx hb dX12_town_94 rfl ?_
        refine b_cutM (jpc := 127) (rest' := []) (I := fun ls H locs => lv_has ls 2 [(0, .ref (A0 0))] ∧ va_P D vwCl (wM cI cZ A0 ss (nI t) ((pL bt t (q91.2, upd (zer dr 28) 1 q72.1) 7).1.2.2.2.2.1) ((pL bt t (q91.2, upd (zer dr 28) 1 q72.1) 7).1.2.2.2.2.2) (nI (pL bt t (q91.2, upd (zer dr 28) 1 q72.1) 7).1.2.1) (nI (pL bt t (q91.2, upd (zer dr 28) 1 q72.1) 7).1.1) ((pL bt t (q91.2, upd (zer dr 28) 1 q72.1) 7).1.2.2.1) ((pL bt t (q91.2, upd (zer dr 28) 1 q72.1) 7).1.2.2.2.1) ac tr la ma it sr bt nw ((pL bt t (q91.2, upd (zer dr 28) 1 q72.1) 7).2) pa im kp tc) H ∧ va_S A s.heap H locs) (fun ls H locs hI => ?_) (fun K7 => ?_)
        · obtain ⟨hl, hP, hS⟩ := hI
          have hl : lv_has ls 2 [(0, .ref (A0 0))] := hl
          have hP : va_P D vwCl (wM cI cZ A0 ss (nI t) ((pL bt t (q91.2, upd (zer dr 28) 1 q72.1) 7).1.2.2.2.2.1) ((pL bt t (q91.2, upd (zer dr 28) 1 q72.1) 7).1.2.2.2.2.2) (nI (pL bt t (q91.2, upd (zer dr 28) 1 q72.1) 7).1.2.1) (nI (pL bt t (q91.2, upd (zer dr 28) 1 q72.1) 7).1.1) ((pL bt t (q91.2, upd (zer dr 28) 1 q72.1) 7).1.2.2.1) ((pL bt t (q91.2, upd (zer dr 28) 1 q72.1) 7).1.2.2.2.1) ac tr la ma it sr bt nw ((pL bt t (q91.2, upd (zer dr 28) 1 q72.1) 7).2) pa im kp tc) H := hP
          have hD : va_D A (wM cI cZ A0 ss (nI t) ((pL bt t (q91.2, upd (zer dr 28) 1 q72.1) 7).1.2.2.2.2.1) ((pL bt t (q91.2, upd (zer dr 28) 1 q72.1) 7).1.2.2.2.2.2) (nI (pL bt t (q91.2, upd (zer dr 28) 1 q72.1) 7).1.2.1) (nI (pL bt t (q91.2, upd (zer dr 28) 1 q72.1) 7).1.1) ((pL bt t (q91.2, upd (zer dr 28) 1 q72.1) 7).1.2.2.1) ((pL bt t (q91.2, upd (zer dr 28) 1 q72.1) 7).1.2.2.2.1) ac tr la ma it sr bt nw ((pL bt t (q91.2, upd (zer dr 28) 1 q72.1) 7).2) pa im kp tc) := hD.sameA [(A0 0), (A0 1), (A0 2), (A0 3), (A0 4), (A0 5), (A0 6), (A0 7), (A0 8), (A0 9), (A0 10), (A0 11)] rfl rfl
          have hVk : PSok t (pL bt t (q91.2, upd (zer dr 28) 1 q72.1) 7).1 := pL_okall hV0.1 7
          obtain ⟨Qz, eqz⟩ : ∃ x, pL bt t (q91.2, upd (zer dr 28) 1 q72.1) 7 = x := ⟨_, rfl⟩
          rw [eqz] at hP t4 hVk
          have hP : va_P D vwCl (wM cI cZ A0 ss (nI t) Qz.1.2.2.2.2.1 Qz.1.2.2.2.2.2 (nI Qz.1.2.1) (nI Qz.1.1) Qz.1.2.2.1 Qz.1.2.2.2.1 ac tr la ma it sr bt nw Qz.2 pa im kp tc) H := hP
          have hD : va_D A (wM cI cZ A0 ss (nI t) Qz.1.2.2.2.2.1 Qz.1.2.2.2.2.2 (nI Qz.1.2.1) (nI Qz.1.1) Qz.1.2.2.1 Qz.1.2.2.2.1 ac tr la ma it sr bt nw Qz.2 pa im kp tc) := hD.sameA [(A0 0), (A0 1), (A0 2), (A0 3), (A0 4), (A0 5), (A0 6), (A0 7), (A0 8), (A0 9), (A0 10), (A0 11)] rfl rfl
          refine lv_aload_n hx hb dX12_town_127 rfl (lv_at hl 0 rfl) ?_
          refine b_call (va_runV (As := []) (rest := []) ⟨hx, hb, hml, hown, hts⟩ (c_X12_isWell l D cI cZ cT A0 ss (nI t) Qz.1.2.2.2.2.1 Qz.1.2.2.2.2.2 (nI Qz.1.2.1) (nI Qz.1.1) Qz.1.2.2.1 Qz.1.2.2.2.1 ac tr la ma it sr bt nw Qz.2 pa im kp tc) (cwV 0 hts gX12_town_X12_isWell rfl rfl rfl (by decide +kernel) ⟨(Nat.le_of_ble_eq_true rfl), (Nat.le_of_ble_eq_true rfl)⟩) (b_pV hK hP [0, 1, 2, 3, 4, 5, 6, 7, 8, 9, 10, 11] rfl 0 rfl rfl) rfl rfl hl.1 rfl (lv_room (Nat.le_of_ble_eq_true rfl)) dX12_town_128 ⟨Nat.zero_le _, Nat.zero_le _⟩).run ?_
          refine b_ifeq (tgt := 148) hx hb dX12_town_131 (by decide) (fun c8 => ?_) (fun c8 => ?_)
          · refine lv_aload_n hx hb dX12_town_148 rfl (lv_at hl 0 rfl) ?_
            refine lv_iconst (v := (nI 0)) hx hb dX12_town_149 (by decide) ?_
            refine b_put (C := RX12) (T := TX12) (N := 21) hx hb hts u_X12_town_X12 tyX12 tyX12_ok nmX12 hown hK hP hD hS 0 rfl rfl 6 (by decide) (hts (.fieldLink RX12 76 "NoticeWeekModel" "taped" "I") (List.mem_of_getElem? (i := 6) rfl)) rfl (by decide +kernel) (Nat.le_of_ble_eq_true rfl) dX12_town_150 (fun H locs hP hS => ?_)
            have hP : va_P D vwCl (wM cI cZ A0 ss (nI 0) Qz.1.2.2.2.2.1 Qz.1.2.2.2.2.2 (nI Qz.1.2.1) (nI Qz.1.1) Qz.1.2.2.1 Qz.1.2.2.2.1 ac tr la ma it sr bt nw Qz.2 pa im kp tc) H := hP
            have hD : va_D A (wM cI cZ A0 ss (nI 0) Qz.1.2.2.2.2.1 Qz.1.2.2.2.2.2 (nI Qz.1.2.1) (nI Qz.1.1) Qz.1.2.2.1 Qz.1.2.2.2.1 ac tr la ma it sr bt nw Qz.2 pa im kp tc) := hD.sameA [(A0 0), (A0 1), (A0 2), (A0 3), (A0 4), (A0 5), (A0 6), (A0 7), (A0 8), (A0 9), (A0 10), (A0 11)] rfl rfl
            refine lv_aload_n hx hb dX12_town_153 rfl (lv_at hl 0 rfl) ?_
            refine b_call (va_runV (As := []) (rest := []) ⟨hx, hb, hml, hown, hts⟩ (c_X12_isWell l D cI cZ cT A0 ss (nI 0) Qz.1.2.2.2.2.1 Qz.1.2.2.2.2.2 (nI Qz.1.2.1) (nI Qz.1.1) Qz.1.2.2.1 Qz.1.2.2.2.1 ac tr la ma it sr bt nw Qz.2 pa im kp tc) (cwV 0 hts gX12_town_X12_isWell rfl rfl rfl (by decide +kernel) ⟨(Nat.le_of_ble_eq_true rfl), (Nat.le_of_ble_eq_true rfl)⟩) (b_pV hK hP [0, 1, 2, 3, 4, 5, 6, 7, 8, 9, 10, 11] rfl 0 rfl rfl) rfl rfl hl.1 rfl (lv_room (Nat.le_of_ble_eq_true rfl)) dX12_town_154 ⟨Nat.zero_le _, Nat.zero_le _⟩).run ?_
            refine b_ifne (tgt := 168) hx hb dX12_town_157 (by decide) (fun c9 => (c8 c9).elim) (fun c9 => ?_)
            refine lv_ldc (v := (-1000100)) hx hb hown (hts (.constant RX12 124 (-1000100)) (List.mem_of_getElem? (i := 7) rfl)) dX12_town_160 ?_
            refine lv_aload_n hx hb dX12_town_162 rfl (lv_at hl 0 rfl) ?_
            refine va_get (D := D) (ci := 11) (v := .int Qz.1.2.2.2.2.2) (C := RX12) (T := TX12) (N := 21) hx hb hts u_X12_town_X12 hown hK.1 hP 0 rfl rfl 8 (by decide) (hts (.fieldLink RX12 95 "NoticeWeekModel" "faultPlace" "I") (List.mem_of_getElem? (i := 3) rfl)) (fun _ h9 => h9) rfl dX12_town_163 ?_
            refine lv_isub hx hb dX12_town_166 ?_
            have E : m_town bt t fk ac dr nw = (((-1000100) - Qz.1.2.2.2.2.2), Qz.1, Qz.2, nw, ac) := (by have t5 : pT5 bt t Qz.1 = Qz.1 := (by unfold pT5; rw [if_neg c8]); unfold m_town; rw [t4, t5, if_neg c8])
            rw [E]
            exact b_retM hx hb hr hP hS rfl dX12_town_167 hlocks
          · refine lv_aload_n hx hb dX12_town_134 rfl (lv_at hl 0 rfl) ?_
            refine va_get (D := D) (ci := 11) (v := .int Qz.1.2.2.1) (C := RX12) (T := TX12) (N := 21) hx hb hts u_X12_town_X12 hown hK.1 hP 0 rfl rfl 11 (by decide) (hts (.fieldLink RX12 92 "NoticeWeekModel" "token" "I") (List.mem_of_getElem? (i := 4) rfl)) (fun _ h9 => h9) rfl dX12_town_135 ?_
            refine lv_if_eq (tgt := 148) hx hb dX12_town_138 (by decide) (fun c10 => ?_) (fun c10 => ?_)
            · refine lv_aload_n hx hb dX12_town_148 rfl (lv_at hl 0 rfl) ?_
              refine lv_iconst (v := (nI 0)) hx hb dX12_town_149 (by decide) ?_
              refine b_put (C := RX12) (T := TX12) (N := 21) hx hb hts u_X12_town_X12 tyX12 tyX12_ok nmX12 hown hK hP hD hS 0 rfl rfl 6 (by decide) (hts (.fieldLink RX12 76 "NoticeWeekModel" "taped" "I") (List.mem_of_getElem? (i := 6) rfl)) rfl (by decide +kernel) (Nat.le_of_ble_eq_true rfl) dX12_town_150 (fun H locs hP hS => ?_)
              have hP : va_P D vwCl (wM cI cZ A0 ss (nI 0) Qz.1.2.2.2.2.1 Qz.1.2.2.2.2.2 (nI Qz.1.2.1) (nI Qz.1.1) Qz.1.2.2.1 Qz.1.2.2.2.1 ac tr la ma it sr bt nw Qz.2 pa im kp tc) H := hP
              have hD : va_D A (wM cI cZ A0 ss (nI 0) Qz.1.2.2.2.2.1 Qz.1.2.2.2.2.2 (nI Qz.1.2.1) (nI Qz.1.1) Qz.1.2.2.1 Qz.1.2.2.2.1 ac tr la ma it sr bt nw Qz.2 pa im kp tc) := hD.sameA [(A0 0), (A0 1), (A0 2), (A0 3), (A0 4), (A0 5), (A0 6), (A0 7), (A0 8), (A0 9), (A0 10), (A0 11)] rfl rfl
              refine lv_aload_n hx hb dX12_town_153 rfl (lv_at hl 0 rfl) ?_
              refine b_call (va_runV (As := []) (rest := []) ⟨hx, hb, hml, hown, hts⟩ (c_X12_isWell l D cI cZ cT A0 ss (nI 0) Qz.1.2.2.2.2.1 Qz.1.2.2.2.2.2 (nI Qz.1.2.1) (nI Qz.1.1) Qz.1.2.2.1 Qz.1.2.2.2.1 ac tr la ma it sr bt nw Qz.2 pa im kp tc) (cwV 0 hts gX12_town_X12_isWell rfl rfl rfl (by decide +kernel) ⟨(Nat.le_of_ble_eq_true rfl), (Nat.le_of_ble_eq_true rfl)⟩) (b_pV hK hP [0, 1, 2, 3, 4, 5, 6, 7, 8, 9, 10, 11] rfl 0 rfl rfl) rfl rfl hl.1 rfl (lv_room (Nat.le_of_ble_eq_true rfl)) dX12_town_154 ⟨Nat.zero_le _, Nat.zero_le _⟩).run ?_
              refine b_ifne (tgt := 168) hx hb dX12_town_157 (by decide) (fun c11 => ?_) (fun c11 => (c11 c8).elim)
              refine lv_aload_n hx hb dX12_town_168 rfl (lv_at hl 0 rfl) ?_
              refine va_get (D := D) (ci := 11) (v := .ref (A0 7)) (C := RX12) (T := TX12) (N := 21) hx hb hts u_X12_town_X12 hown hK.1 hP 0 rfl rfl 14 (by decide) (hts (.fieldLink RX12 28 "NoticeWeekModel" "draft" "[I") (List.mem_of_getElem? (i := 1) rfl)) (fun _ h9 => h9) rfl dX12_town_169 ?_
              refine lv_iconst (v := (nI 0)) hx hb dX12_town_172 (by decide) ?_
              refine lv_iconst (v := 1) hx hb dX12_town_173 (by decide) ?_
              refine b_ast hx hb hK hP hD hS 7 rfl (by omega) (by decide) dX12_town_174 (fun H locs hP hS => ?_)
              have hP : va_P D vwCl (wM cI cZ A0 ss (nI 0) Qz.1.2.2.2.2.1 Qz.1.2.2.2.2.2 (nI Qz.1.2.1) (nI Qz.1.1) Qz.1.2.2.1 Qz.1.2.2.2.1 ac tr la ma it sr bt nw (upd Qz.2 0 1) pa im kp tc) H := hP
              have hD : va_D A (wM cI cZ A0 ss (nI 0) Qz.1.2.2.2.2.1 Qz.1.2.2.2.2.2 (nI Qz.1.2.1) (nI Qz.1.1) Qz.1.2.2.1 Qz.1.2.2.2.1 ac tr la ma it sr bt nw (upd Qz.2 0 1) pa im kp tc) := hD.sameA [(A0 0), (A0 1), (A0 2), (A0 3), (A0 4), (A0 5), (A0 6), (A0 7), (A0 8), (A0 9), (A0 10), (A0 11)] rfl rfl
              refine lv_aload_n hx hb dX12_town_175 rfl (lv_at hl 0 rfl) ?_
              refine va_get (D := D) (ci := 11) (v := .ref (A0 7)) (C := RX12) (T := TX12) (N := 21) hx hb hts u_X12_town_X12 hown hK.1 hP 0 rfl rfl 14 (by decide) (hts (.fieldLink RX12 28 "NoticeWeekModel" "draft" "[I") (List.mem_of_getElem? (i := 1) rfl)) (fun _ h9 => h9) rfl dX12_town_176 ?_
              refine lv_iconst (v := (nI 0)) hx hb dX12_town_179 (by decide) ?_
              refine lv_aload_n hx hb dX12_town_180 rfl (lv_at hl 0 rfl) ?_
              refine va_get (D := D) (ci := 11) (v := .ref (A0 6)) (C := RX12) (T := TX12) (N := 21) hx hb hts u_X12_town_X12 hown hK.1 hP 0 rfl rfl 13 (by decide) (hts (.fieldLink RX12 25 "NoticeWeekModel" "now" "[I") (List.mem_of_getElem? (i := 8) rfl)) (fun _ h9 => h9) rfl dX12_town_181 ?_
              refine lv_iconst (v := (nI 0)) hx hb dX12_town_184 (by decide) ?_
              refine b_callM [0, 1, 2, 3, 4, 5, 6, 7, 8, 9, 10, 11] (va_runS (As := [.ref (A0 7), .int (nI 0), .ref (A0 6), .int (nI 0)]) (rest := []) ⟨hx, hb, hml, hown, hts⟩ (c_X12_copies_dn l D cI cZ cT A0 ss (nI 0) Qz.1.2.2.2.2.1 Qz.1.2.2.2.2.2 (nI Qz.1.2.1) (nI Qz.1.1) Qz.1.2.2.1 Qz.1.2.2.2.1 ac tr la ma it sr bt nw (upd Qz.2 0 1) pa im kp tc 0 0 (by omega) (by omega)) (va_cwS 4 hts gX12_town_X12_copies rfl rfl rfl (by decide +kernel) ⟨(Nat.le_of_ble_eq_true rfl), (Nat.le_of_ble_eq_true rfl)⟩) (b_pSM hK hP hD [0, 1, 2, 3, 4, 5, 6, 7, 8, 9, 10, 11] (by decide) rfl rfl) rfl rfl hl.1 rfl (lv_room (Nat.le_of_ble_eq_true rfl)) dX12_town_185 ⟨Nat.zero_le _, Nat.zero_le _⟩).run hP hD hS rfl (Nat.le_of_ble_eq_true rfl) (fun H locs hP hS => ?_)
              have hP : va_P D vwCl (wM cI cZ A0 ss (nI 0) Qz.1.2.2.2.2.1 Qz.1.2.2.2.2.2 (nI Qz.1.2.1) (nI Qz.1.1) Qz.1.2.2.1 Qz.1.2.2.2.1 ac tr la ma it sr bt (cpy (upd Qz.2 0 1) 0 nw 0 28) (upd Qz.2 0 1) pa im kp tc) H := hP
              have hD : va_D A (wM cI cZ A0 ss (nI 0) Qz.1.2.2.2.2.1 Qz.1.2.2.2.2.2 (nI Qz.1.2.1) (nI Qz.1.1) Qz.1.2.2.1 Qz.1.2.2.2.1 ac tr la ma it sr bt (cpy (upd Qz.2 0 1) 0 nw 0 28) (upd Qz.2 0 1) pa im kp tc) := hD.sameA [(A0 0), (A0 1), (A0 2), (A0 3), (A0 4), (A0 5), (A0 6), (A0 7), (A0 8), (A0 9), (A0 10), (A0 11)] rfl rfl
              refine lv_aload_n hx hb dX12_town_188 rfl (lv_at hl 0 rfl) ?_
              refine lv_iconst (v := (nI 0)) hx hb dX12_town_189 (by decide) ?_
              refine b_put (C := RX12) (T := TX12) (N := 21) hx hb hts u_X12_town_X12 tyX12 tyX12_ok nmX12 hown hK hP hD hS 0 rfl rfl 16 (by decide) (hts (.fieldLink RX12 129 "NoticeWeekModel" "acts" "I") (List.mem_of_getElem? (i := 9) rfl)) rfl (by decide +kernel) (Nat.le_of_ble_eq_true rfl) dX12_town_190 (fun H locs hP hS => ?_)
              have hP : va_P D vwCl (wM cI cZ A0 ss (nI 0) Qz.1.2.2.2.2.1 Qz.1.2.2.2.2.2 (nI Qz.1.2.1) (nI Qz.1.1) Qz.1.2.2.1 Qz.1.2.2.2.1 (nI 0) tr la ma it sr bt (cpy (upd Qz.2 0 1) 0 nw 0 28) (upd Qz.2 0 1) pa im kp tc) H := hP
              have hD : va_D A (wM cI cZ A0 ss (nI 0) Qz.1.2.2.2.2.1 Qz.1.2.2.2.2.2 (nI Qz.1.2.1) (nI Qz.1.1) Qz.1.2.2.1 Qz.1.2.2.2.1 (nI 0) tr la ma it sr bt (cpy (upd Qz.2 0 1) 0 nw 0 28) (upd Qz.2 0 1) pa im kp tc) := hD.sameA [(A0 0), (A0 1), (A0 2), (A0 3), (A0 4), (A0 5), (A0 6), (A0 7), (A0 8), (A0 9), (A0 10), (A0 11)] rfl rfl
              refine lv_aload_n hx hb dX12_town_193 rfl (lv_at hl 0 rfl) ?_
              refine va_get (D := D) (ci := 11) (v := .ref (A0 6)) (C := RX12) (T := TX12) (N := 21) hx hb hts u_X12_town_X12 hown hK.1 hP 0 rfl rfl 13 (by decide) (hts (.fieldLink RX12 25 "NoticeWeekModel" "now" "[I") (List.mem_of_getElem? (i := 8) rfl)) (fun _ h9 => h9) rfl dX12_town_194 ?_
              refine lv_iconst (v := (nI 3)) hx hb dX12_town_197 (by decide) ?_
              refine b_ald hx hb hK hP 6 rfl (by omega) (by decide) dX12_town_198 ?_
              have E : m_town bt t fk ac dr nw = (((cpy (upd Qz.2 0 1) 0 nw 0 28) 3), Qz.1, (upd Qz.2 0 1), (cpy (upd Qz.2 0 1) 0 nw 0 28), (nI 0)) := (by have t5 : pT5 bt t Qz.1 = Qz.1 := (by unfold pT5; rw [if_pos c8, if_pos c10]); unfold m_town; rw [t4, t5, if_pos c8])
              rw [E]
              exact b_retM hx hb hr hP hS rfl dX12_town_199 hlocks
            · refine lv_aload_n hx hb dX12_town_141 rfl (lv_at hl 0 rfl) ?_
              refine lv_iconst (v := 0) hx hb dX12_town_142 (by decide) ?_
              refine lv_iconst (v := 1) hx hb dX12_town_143 (by decide) ?_
              refine b_callM [0, 1, 2, 3, 4, 5, 6, 7, 8, 9, 10, 11] (va_runV (As := [.int 0, .int 1]) (rest := []) ⟨hx, hb, hml, hown, hts⟩ (c_X12_takes l D cI cZ cT A0 ss t ac tr la ma it sr bt nw Qz.2 pa im kp tc Qz.1 0 1 ht hVk) (cwV 2 hts gX12_town_X12_takes rfl rfl rfl (by decide +kernel) ⟨(Nat.le_of_ble_eq_true rfl), (Nat.le_of_ble_eq_true rfl)⟩) (b_pVM hK hP hD [0, 1, 2, 3, 4, 5, 6, 7, 8, 9, 10, 11] (by decide) rfl rfl 0 rfl rfl) rfl rfl hl.1 rfl (lv_room (Nat.le_of_ble_eq_true rfl)) dX12_town_144 ⟨Nat.zero_le _, Nat.zero_le _⟩).run hP hD hS rfl (Nat.le_of_ble_eq_true rfl) (fun H locs hP hS => ?_)
              have hP : va_P D vwCl (wM cI cZ A0 ss (nI t) ((pTake bt t 0 1 Qz.1).2.2.2.2.2.1) ((pTake bt t 0 1 Qz.1).2.2.2.2.2.2) (nI (pTake bt t 0 1 Qz.1).2.2.1) (nI (pTake bt t 0 1 Qz.1).2.1) ((pTake bt t 0 1 Qz.1).2.2.2.1) ((pTake bt t 0 1 Qz.1).2.2.2.2.1) ac tr la ma it sr bt nw Qz.2 pa im kp tc) H := hP
              generalize eq144 : pTake bt t 0 1 Qz.1 = q144 at hP ⊢
              have hP : va_P D vwCl (wM cI cZ A0 ss (nI t) q144.2.2.2.2.2.1 q144.2.2.2.2.2.2 (nI q144.2.2.1) (nI q144.2.1) q144.2.2.2.1 q144.2.2.2.2.1 ac tr la ma it sr bt nw Qz.2 pa im kp tc) H := hP
              have hD : va_D A (wM cI cZ A0 ss (nI t) q144.2.2.2.2.2.1 q144.2.2.2.2.2.2 (nI q144.2.2.1) (nI q144.2.1) q144.2.2.2.1 q144.2.2.2.2.1 ac tr la ma it sr bt nw Qz.2 pa im kp tc) := hD.sameA [(A0 0), (A0 1), (A0 2), (A0 3), (A0 4), (A0 5), (A0 6), (A0 7), (A0 8), (A0 9), (A0 10), (A0 11)] rfl rfl
              refine lv_pop hx hb dX12_town_147 rfl ?_
              refine lv_aload_n hx hb dX12_town_148 rfl (lv_at hl 0 rfl) ?_
              refine lv_iconst (v := (nI 0)) hx hb dX12_town_149 (by decide) ?_
              refine b_put (C := RX12) (T := TX12) (N := 21) hx hb hts u_X12_town_X12 tyX12 tyX12_ok nmX12 hown hK hP hD hS 0 rfl rfl 6 (by decide) (hts (.fieldLink RX12 76 "NoticeWeekModel" "taped" "I") (List.mem_of_getElem? (i := 6) rfl)) rfl (by decide +kernel) (Nat.le_of_ble_eq_true rfl) dX12_town_150 (fun H locs hP hS => ?_)
              have hP : va_P D vwCl (wM cI cZ A0 ss (nI 0) q144.2.2.2.2.2.1 q144.2.2.2.2.2.2 (nI q144.2.2.1) (nI q144.2.1) q144.2.2.2.1 q144.2.2.2.2.1 ac tr la ma it sr bt nw Qz.2 pa im kp tc) H := hP
              have hD : va_D A (wM cI cZ A0 ss (nI 0) q144.2.2.2.2.2.1 q144.2.2.2.2.2.2 (nI q144.2.2.1) (nI q144.2.1) q144.2.2.2.1 q144.2.2.2.2.1 ac tr la ma it sr bt nw Qz.2 pa im kp tc) := hD.sameA [(A0 0), (A0 1), (A0 2), (A0 3), (A0 4), (A0 5), (A0 6), (A0 7), (A0 8), (A0 9), (A0 10), (A0 11)] rfl rfl
              refine lv_aload_n hx hb dX12_town_153 rfl (lv_at hl 0 rfl) ?_
              refine b_call (va_runV (As := []) (rest := []) ⟨hx, hb, hml, hown, hts⟩ (c_X12_isWell l D cI cZ cT A0 ss (nI 0) q144.2.2.2.2.2.1 q144.2.2.2.2.2.2 (nI q144.2.2.1) (nI q144.2.1) q144.2.2.2.1 q144.2.2.2.2.1 ac tr la ma it sr bt nw Qz.2 pa im kp tc) (cwV 0 hts gX12_town_X12_isWell rfl rfl rfl (by decide +kernel) ⟨(Nat.le_of_ble_eq_true rfl), (Nat.le_of_ble_eq_true rfl)⟩) (b_pV hK hP [0, 1, 2, 3, 4, 5, 6, 7, 8, 9, 10, 11] rfl 0 rfl rfl) rfl rfl hl.1 rfl (lv_room (Nat.le_of_ble_eq_true rfl)) dX12_town_154 ⟨Nat.zero_le _, Nat.zero_le _⟩).run ?_
              refine b_ifne (tgt := 168) hx hb dX12_town_157 (by decide) (fun c12 => ?_) (fun c12 => ?_)
              · refine lv_aload_n hx hb dX12_town_168 rfl (lv_at hl 0 rfl) ?_
                refine va_get (D := D) (ci := 11) (v := .ref (A0 7)) (C := RX12) (T := TX12) (N := 21) hx hb hts u_X12_town_X12 hown hK.1 hP 0 rfl rfl 14 (by decide) (hts (.fieldLink RX12 28 "NoticeWeekModel" "draft" "[I") (List.mem_of_getElem? (i := 1) rfl)) (fun _ h9 => h9) rfl dX12_town_169 ?_
                refine lv_iconst (v := (nI 0)) hx hb dX12_town_172 (by decide) ?_
                refine lv_iconst (v := 1) hx hb dX12_town_173 (by decide) ?_
                refine b_ast hx hb hK hP hD hS 7 rfl (by omega) (by decide) dX12_town_174 (fun H locs hP hS => ?_)
                have hP : va_P D vwCl (wM cI cZ A0 ss (nI 0) q144.2.2.2.2.2.1 q144.2.2.2.2.2.2 (nI q144.2.2.1) (nI q144.2.1) q144.2.2.2.1 q144.2.2.2.2.1 ac tr la ma it sr bt nw (upd Qz.2 0 1) pa im kp tc) H := hP
                have hD : va_D A (wM cI cZ A0 ss (nI 0) q144.2.2.2.2.2.1 q144.2.2.2.2.2.2 (nI q144.2.2.1) (nI q144.2.1) q144.2.2.2.1 q144.2.2.2.2.1 ac tr la ma it sr bt nw (upd Qz.2 0 1) pa im kp tc) := hD.sameA [(A0 0), (A0 1), (A0 2), (A0 3), (A0 4), (A0 5), (A0 6), (A0 7), (A0 8), (A0 9), (A0 10), (A0 11)] rfl rfl
                refine lv_aload_n hx hb dX12_town_175 rfl (lv_at hl 0 rfl) ?_
                refine va_get (D := D) (ci := 11) (v := .ref (A0 7)) (C := RX12) (T := TX12) (N := 21) hx hb hts u_X12_town_X12 hown hK.1 hP 0 rfl rfl 14 (by decide) (hts (.fieldLink RX12 28 "NoticeWeekModel" "draft" "[I") (List.mem_of_getElem? (i := 1) rfl)) (fun _ h9 => h9) rfl dX12_town_176 ?_
                refine lv_iconst (v := (nI 0)) hx hb dX12_town_179 (by decide) ?_
                refine lv_aload_n hx hb dX12_town_180 rfl (lv_at hl 0 rfl) ?_
                refine va_get (D := D) (ci := 11) (v := .ref (A0 6)) (C := RX12) (T := TX12) (N := 21) hx hb hts u_X12_town_X12 hown hK.1 hP 0 rfl rfl 13 (by decide) (hts (.fieldLink RX12 25 "NoticeWeekModel" "now" "[I") (List.mem_of_getElem? (i := 8) rfl)) (fun _ h9 => h9) rfl dX12_town_181 ?_
                refine lv_iconst (v := (nI 0)) hx hb dX12_town_184 (by decide) ?_
                refine b_callM [0, 1, 2, 3, 4, 5, 6, 7, 8, 9, 10, 11] (va_runS (As := [.ref (A0 7), .int (nI 0), .ref (A0 6), .int (nI 0)]) (rest := []) ⟨hx, hb, hml, hown, hts⟩ (c_X12_copies_dn l D cI cZ cT A0 ss (nI 0) q144.2.2.2.2.2.1 q144.2.2.2.2.2.2 (nI q144.2.2.1) (nI q144.2.1) q144.2.2.2.1 q144.2.2.2.2.1 ac tr la ma it sr bt nw (upd Qz.2 0 1) pa im kp tc 0 0 (by omega) (by omega)) (va_cwS 4 hts gX12_town_X12_copies rfl rfl rfl (by decide +kernel) ⟨(Nat.le_of_ble_eq_true rfl), (Nat.le_of_ble_eq_true rfl)⟩) (b_pSM hK hP hD [0, 1, 2, 3, 4, 5, 6, 7, 8, 9, 10, 11] (by decide) rfl rfl) rfl rfl hl.1 rfl (lv_room (Nat.le_of_ble_eq_true rfl)) dX12_town_185 ⟨Nat.zero_le _, Nat.zero_le _⟩).run hP hD hS rfl (Nat.le_of_ble_eq_true rfl) (fun H locs hP hS => ?_)
                have hP : va_P D vwCl (wM cI cZ A0 ss (nI 0) q144.2.2.2.2.2.1 q144.2.2.2.2.2.2 (nI q144.2.2.1) (nI q144.2.1) q144.2.2.2.1 q144.2.2.2.2.1 ac tr la ma it sr bt (cpy (upd Qz.2 0 1) 0 nw 0 28) (upd Qz.2 0 1) pa im kp tc) H := hP
                have hD : va_D A (wM cI cZ A0 ss (nI 0) q144.2.2.2.2.2.1 q144.2.2.2.2.2.2 (nI q144.2.2.1) (nI q144.2.1) q144.2.2.2.1 q144.2.2.2.2.1 ac tr la ma it sr bt (cpy (upd Qz.2 0 1) 0 nw 0 28) (upd Qz.2 0 1) pa im kp tc) := hD.sameA [(A0 0), (A0 1), (A0 2), (A0 3), (A0 4), (A0 5), (A0 6), (A0 7), (A0 8), (A0 9), (A0 10), (A0 11)] rfl rfl
                refine lv_aload_n hx hb dX12_town_188 rfl (lv_at hl 0 rfl) ?_
                refine lv_iconst (v := (nI 0)) hx hb dX12_town_189 (by decide) ?_
                refine b_put (C := RX12) (T := TX12) (N := 21) hx hb hts u_X12_town_X12 tyX12 tyX12_ok nmX12 hown hK hP hD hS 0 rfl rfl 16 (by decide) (hts (.fieldLink RX12 129 "NoticeWeekModel" "acts" "I") (List.mem_of_getElem? (i := 9) rfl)) rfl (by decide +kernel) (Nat.le_of_ble_eq_true rfl) dX12_town_190 (fun H locs hP hS => ?_)
                have hP : va_P D vwCl (wM cI cZ A0 ss (nI 0) q144.2.2.2.2.2.1 q144.2.2.2.2.2.2 (nI q144.2.2.1) (nI q144.2.1) q144.2.2.2.1 q144.2.2.2.2.1 (nI 0) tr la ma it sr bt (cpy (upd Qz.2 0 1) 0 nw 0 28) (upd Qz.2 0 1) pa im kp tc) H := hP
                have hD : va_D A (wM cI cZ A0 ss (nI 0) q144.2.2.2.2.2.1 q144.2.2.2.2.2.2 (nI q144.2.2.1) (nI q144.2.1) q144.2.2.2.1 q144.2.2.2.2.1 (nI 0) tr la ma it sr bt (cpy (upd Qz.2 0 1) 0 nw 0 28) (upd Qz.2 0 1) pa im kp tc) := hD.sameA [(A0 0), (A0 1), (A0 2), (A0 3), (A0 4), (A0 5), (A0 6), (A0 7), (A0 8), (A0 9), (A0 10), (A0 11)] rfl rfl
                refine lv_aload_n hx hb dX12_town_193 rfl (lv_at hl 0 rfl) ?_
                refine va_get (D := D) (ci := 11) (v := .ref (A0 6)) (C := RX12) (T := TX12) (N := 21) hx hb hts u_X12_town_X12 hown hK.1 hP 0 rfl rfl 13 (by decide) (hts (.fieldLink RX12 25 "NoticeWeekModel" "now" "[I") (List.mem_of_getElem? (i := 8) rfl)) (fun _ h9 => h9) rfl dX12_town_194 ?_
                refine lv_iconst (v := (nI 3)) hx hb dX12_town_197 (by decide) ?_
                refine b_ald hx hb hK hP 6 rfl (by omega) (by decide) dX12_town_198 ?_
                have E : m_town bt t fk ac dr nw = (((cpy (upd Qz.2 0 1) 0 nw 0 28) 3), q144.2, (upd Qz.2 0 1), (cpy (upd Qz.2 0 1) 0 nw 0 28), (nI 0)) := (by have t5 : pT5 bt t Qz.1 = q144.2 := (by unfold pT5; rw [if_pos c8, if_neg c10, eq144]); unfold m_town; rw [t4, t5, if_pos c12])
                rw [E]
                exact b_retM hx hb hr hP hS rfl dX12_town_199 hlocks
              · refine lv_ldc (v := (-1000100)) hx hb hown (hts (.constant RX12 124 (-1000100)) (List.mem_of_getElem? (i := 7) rfl)) dX12_town_160 ?_
                refine lv_aload_n hx hb dX12_town_162 rfl (lv_at hl 0 rfl) ?_
                refine va_get (D := D) (ci := 11) (v := .int q144.2.2.2.2.2.2) (C := RX12) (T := TX12) (N := 21) hx hb hts u_X12_town_X12 hown hK.1 hP 0 rfl rfl 8 (by decide) (hts (.fieldLink RX12 95 "NoticeWeekModel" "faultPlace" "I") (List.mem_of_getElem? (i := 3) rfl)) (fun _ h9 => h9) rfl dX12_town_163 ?_
                refine lv_isub hx hb dX12_town_166 ?_
                have E : m_town bt t fk ac dr nw = (((-1000100) - q144.2.2.2.2.2.2), q144.2, Qz.2, nw, ac) := (by have t5 : pT5 bt t Qz.1 = q144.2 := (by unfold pT5; rw [if_pos c8, if_neg c10, eq144]); unfold m_town; rw [t4, t5, if_neg c12])
                rw [E]
                exact b_retM hx hb hr hP hS rfl dX12_town_167 hlocks
        · refine b_loopM (N := 7) (I := fun k ls H locs => lv_has ls 2 [(0, .ref (A0 0))] ∧ va_P D vwCl (wM cI cZ A0 ss (nI t) ((pL bt t (q91.2, upd (zer dr 28) 1 q72.1) k).1.2.2.2.2.1) ((pL bt t (q91.2, upd (zer dr 28) 1 q72.1) k).1.2.2.2.2.2) (nI (pL bt t (q91.2, upd (zer dr 28) 1 q72.1) k).1.2.1) (nI (pL bt t (q91.2, upd (zer dr 28) 1 q72.1) k).1.1) ((pL bt t (q91.2, upd (zer dr 28) 1 q72.1) k).1.2.2.1) ((pL bt t (q91.2, upd (zer dr 28) 1 q72.1) k).1.2.2.2.1) ac tr la ma it sr bt nw ((pL bt t (q91.2, upd (zer dr 28) 1 q72.1) k).2) pa im kp tc) H ∧ va_S A s.heap H locs ∧ (pInv t k (pL bt t (q91.2, upd (zer dr 28) 1 q72.1) k))) (fun k hk ih13 ls H locs hI => ?_) 0 (by omega) ⟨lv_sub hl [1] rfl, hP, hS, hV0⟩
          obtain ⟨hl, hP, hS, hV⟩ := hI
          have hl : lv_has ls 2 [(0, .ref (A0 0))] := hl
          have hP : va_P D vwCl (wM cI cZ A0 ss (nI t) ((pL bt t (q91.2, upd (zer dr 28) 1 q72.1) k).1.2.2.2.2.1) ((pL bt t (q91.2, upd (zer dr 28) 1 q72.1) k).1.2.2.2.2.2) (nI (pL bt t (q91.2, upd (zer dr 28) 1 q72.1) k).1.2.1) (nI (pL bt t (q91.2, upd (zer dr 28) 1 q72.1) k).1.1) ((pL bt t (q91.2, upd (zer dr 28) 1 q72.1) k).1.2.2.1) ((pL bt t (q91.2, upd (zer dr 28) 1 q72.1) k).1.2.2.2.1) ac tr la ma it sr bt nw ((pL bt t (q91.2, upd (zer dr 28) 1 q72.1) k).2) pa im kp tc) H := hP
          have hD : va_D A (wM cI cZ A0 ss (nI t) ((pL bt t (q91.2, upd (zer dr 28) 1 q72.1) k).1.2.2.2.2.1) ((pL bt t (q91.2, upd (zer dr 28) 1 q72.1) k).1.2.2.2.2.2) (nI (pL bt t (q91.2, upd (zer dr 28) 1 q72.1) k).1.2.1) (nI (pL bt t (q91.2, upd (zer dr 28) 1 q72.1) k).1.1) ((pL bt t (q91.2, upd (zer dr 28) 1 q72.1) k).1.2.2.1) ((pL bt t (q91.2, upd (zer dr 28) 1 q72.1) k).1.2.2.2.1) ac tr la ma it sr bt nw ((pL bt t (q91.2, upd (zer dr 28) 1 q72.1) k).2) pa im kp tc) := hD.sameA [(A0 0), (A0 1), (A0 2), (A0 3), (A0 4), (A0 5), (A0 6), (A0 7), (A0 8), (A0 9), (A0 10), (A0 11)] rfl rfl
          refine lv_aload_n hx hb dX12_town_95 rfl (lv_at hl 0 rfl) ?_
          refine b_call (va_runV (As := []) (rest := []) ⟨hx, hb, hml, hown, hts⟩ (c_X12_isWell l D cI cZ cT A0 ss (nI t) ((pL bt t (q91.2, upd (zer dr 28) 1 q72.1) k).1.2.2.2.2.1) ((pL bt t (q91.2, upd (zer dr 28) 1 q72.1) k).1.2.2.2.2.2) (nI (pL bt t (q91.2, upd (zer dr 28) 1 q72.1) k).1.2.1) (nI (pL bt t (q91.2, upd (zer dr 28) 1 q72.1) k).1.1) ((pL bt t (q91.2, upd (zer dr 28) 1 q72.1) k).1.2.2.1) ((pL bt t (q91.2, upd (zer dr 28) 1 q72.1) k).1.2.2.2.1) ac tr la ma it sr bt nw ((pL bt t (q91.2, upd (zer dr 28) 1 q72.1) k).2) pa im kp tc) (cwV 0 hts gX12_town_X12_isWell rfl rfl rfl (by decide +kernel) ⟨(Nat.le_of_ble_eq_true rfl), (Nat.le_of_ble_eq_true rfl)⟩) (b_pV hK hP [0, 1, 2, 3, 4, 5, 6, 7, 8, 9, 10, 11] rfl 0 rfl rfl) rfl rfl hl.1 rfl (lv_room (Nat.le_of_ble_eq_true rfl)) dX12_town_96 ⟨Nat.zero_le _, Nat.zero_le _⟩).run ?_
          refine b_ifeq (tgt := 127) hx hb dX12_town_99 (by decide) (fun c14 => ?_) (fun c14 => ?_)
          · have hgo : ¬ pGo (pL bt t (q91.2, upd (zer dr 28) 1 q72.1) k).1 := by first | exact fun z => c14 z.1 | exact fun z => c14 z.2.1 | exact fun z => z.2.2 c14
            rw [pL_stop7 (show k ≤ 7 by omega) hgo] at hP
            exact K7 ls H locs ⟨lv_sub hl [0] rfl, hP, hS⟩
          · refine lv_aload_n hx hb dX12_town_102 rfl (lv_at hl 0 rfl) ?_
            refine va_get (D := D) (ci := 11) (v := .int ((pL bt t (q91.2, upd (zer dr 28) 1 q72.1) k).1.2.2.1)) (C := RX12) (T := TX12) (N := 21) hx hb hts u_X12_town_X12 hown hK.1 hP 0 rfl rfl 11 (by decide) (hts (.fieldLink RX12 92 "NoticeWeekModel" "token" "I") (List.mem_of_getElem? (i := 4) rfl)) (fun _ h9 => h9) rfl dX12_town_103 ?_
            refine lv_iconst (v := 1) hx hb dX12_town_106 (by decide) ?_
            refine lv_icmp_ne (tgt := 127) hx hb dX12_town_107 (by decide) (fun c15 => ?_) (fun c15 => ?_)
            · have hgo : ¬ pGo (pL bt t (q91.2, upd (zer dr 28) 1 q72.1) k).1 := by first | exact fun z => c15 z.1 | exact fun z => c15 z.2.1 | exact fun z => z.2.2 c15
              rw [pL_stop7 (show k ≤ 7 by omega) hgo] at hP
              exact K7 ls H locs ⟨lv_sub hl [0] rfl, hP, hS⟩
            · refine lv_aload_n hx hb dX12_town_110 rfl (lv_at hl 0 rfl) ?_
              refine va_get (D := D) (ci := 11) (v := .int ((pL bt t (q91.2, upd (zer dr 28) 1 q72.1) k).1.2.2.2.1)) (C := RX12) (T := TX12) (N := 21) hx hb hts u_X12_town_X12 hown hK.1 hP 0 rfl rfl 12 (by decide) (hts (.fieldLink RX12 89 "NoticeWeekModel" "value" "I") (List.mem_of_getElem? (i := 5) rfl)) (fun _ h9 => h9) rfl dX12_town_111 ?_
              refine b_call (va_runS (As := [.int ((pL bt t (q91.2, upd (zer dr 28) 1 q72.1) k).1.2.2.2.1)]) (rest := []) ⟨hx, hb, hml, hown, hts⟩ (c_X12_kindOf l D cI cZ cT ((pL bt t (q91.2, upd (zer dr 28) 1 q72.1) k).1.2.2.2.1)) (va_cwS 1 hts gX12_town_X12_kindOf rfl rfl rfl (by decide +kernel) ⟨(Nat.le_of_ble_eq_true rfl), (Nat.le_of_ble_eq_true rfl)⟩) (b_pS0 hK) rfl rfl hl.1 rfl (lv_room (Nat.le_of_ble_eq_true rfl)) dX12_town_114 ⟨Nat.zero_le _, Nat.zero_le _⟩).run ?_
              refine lv_if_le (tgt := 127) hx hb dX12_town_117 (by decide) (fun c16 => ?_) (fun c16 => ?_)
              · have hgo : ¬ pGo (pL bt t (q91.2, upd (zer dr 28) 1 q72.1) k).1 := by first | exact fun z => c16 z.1 | exact fun z => c16 z.2.1 | exact fun z => z.2.2 c16
                rw [pL_stop7 (show k ≤ 7 by omega) hgo] at hP
                exact K7 ls H locs ⟨lv_sub hl [0] rfl, hP, hS⟩
              · have hgo : pGo (pL bt t (q91.2, upd (zer dr 28) 1 q72.1) k).1 := ⟨c14, c15, c16⟩
                obtain ⟨hk6, hdk⟩ := hV.2.2 hgo.1
                have hV1 : pInv t (k + 1) (pL bt t (q91.2, upd (zer dr 28) 1 q72.1) (k + 1)) := by rw [← pL_go hgo]; exact pInv_step ht hV hgo.1
                refine lv_aload_n hx hb dX12_town_120 rfl (lv_at hl 0 rfl) ?_
                refine b_callM [0, 1, 2, 3, 4, 5, 6, 7, 8, 9, 10, 11] (va_runV (As := []) (rest := []) ⟨hx, hb, hml, hown, hts⟩ (c_X12_readsReader l D cI cZ cT A0 ss t ac tr la ma it sr bt nw ((pL bt t (q91.2, upd (zer dr 28) 1 q72.1) k).2) pa im kp tc ((pL bt t (q91.2, upd (zer dr 28) 1 q72.1) k).1) k ht hV.1 hk6 hdk) (cwV 0 hts gX12_town_X12_readsReader rfl rfl rfl (by decide +kernel) ⟨(Nat.le_of_ble_eq_true rfl), (Nat.le_of_ble_eq_true rfl)⟩) (b_pVM hK hP hD [0, 1, 2, 3, 4, 5, 6, 7, 8, 9, 10, 11] (by decide) rfl rfl 0 rfl rfl) rfl rfl hl.1 rfl (lv_room (Nat.le_of_ble_eq_true rfl)) dX12_town_121 ⟨Nat.zero_le _, Nat.zero_le _⟩).run hP hD hS rfl (Nat.le_of_ble_eq_true rfl) (fun H locs hP hS => ?_)
                have hP : va_P D vwCl (wM cI cZ A0 ss (nI t) ((pRead bt t k ((pL bt t (q91.2, upd (zer dr 28) 1 q72.1) k).1) ((pL bt t (q91.2, upd (zer dr 28) 1 q72.1) k).2)).1.2.2.2.2.1) ((pRead bt t k ((pL bt t (q91.2, upd (zer dr 28) 1 q72.1) k).1) ((pL bt t (q91.2, upd (zer dr 28) 1 q72.1) k).2)).1.2.2.2.2.2) (nI (pRead bt t k ((pL bt t (q91.2, upd (zer dr 28) 1 q72.1) k).1) ((pL bt t (q91.2, upd (zer dr 28) 1 q72.1) k).2)).1.2.1) (nI (pRead bt t k ((pL bt t (q91.2, upd (zer dr 28) 1 q72.1) k).1) ((pL bt t (q91.2, upd (zer dr 28) 1 q72.1) k).2)).1.1) ((pRead bt t k ((pL bt t (q91.2, upd (zer dr 28) 1 q72.1) k).1) ((pL bt t (q91.2, upd (zer dr 28) 1 q72.1) k).2)).1.2.2.1) ((pRead bt t k ((pL bt t (q91.2, upd (zer dr 28) 1 q72.1) k).1) ((pL bt t (q91.2, upd (zer dr 28) 1 q72.1) k).2)).1.2.2.2.1) ac tr la ma it sr bt nw ((pRead bt t k ((pL bt t (q91.2, upd (zer dr 28) 1 q72.1) k).1) ((pL bt t (q91.2, upd (zer dr 28) 1 q72.1) k).2)).2) pa im kp tc) H := hP
                generalize eq121 : pRead bt t k ((pL bt t (q91.2, upd (zer dr 28) 1 q72.1) k).1) ((pL bt t (q91.2, upd (zer dr 28) 1 q72.1) k).2) = q121 at hP ⊢
                have hP : va_P D vwCl (wM cI cZ A0 ss (nI t) q121.1.2.2.2.2.1 q121.1.2.2.2.2.2 (nI q121.1.2.1) (nI q121.1.1) q121.1.2.2.1 q121.1.2.2.2.1 ac tr la ma it sr bt nw q121.2 pa im kp tc) H := hP
                have hD : va_D A (wM cI cZ A0 ss (nI t) q121.1.2.2.2.2.1 q121.1.2.2.2.2.2 (nI q121.1.2.1) (nI q121.1.1) q121.1.2.2.1 q121.1.2.2.2.1 ac tr la ma it sr bt nw q121.2 pa im kp tc) := hD.sameA [(A0 0), (A0 1), (A0 2), (A0 3), (A0 4), (A0 5), (A0 6), (A0 7), (A0 8), (A0 9), (A0 10), (A0 11)] rfl rfl
                have e9 : q121 = (pL bt t (q91.2, upd (zer dr 28) 1 q72.1) (k + 1)) := by rw [← eq121]; exact pL_go hgo
                rw [e9] at hP
                refine lv_goto (tgt := 95) hx hb dX12_town_124 (by decide) ?_
                exact ih13 (by omega) ls H locs ⟨lv_sub hl [0] rfl, hP, hS, hV1⟩
      · refine lv_aload_n hx hb dX12_town_77 rfl (lv_at hl 1 rfl) ?_
        refine va_get (D := D) (ci := 11) (v := .int q72.2.2.2.1) (C := RX12) (T := TX12) (N := 21) hx hb hts u_X12_town_X12 hown hK.1 hP 0 rfl rfl 11 (by decide) (hts (.fieldLink RX12 92 "NoticeWeekModel" "token" "I") (List.mem_of_getElem? (i := 4) rfl)) (fun _ h9 => h9) rfl dX12_town_78 ?_
        refine lv_iconst (v := 4) hx hb dX12_town_81 (by decide) ?_
        refine lv_icmp_ne (tgt := 89) hx hb dX12_town_82 (by decide) (fun c17 => ?_) (fun c17 => ?_)
        · refine lv_iconst (v := 0) hx hb dX12_town_89 (by decide) ?_
          exact K6 _ (by first | with_reducible rfl | (simp only [bI, eq_true c2, eq_false c17, not_true_eq_false, not_false_eq_true, ite_true, ite_false, if_true, if_false, and_self, and_true, true_and, false_and, and_false, or_true, true_or, or_false, false_or]; done) | (simp [bI, eq_true c2, eq_false c17]; done) | omega)
        · refine lv_iconst (v := 1) hx hb dX12_town_85 (by decide) ?_
          refine lv_goto (tgt := 90) hx hb dX12_town_86 (by decide) ?_
          exact K6 _ (by first | with_reducible rfl | (simp only [bI, eq_true c2, eq_true c17, not_true_eq_false, not_false_eq_true, ite_true, ite_false, if_true, if_false, and_self, and_true, true_and, false_and, and_false, or_true, true_or, or_false, false_or]; done) | (simp [bI, eq_true c2, eq_true c17]; done) | omega)
    · refine lv_aload_n hx hb dX12_town_36 rfl (lv_at hl 1 rfl) ?_
      refine va_get (D := D) (ci := 11) (v := .int q32.2.1) (C := RX12) (T := TX12) (N := 21) hx hb hts u_X12_town_X12 hown hK.1 hP 0 rfl rfl 11 (by decide) (hts (.fieldLink RX12 92 "NoticeWeekModel" "token" "I") (List.mem_of_getElem? (i := 4) rfl)) (fun _ h9 => h9) rfl dX12_town_37 ?_
      refine lv_iconst (v := 1) hx hb dX12_town_40 (by decide) ?_
      refine lv_icmp_ne (tgt := 57) hx hb dX12_town_41 (by decide) (fun c18 => ?_) (fun c18 => ?_)
      · refine lv_iconst (v := 0) hx hb dX12_town_57 (by decide) ?_
        exact K4 _ (by first | with_reducible rfl | (simp only [bI, eq_true c2, eq_false c18, not_true_eq_false, not_false_eq_true, ite_true, ite_false, if_true, if_false, and_self, and_true, true_and, false_and, and_false, or_true, true_or, or_false, false_or]; done) | (simp [bI, eq_true c2, eq_false c18]; done) | omega)
      · refine lv_aload_n hx hb dX12_town_44 rfl (lv_at hl 1 rfl) ?_
        refine va_get (D := D) (ci := 11) (v := .int q32.2.2) (C := RX12) (T := TX12) (N := 21) hx hb hts u_X12_town_X12 hown hK.1 hP 0 rfl rfl 12 (by decide) (hts (.fieldLink RX12 89 "NoticeWeekModel" "value" "I") (List.mem_of_getElem? (i := 5) rfl)) (fun _ h9 => h9) rfl dX12_town_45 ?_
        refine lv_bipush (v := 119) hx hb dX12_town_48 (by decide) ?_
        refine lv_icmp_ne (tgt := 57) hx hb dX12_town_50 (by decide) (fun c19 => ?_) (fun c19 => ?_)
        · refine lv_iconst (v := 0) hx hb dX12_town_57 (by decide) ?_
          exact K4 _ (by first | with_reducible rfl | (simp only [bI, eq_true c2, eq_true c18, eq_false c19, not_true_eq_false, not_false_eq_true, ite_true, ite_false, if_true, if_false, and_self, and_true, true_and, false_and, and_false, or_true, true_or, or_false, false_or]; done) | (simp [bI, eq_true c2, eq_true c18, eq_false c19]; done) | omega)
        · refine lv_iconst (v := 1) hx hb dX12_town_53 (by decide) ?_
          refine lv_goto (tgt := 58) hx hb dX12_town_54 (by decide) ?_
          exact K4 _ (by first | with_reducible rfl | (simp only [bI, eq_true c2, eq_true c18, eq_true c19, not_true_eq_false, not_false_eq_true, ite_true, ite_false, if_true, if_false, and_self, and_true, true_and, false_and, and_false, or_true, true_or, or_false, false_or]; done) | (simp [bI, eq_true c2, eq_true c18, eq_true c19]; done) | omega)
  · refine lv_aload_n hx hb dX12_town_8 rfl (lv_at hl 1 rfl) ?_
    refine va_get (D := D) (ci := 11) (v := .ref (A0 7)) (C := RX12) (T := TX12) (N := 21) hx hb hts u_X12_town_X12 hown hK.1 hP 0 rfl rfl 14 (by decide) (hts (.fieldLink RX12 28 "NoticeWeekModel" "draft" "[I") (List.mem_of_getElem? (i := 1) rfl)) (fun _ h9 => h9) rfl dX12_town_9 ?_
    refine lv_iload_n hx hb dX12_town_12 rfl (lv_at hl 0 rfl) ?_
    refine lv_iconst (v := 0) hx hb dX12_town_13 (by decide) ?_
    refine b_ast hx hb hK hP hD hS 7 rfl (by omega) (by decide) dX12_town_14 (fun H locs hP hS => ?_)
    have hP : va_P D vwCl (wM cI cZ A0 ss (nI t) fk fp ap sp tk vl ac tr la ma it sr bt nw (upd (zer dr kz) kz 0) pa im kp tc) H := hP
    have hD : va_D A (wM cI cZ A0 ss (nI t) fk fp ap sp tk vl ac tr la ma it sr bt nw (upd (zer dr kz) kz 0) pa im kp tc) := hD.sameA [(A0 0), (A0 1), (A0 2), (A0 3), (A0 4), (A0 5), (A0 6), (A0 7), (A0 8), (A0 9), (A0 10), (A0 11)] rfl rfl
    refine lv_iinc (v := (nI (kz + 1))) (lv' := [(1, .int (nI (kz + 1))), (0, .ref (A0 0))]) hx hb dX12_town_15 hl (k := 0) rfl (nI_add _ _) (by decide) rfl (fun ls hl => ?_)
    refine lv_goto (tgt := 2) hx hb dX12_town_18 (by decide) ?_
    exact ih1 (by omega) ls H locs ⟨lv_sub hl [0, 1] rfl, hP, hS⟩
