/-! CLASS: the tape, second -/
theorem lk_ne {x a : Int32} {k : Int} (hk : a.toInt = k) (h : ¬ x = a) : ¬ k = x.toInt := fun g => h (i_toInt.mpr (g.symm.trans hk.symm))
theorem lk_out {x : Int32} (c1 : ¬ x = 99) (c2 : ¬ x = 107) (c3 : ¬ x = 112) (c4 : ¬ x = 115) (c5 : ¬ x = 118) : Op.lookupswitch.offset [(99, 57), (107, 59), (112, 51), (115, 55), (118, 53)] 61 x.toInt = 61 := by
  rw [Op.lookupswitch.offset_cons, if_neg (lk_ne (by decide) c1), Op.lookupswitch.offset_cons, if_neg (lk_ne (by decide) c2), Op.lookupswitch.offset_cons, if_neg (lk_ne (by decide) c3), Op.lookupswitch.offset_cons, if_neg (lk_ne (by decide) c4), Op.lookupswitch.offset_cons, if_neg (lk_ne (by decide) c5)]; rfl
def kSF (x : Int32) : Int32 := if x = 99 then 4 else if x = 107 then 5 else if x = 112 then 1 else if x = 115 then 3 else if x = 118 then 2 else 0
def nfF (bt : Nat → Int32) (t a : Nat) : Nat → Nat
  | 0 => 0
  | k + 1 => if nfF bt t a k = k ∧ a + k < t ∧ ¬ bt (a + k) < 48 ∧ ¬ 57 < bt (a + k) then k + 1 else nfF bt t a k
theorem nfF_go {bt : Nat → Int32} {t a k : Nat} (h : nfF bt t a k = k) (h1 : a + k < t) (h2 : ¬ bt (a + k) < 48 ∧ ¬ 57 < bt (a + k)) : nfF bt t a (k + 1) = k + 1 := if_pos ⟨h, h1, h2⟩
theorem nfF_le (bt : Nat → Int32) (t a k : Nat) : nfF bt t a k ≤ k := by
  induction k with
  | zero => exact Nat.le_refl _
  | succ k ih => unfold nfF; split <;> omega
theorem nfF_stop {bt : Nat → Int32} {t a k : Nat} (h : nfF bt t a k = k) (h1 : ¬ (a + k < t ∧ ¬ bt (a + k) < 48 ∧ ¬ 57 < bt (a + k))) (j : Nat) : nfF bt t a (k + j) = k := by
  induction j with
  | zero => exact h
  | succ j ih =>
    show (if nfF bt t a (k + j) = k + j ∧ a + (k + j) < t ∧ ¬ bt (a + (k + j)) < 48 ∧ ¬ 57 < bt (a + (k + j)) then k + j + 1 else nfF bt t a (k + j)) = k
    rw [if_neg, ih]
    rintro ⟨z1, z2⟩
    rw [ih] at z1
    have : j = 0 := by omega
    subst this
    exact h1 z2
def nvF (bt : Nat → Int32) (a k : Nat) : Int32 := itr (fun j x => x * 10 + bt (a + j) - 48) k 0
def tNm (bt : Nat → Int32) (t : Nat) (mo : Int32) (z : Nat × Int32) : Int32 × Nat × Int32 := if z.2 = 0 then (if nfF bt t z.1 3 = 0 ∨ nfF bt t z.1 3 = 3 then (0, z.1, 1) else if mo < nvF bt z.1 (nfF bt t z.1 3) then (0, z.1, 2) else (nvF bt z.1 (nfF bt t z.1 3), z.1 + nfF bt t z.1 3, z.2)) else (0, z.1, z.2)
set_option maxHeartbeats 4000000 in
set_option maxRecDepth 100000 in
theorem c_X6_kindOfSort (l : Launch) (D : va_G) (cI cZ cT : ClassId) (x : Int32)  : Met l yX6_kindOfSort wsX6_kindOfSort ({ frames := 0, cells := 0, slots := 0, locals := 0 }) (pR D cI cZ cT [.int x] ([])) (QcRead (kSF x)) 0 0 (fun _ => False) := by
  refine Met.ofW (cc := cX6_kindOfSort) (maxL := 1) (ret := (some .int)) (by decide) rfl ?_
  intro p e s m args below meth c s₁ B hml hv
  obtain ⟨rfl, hP, hK⟩ := hv
  have hx := B.exec
  have hb := B.bytes
  have hr := B.returns
  have hts := atoms_spec (ws := wsX6_kindOfSort) B.pre
  have hown : s.vm.findClass RX6 = some m.cls := findClass_of_methodNamed B.named
  have hlocks := B.notSynchronized
  have hl := lv_entry ([.int x]) (n := 1) (Nat.le_of_ble_eq_true rfl)
  rw [lg_entry_eq]
  generalize (lg_sl ([.int x]) ++ List.replicate (1 - (lg_sl ([.int x])).length) Slot.unset).toArray = ls at hl ⊢
  have hl : lv_has ls 1 [(0, .int x)] := hl
  refine lv_iload_n hx hb dX6_kindOfSort_0 rfl (lv_at hl 0 rfl) ?_
  by_cases c1 : x = 99
  · refine lv_lookup (tgt := 58) hx hb dX6_kindOfSort_1 (by decide) (off := 57) (by rw [c1]; decide) (by decide) ?_
    refine lv_iconst (v := 4) hx hb dX6_kindOfSort_58 (by decide) ?_
    exact b_ret hx hb hr (by unfold kSF; rw [if_pos c1]) dX6_kindOfSort_59 hlocks
  by_cases c2 : x = 107
  · refine lv_lookup (tgt := 60) hx hb dX6_kindOfSort_1 (by decide) (off := 59) (by rw [c2]; decide) (by decide) ?_
    refine lv_iconst (v := 5) hx hb dX6_kindOfSort_60 (by decide) ?_
    exact b_ret hx hb hr (by unfold kSF; rw [if_neg c1, if_pos c2]) dX6_kindOfSort_61 hlocks
  by_cases c3 : x = 112
  · refine lv_lookup (tgt := 52) hx hb dX6_kindOfSort_1 (by decide) (off := 51) (by rw [c3]; decide) (by decide) ?_
    refine lv_iconst (v := 1) hx hb dX6_kindOfSort_52 (by decide) ?_
    exact b_ret hx hb hr (by unfold kSF; rw [if_neg c1, if_neg c2, if_pos c3]) dX6_kindOfSort_53 hlocks
  by_cases c4 : x = 115
  · refine lv_lookup (tgt := 56) hx hb dX6_kindOfSort_1 (by decide) (off := 55) (by rw [c4]; decide) (by decide) ?_
    refine lv_iconst (v := 3) hx hb dX6_kindOfSort_56 (by decide) ?_
    exact b_ret hx hb hr (by unfold kSF; rw [if_neg c1, if_neg c2, if_neg c3, if_pos c4]) dX6_kindOfSort_57 hlocks
  by_cases c5 : x = 118
  · refine lv_lookup (tgt := 54) hx hb dX6_kindOfSort_1 (by decide) (off := 53) (by rw [c5]; decide) (by decide) ?_
    refine lv_iconst (v := 2) hx hb dX6_kindOfSort_54 (by decide) ?_
    exact b_ret hx hb hr (by unfold kSF; rw [if_neg c1, if_neg c2, if_neg c3, if_neg c4, if_pos c5]) dX6_kindOfSort_55 hlocks
  refine lv_lookup (tgt := 62) hx hb dX6_kindOfSort_1 (by decide) (off := 61) (lk_out c1 c2 c3 c4 c5) (by decide) ?_
  refine lv_iconst (v := 0) hx hb dX6_kindOfSort_62 (by decide) ?_
  exact b_ret hx hb hr (by unfold kSF; rw [if_neg c1, if_neg c2, if_neg c3, if_neg c4, if_neg c5]) dX6_kindOfSort_63 hlocks
