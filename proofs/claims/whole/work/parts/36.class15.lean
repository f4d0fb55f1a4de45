/-! CLASS: temper, told, odds -/
theorem isK_nI {j : Nat} (h : j ≤ 4) : isK (nI (j + 1)) := by
  rcases (show j = 0 ∨ j = 1 ∨ j = 2 ∨ j = 3 ∨ j = 4 by omega) with rfl | rfl | rfl | rfl | rfl
  · exact Or.inl rfl
  · exact Or.inr (Or.inl rfl)
  · exact Or.inr (Or.inr (Or.inl rfl))
  · exact Or.inr (Or.inr (Or.inr (Or.inl rfl)))
  · exact Or.inr (Or.inr (Or.inr (Or.inr rfl)))
def tmC (dy dr nr lr : Int32) (co : Nat → Int32) (k : Nat) : Nat → Int32 := itr (fun j f => lcC (nI (j + 1)) dy dr nr lr f 16) k co
def tmX (it : Nat → Int32) (b x : Nat) (dy dr nr lr : Int32) (co : Nat → Int32) (k : Nat) : Int32 := itr (fun j s => if tellb it (lcC (nI (j + 1)) dy dr nr lr (tmC dy dr nr lr co j) 16) b x = true then s ||| (1 <<< (nI (j + 1) &&& 31)) else s) k 0
theorem tmC_s (dy dr nr lr : Int32) (co : Nat → Int32) (k : Nat) : tmC dy dr nr lr co (k + 1) = lcC (nI (k + 1)) dy dr nr lr (tmC dy dr nr lr co k) 16 := rfl
theorem tmX_s (it : Nat → Int32) (b x : Nat) (dy dr nr lr : Int32) (co : Nat → Int32) (k : Nat) : tmX it b x dy dr nr lr co (k + 1) = if tellb it (lcC (nI (k + 1)) dy dr nr lr (tmC dy dr nr lr co k) 16) b x = true then tmX it b x dy dr nr lr co k ||| (1 <<< (nI (k + 1) &&& 31)) else tmX it b x dy dr nr lr co k := rfl
def x_temper (fi dy : Int32) (n : Nat) (dd nt lf la sz it co : Nat → Int32) (reader row i x : Int32) : Int32 × Int32 × (Nat → Int32) :=
  if ¬ hasN n reader then (-1000001, fi, co) else if ¬ (¬ row < 0 ∧ ¬ 8 ≤ row) then (-1000001, fi, co) else if ¬ (¬ x < 1 ∧ ¬ 16 < x) then (-1000001, fi, co)
  else if ¬ lkF la sz (tn row) i x = 0 then ((-1000010) - lkF la sz (tn row) i x, lkF la sz (tn row) i x, co)
  else (tmX it (tn row * 40 + tn i) (tn x) dy (dd (tn reader)) (nt (tn reader)) (lf (tn reader)) co 5, 0, tmC dy (dd (tn reader)) (nt (tn reader)) (lf (tn reader)) co 5)
def toC (kr dy dr lr : Int32) (co : Nat → Int32) (k : Nat) : Nat → Int32 := itr (fun j f => lcC kr dy dr (nI (63 - j)) lr f 16) k co
def toX (it : Nat → Int32) (b x : Nat) (kr dy dr lr : Int32) (co : Nat → Int32) (k : Nat) : Int32 × Int32 := itr (fun j S => if tellb it (lcC kr dy dr (nI (63 - j)) lr (toC kr dy dr lr co j) 16) b x = true then (S.1 + 1, nI (63 - j)) else S) k (0, -1000000)
theorem toC_s (kr dy dr lr : Int32) (co : Nat → Int32) (k : Nat) : toC kr dy dr lr co (k + 1) = lcC kr dy dr (nI (63 - k)) lr (toC kr dy dr lr co k) 16 := rfl
theorem toX_s (it : Nat → Int32) (b x : Nat) (kr dy dr lr : Int32) (co : Nat → Int32) (k : Nat) : toX it b x kr dy dr lr co (k + 1) = if tellb it (lcC kr dy dr (nI (63 - k)) lr (toC kr dy dr lr co k) 16) b x = true then ((toX it b x kr dy dr lr co k).1 + 1, nI (63 - k)) else toX it b x kr dy dr lr co k := rfl
def toE (it : Nat → Int32) (b x : Nat) (kr dy dr lr : Int32) (co : Nat → Int32) : Int32 × Int32 := toX it b x kr dy dr lr co 64
def toCE (kr dy dr lr : Int32) (co : Nat → Int32) : Nat → Int32 := toC kr dy dr lr co 64
theorem toE_1 {it : Nat → Int32} {b x k : Nat} {kr dy dr lr : Int32} {co : Nat → Int32} (h : k = 64) : (toX it b x kr dy dr lr co k).1 = (toE it b x kr dy dr lr co).1 := by subst h; exact congrArg Prod.fst (Eq.refl (toE it b x kr dy dr lr co))
theorem toE_2 {it : Nat → Int32} {b x k : Nat} {kr dy dr lr : Int32} {co : Nat → Int32} (h : k = 64) : (toX it b x kr dy dr lr co k).2 = (toE it b x kr dy dr lr co).2 := by subst h; exact congrArg Prod.snd (Eq.refl (toE it b x kr dy dr lr co))
theorem toCE_e {k : Nat} {kr dy dr lr : Int32} {co : Nat → Int32} (h : k = 64) : toC kr dy dr lr co k = toCE kr dy dr lr co := by subst h; exact Eq.refl (toCE kr dy dr lr co)
def x_told (fi dy : Int32) (n : Nat) (kd dd lf la sz it co : Nat → Int32) (reader row i x what : Int32) : Int32 × Int32 × (Nat → Int32) :=
  if ¬ hasN n reader then (-1000001, fi, co) else if ¬ (¬ row < 0 ∧ ¬ 8 ≤ row) then (-1000001, fi, co) else if ¬ (¬ x < 1 ∧ ¬ 16 < x) then (-1000001, fi, co) else if ¬ isC what then (-1000001, fi, co)
  else if ¬ lkF la sz (tn row) i x = 0 then ((-1000010) - lkF la sz (tn row) i x, lkF la sz (tn row) i x, co)
  else (if what = 0 then (toE it (tn row * 40 + tn i) (tn x) (kd (tn reader)) dy (dd (tn reader)) (lf (tn reader)) co).1 else (toE it (tn row * 40 + tn i) (tn x) (kd (tn reader)) dy (dd (tn reader)) (lf (tn reader)) co).2, 0, toCE (kd (tn reader)) dy (dd (tn reader)) (lf (tn reader)) co)
theorem n63 : (63 : Int32) = nI (64 - 0) - 1 := by decide
theorem n63_s {k : Nat} (h : k ≤ 63) : nI (64 - k) - 1 = nI (63 - k) := by
  have e : nI (64 - k) - nI 1 = nI (64 - k - 1) := pk_sub (by omega)
  rw [show 64 - k - 1 = 63 - k by omega] at e
  exact e
theorem n63_ge {k : Nat} (hk : k ≤ 64) (h : ¬ nI (64 - k) - 1 < 0) : k ≤ 63 := by
  by_cases h1 : k ≤ 63
  · exact h1
  · exfalso
    have h2 : k = 64 := by omega
    subst h2
    exact h (by decide)
theorem n63_lt {k : Nat} (hk : k ≤ 64) (h : nI (64 - k) - 1 < 0) : k = 64 := by
  by_cases h1 : k ≤ 63
  · rw [n63_s h1] at h
    exact absurd h (nI_pos (by omega))
  · omega
theorem n63_m {k : Nat} : nI (63 - k) + (-1) = nI (64 - (k + 1)) - 1 := by
  rw [show 64 - (k + 1) = 63 - k by omega]
  exact (Int32.sub_eq_add_neg _ _).symm
theorem gI_half {S : Nat × Nat} (k : Nat) : (gI S (k + 2)).2 * 2 ≤ (gI S k).2 := by
  rw [gI_1, gI_1]
  generalize gI S k = T
  obtain ⟨x, y⟩ := T
  unfold gE
  by_cases h : y = 0
  · subst h; simp
  · rw [if_neg (show ¬ (x, y).2 = 0 from h)]
    show (if (y, x % y).2 = 0 then (y, x % y) else ((y, x % y).2, (y, x % y).1 % (y, x % y).2)).2 * 2 ≤ y
    by_cases h2 : x % y = 0
    · rw [if_pos (show (y, x % y).2 = 0 from h2)]
      show x % y * 2 ≤ y
      omega
    · rw [if_neg (show ¬ (y, x % y).2 = 0 from h2)]
      show y % (x % y) * 2 ≤ y
      have h3 : x % y < y := Nat.mod_lt _ (by omega)
      generalize x % y = r at h2 h3
      have h4 : y % r < r := Nat.mod_lt _ (by omega)
      have h5 := Nat.div_add_mod y r
      have h6 : 1 ≤ y / r := (Nat.one_le_div_iff (by omega)).mpr (by omega)
      have h7 : r * 1 ≤ r * (y / r) := Nat.mul_le_mul_left r h6
      omega
theorem gI_pow {S : Nat × Nat} (j : Nat) : (gI S (2 * j)).2 * 2 ^ j ≤ S.2 := by
  induction j with
  | zero => exact Nat.le_of_eq (Nat.mul_one _)
  | succ j ih =>
    have h := gI_half (S := S) (2 * j)
    rw [show 2 * (j + 1) = 2 * j + 2 by omega, Nat.pow_succ, Nat.mul_comm (2 ^ j) 2, ← Nat.mul_assoc]
    exact Nat.le_trans (Nat.mul_le_mul_right _ h) ih
theorem gI_64 {S : Nat × Nat} (h : S.2 ≤ 1000000) : (gI S 64).2 = 0 := by
  have h1 : (gI S 64).2 * 2 ^ 32 ≤ S.2 := gI_pow (S := S) 32
  have e : (2 : Nat) ^ 32 = 4294967296 := by decide
  rw [e] at h1
  omega
theorem gI_end {a b k : Nat} (h : (gI (b, a) k).2 = 0) : (gI (b, a) k).1 = Nat.gcd a b := by
  have y := gI_gcd (S := (b, a)) k
  rw [h, Nat.gcd_zero_left] at y
  exact y
theorem tenF_le {n : Nat} (h : n ≤ 6) : 1 ≤ tenF n ∧ tenF n ≤ 1000000 := by
  rcases (show n = 0 ∨ n = 1 ∨ n = 2 ∨ n = 3 ∨ n = 4 ∨ n = 5 ∨ n = 6 by omega) with rfl | rfl | rfl | rfl | rfl | rfl | rfl <;> decide
abbrev odG (dy : Int32) (kd dd nt lf : Nat → Int32) (c : Int32) (wy : Nat → Int32) (n kq : Nat) : Int32 := wsF (wyF dy kd dd nt lf c wy n) kq (n + 1 - kq)
def x_odds (st dy : Int32) (n : Nat) (kd dd nt lf wy : Nat → Int32) (kk dc what : Int32) : Int32 × (Nat → Int32) :=
  if st = 0 then (-1000002, wy) else if kk < 0 then (-1000001, wy) else if 6 < kk then (-1000001, wy) else if dc < 0 then (-1000001, wy) else if 10 < dc then (-1000001, wy) else if ¬ isC what then (-1000001, wy)
  else (if what = 0 then nI (tn (odG dy kd dd nt lf dc wy n (tn kk)) / Nat.gcd (tn (odG dy kd dd nt lf dc wy n (tn kk))) (tenF n)) else nI (tenF n / Nat.gcd (tn (odG dy kd dd nt lf dc wy n (tn kk))) (tenF n)), wyF dy kd dd nt lf dc wy n)
theorem u_X11_temper_X11 : ∀ w ∈ wsX110, w ∈ wsX11_temper := fun _ h => List.mem_cons_of_mem _ (List.mem_append_left _ (List.mem_append_left _ (List.mem_append_left _ (List.mem_append_right _ h))))
theorem u_X11_temper_X2 : ∀ w ∈ wsX20, w ∈ wsX11_temper := fun _ h => List.mem_cons_of_mem _ (List.mem_append_left _ (List.mem_append_right _ h))
theorem u_X11_temper_X8 : ∀ w ∈ wsX80, w ∈ wsX11_temper := fun _ h => List.mem_cons_of_mem _ (List.mem_append_left _ (List.mem_append_left _ (List.mem_append_right _ h)))
set_option maxHeartbeats 1000000 in
set_option maxRecDepth 100000 in
theorem c_X11_temper (l : Launch) (D : va_G) (cI cZ cT : ClassId) (nx : Nat) (ra pa ta da : Nat → Nat) (ia xa : Nat) (fa za : Nat → Nat) (un na fi : Int32) (it la sz : Nat → Int32) (st dy ln : Int32) (n : Nat) (kd dd nt lf co wy : Nat → Int32) (reader row i x : Int32) (hn : n ≤ 6) (hM : ∀ r, r ≤ 7 → ∃ n, n ≤ 40 ∧ sz r = nI n) : Met l yX11_temper wsX11_temper ({ frames := 4, cells := 0, slots := 0, locals := 94 }) (pM D cI cZ cT [.ref nx, .int reader, .int row, .int i, .int x] (wNW nx ra pa ta da ia xa fa za un na fi ++ wRows cI ra it la sz ++ wTown cI ta st dy ln (nI n) kd dd nt lf ++ wFore cI fa co wy)) (qM D (some (.int ((x_temper fi dy n dd nt lf la sz it co reader row i x).1))) (wNW nx ra pa ta da ia xa fa za un na ((x_temper fi dy n dd nt lf la sz it co reader row i x).2.1) ++ wRows cI ra it la sz ++ wTown cI ta st dy ln (nI n) kd dd nt lf ++ wFore cI fa ((x_temper fi dy n dd nt lf la sz it co reader row i x).2.2) wy) (adr (wNW nx ra pa ta da ia xa fa za un na fi ++ wRows cI ra it la sz ++ wTown cI ta st dy ln (nI n) kd dd nt lf ++ wFore cI fa co wy))) 0 0 (adr (wNW nx ra pa ta da ia xa fa za un na fi ++ wRows cI ra it la sz ++ wTown cI ta st dy ln (nI n) kd dd nt lf ++ wFore cI fa co wy)) := by
  refine Met.ofW (cc := cX11_temper) (maxL := 8) (ret := (some .int)) (by decide) rfl ?_
  intro p e s m args below meth c s₁ B hml hv
  obtain ⟨rfl, hP, hD0, hK⟩ := hv
  have hx := B.exec
  have hb := B.bytes
  have hr := B.returns
  have hts := atoms_spec (ws := wsX11_temper) B.pre
  have hown : s.vm.findClass RX11 = some m.cls := findClass_of_methodNamed B.named
  have hlocks := B.notSynchronized
  have hD := hD0.toAdr
  have hS : va_S (adr (wNW nx ra pa ta da ia xa fa za un na fi ++ wRows cI ra it la sz ++ wTown cI ta st dy ln (nI n) kd dd nt lf ++ wFore cI fa co wy)) s.heap s.heap [] := va_S.rf
  generalize adr (wNW nx ra pa ta da ia xa fa za un na fi ++ wRows cI ra it la sz ++ wTown cI ta st dy ln (nI n) kd dd nt lf ++ wFore cI fa co wy) = A at hD hS ⊢
  have hl := lv_entry ([.ref nx, .int reader, .int row, .int i, .int x]) (n := 8) (Nat.le_of_ble_eq_true rfl)
  rw [lg_entry_eq]
  generalize (lg_sl ([.ref nx, .int reader, .int row, .int i, .int x]) ++ List.replicate (8 - (lg_sl ([.ref nx, .int reader, .int row, .int i, .int x])).length) Slot.unset).toArray = ls at hl ⊢
  have hl : lv_has ls 8 [(0, .ref nx), (1, .int reader), (2, .int row), (3, .int i), (4, .int x)] := hl
  refine lv_aload_n hx hb dX11_temper_0 rfl (lv_at hl 0 rfl) ?_
  refine va_get (D := D) (ci := 10) (v := .ref (ta 0)) (C := RX11) (T := TX11) (N := 11) hx hb hts u_X11_temper_X11 hown hK.1 hP 0 rfl rfl 2 (by decide) (hts (.fieldLink RX11 26 "NoticeWeek" "town" "LNoticeWeek$Town;") (List.mem_of_getElem? (i := 1) rfl)) (fun _ h9 => h9) rfl dX11_temper_1 ?_
  refine lv_iload_n hx hb dX11_temper_4 rfl (lv_at hl 1 rfl) ?_
  refine b_call (va_runV (As := [.int reader]) (rest := []) ⟨hx, hb, hml, hown, hts⟩ (c_X8_has l D cI cZ cT ta st dy ln (nI n) kd dd nt lf reader) (cwV 1 hts gX11_temper_X8_has rfl rfl rfl (by decide +kernel) ⟨(Nat.le_of_ble_eq_true rfl), (Nat.le_of_ble_eq_true rfl)⟩) (b_pV hK hP [5, 6, 7, 8, 9] rfl 5 rfl rfl) rfl rfl hl.1 rfl (lv_room (Nat.le_of_ble_eq_true rfl)) dX11_temper_5 ⟨Nat.zero_le _, Nat.zero_le _⟩).run ?_
  refine b_ifeq (tgt := 26) hx hb dX11_temper_8 (by decide) (fun c1 => ?_) (fun c1 => ?_)
  · refine lv_ldc (v := (-1000001)) hx hb hown (hts (.constant RX11 71 (-1000001)) (List.mem_of_getElem? (i := 2) rfl)) dX11_temper_26 ?_
    have E : x_temper fi dy n dd nt lf la sz it co reader row i x = ((-1000001), fi, co) := (by first | (simp only [x_temper, eq_false c1, bI, not_true_eq_false, not_false_eq_true, ite_true, ite_false, if_true, if_false, and_self, and_true, true_and, false_and, and_false, or_true, true_or, or_false, false_or, eq_self]; done) | (simp [x_temper, eq_false c1, bI]; done))
    rw [E]
    exact b_retM hx hb hr hP hS rfl dX11_temper_28 hlocks
  · refine lv_iload_n hx hb dX11_temper_11 rfl (lv_at hl 2 rfl) ?_
    refine b_call (va_runS (As := [.int row]) (rest := []) ⟨hx, hb, hml, hown, hts⟩ (c_X4_isRow l D cI cZ cT row) (va_cwS 1 hts gX11_temper_X4_isRow rfl rfl rfl (by decide +kernel) ⟨(Nat.le_of_ble_eq_true rfl), (Nat.le_of_ble_eq_true rfl)⟩) (b_pS0 hK) rfl rfl hl.1 rfl (lv_room (Nat.le_of_ble_eq_true rfl)) dX11_temper_12 ⟨Nat.zero_le _, Nat.zero_le _⟩).run ?_
    refine b_ifeq (tgt := 26) hx hb dX11_temper_15 (by decide) (fun c2 => ?_) (fun c2 => ?_)
    · refine lv_ldc (v := (-1000001)) hx hb hown (hts (.constant RX11 71 (-1000001)) (List.mem_of_getElem? (i := 2) rfl)) dX11_temper_26 ?_
      have E : x_temper fi dy n dd nt lf la sz it co reader row i x = ((-1000001), fi, co) := (by first | (simp only [x_temper, eq_true c1, eq_false c2, bI, not_true_eq_false, not_false_eq_true, ite_true, ite_false, if_true, if_false, and_self, and_true, true_and, false_and, and_false, or_true, true_or, or_false, false_or, eq_self]; done) | (simp [x_temper, eq_true c1, eq_false c2, bI]; done))
      rw [E]
      exact b_retM hx hb hr hP hS rfl dX11_temper_28 hlocks
    · refine lv_iload hx hb dX11_temper_18 (lv_at hl 4 rfl) ?_
      refine b_call (va_runS (As := [.int x]) (rest := []) ⟨hx, hb, hml, hown, hts⟩ (c_X11_isToldDays l D cI cZ cT x) (va_cwS 1 hts gX11_temper_X11_isToldDays rfl rfl rfl (by decide +kernel) ⟨(Nat.le_of_ble_eq_true rfl), (Nat.le_of_ble_eq_true rfl)⟩) (b_pS0 hK) rfl rfl hl.1 rfl (lv_room (Nat.le_of_ble_eq_true rfl)) dX11_temper_20 ⟨Nat.zero_le _, Nat.zero_le _⟩).run ?_
      refine b_ifne (tgt := 29) hx hb dX11_temper_23 (by decide) (fun c3 => ?_) (fun c3 => ?_)
      · obtain ⟨r, hh_r, rfl⟩ : ∃ r : Nat, r ≤ 5 ∧ reader = nI r := has_r hn c1
        have hl : lv_has ls 8 [(0, .ref nx), (1, .int (nI (r))), (2, .int row), (3, .int i), (4, .int x)] := hl
        have htr : tn (nI r) = r := tn_nI hh_r
        have hrn : r < n := rd_lt hn hh_r c1
        obtain ⟨rv, hh_rv, rfl⟩ : ∃ r : Nat, r ≤ 7 ∧ row = nI r := i_ltC 7 (by omega) c2.1 c2.2 rfl
        have hl : lv_has ls 8 [(0, .ref nx), (1, .int (nI (r))), (2, .int (nI (rv))), (3, .int i), (4, .int x)] := hl
        have ht_rv : tn (nI rv) = rv := tn_nI hh_rv
        refine lv_aload_n hx hb dX11_temper_29 rfl (lv_at hl 0 rfl) ?_
        refine lv_iload_n hx hb dX11_temper_30 rfl (lv_at hl 2 rfl) ?_
        refine lv_iload_n hx hb dX11_temper_31 rfl (lv_at hl 3 rfl) ?_
        refine lv_iload hx hb dX11_temper_32 (lv_at hl 4 rfl) ?_
        refine b_call (va_runV (As := [.int (nI (rv)), .int i, .int x]) (rest := []) ⟨hx, hb, hml, hown, hts⟩ (c_X11_lackOf l D cI cZ cT nx ra pa ta da ia xa fa za un na fi it la sz rv i x (by omega)) (cwV 3 hts gX11_temper_X11_lackOf rfl rfl rfl (by decide +kernel) ⟨(Nat.le_of_ble_eq_true rfl), (Nat.le_of_ble_eq_true rfl)⟩) (b_pV hK hP [0, 1, 2, 3, 4] rfl 0 rfl rfl) rfl rfl hl.1 rfl (lv_room (Nat.le_of_ble_eq_true rfl)) dX11_temper_34 ⟨Nat.zero_le _, Nat.zero_le _⟩).run ?_
        refine lv_topi (fun x4 ex4 => ?_)
        refine lv_istore (lv' := [(5, .int x4), (0, .ref nx), (1, .int (nI (r))), (2, .int (nI (rv))), (3, .int i), (4, .int x)]) hx hb dX11_temper_37 hl (by decide) rfl (fun ls hl => ?_)
        subst ex4
        have hl : lv_has ls 8 [(5, .int (lkF la sz rv i x)), (0, .ref nx), (1, .int (nI (r))), (2, .int (nI (rv))), (3, .int i), (4, .int x)] := hl
        refine lv_iload hx hb dX11_temper_39 (lv_at hl 0 rfl) ?_
        refine lv_if_eq (tgt := 51) hx hb dX11_temper_41 (by decide) (fun c5 => ?_) (fun c5 => ?_)
        · obtain ⟨nr, hnr, hmr⟩ := hM rv hh_rv
          have hc9 := (lk_0 c5).2
          rw [hmr] at hc9
          obtain ⟨iv, nv, hin, rfl, rfl⟩ := i_place hnr hc9
          have hl : lv_has ls 8 [(5, .int (lkF la sz rv (nI iv) (nI nv))), (0, .ref nx), (1, .int (nI (r))), (2, .int (nI (rv))), (3, .int (nI (iv))), (4, .int (nI (nv)))] := hl
          have hnv : nv ≤ 16 := by have z := c3.2; rw [i_lt, nI_toInt (by omega)] at z; have : (16 : Int32).toInt = 16 := rfl; omega
          have htiv : tn (nI iv) = iv := tn_nI (show iv ≤ 40 by omega)
          have htnv : tn (nI nv) = nv := tn_nI (show nv ≤ 40 by omega)
          refine lv_iconst (v := 0) hx hb dX11_temper_51 (by decide) ?_
          refine lv_istore (lv' := [(6, .int 0), (5, .int (lkF la sz rv (nI iv) (nI nv))), (0, .ref nx), (1, .int (nI (r))), (2, .int (nI (rv))), (3, .int (nI (iv))), (4, .int (nI (nv)))]) hx hb dX11_temper_52 hl (by decide) rfl (fun ls hl => ?_)
          refine lv_iconst (v := (nI 1)) hx hb dX11_temper_54 (by decide) ?_
          refine lv_istore (lv' := [(7, .int (nI 1)), (6, .int 0), (5, .int (lkF la sz rv (nI iv) (nI nv))), (0, .ref nx), (1, .int (nI (r))), (2, .int (nI (rv))), (3, .int (nI (iv))), (4, .int (nI (nv)))]) hx hb dX11_temper_55 hl (by decide) rfl (fun ls hl => ?_)
          refine b_loopM (N := 5) (I := fun j ls H locs => lv_has ls 8 [(7, .int (nI (j + 1))), (6, .int (tmX it (rv * 40 + iv) nv dy (dd r) (nt r) (lf r) co j)), (0, .ref nx), (1, .int (nI (r))), (2, .int (nI (rv))), (3, .int (nI (iv))), (4, .int (nI (nv)))] ∧ va_P D vwCl (wNW nx ra pa ta da ia xa fa za un na fi ++ wRows cI ra it la sz ++ wTown cI ta st dy ln (nI n) kd dd nt lf ++ wFore cI fa (tmC dy (dd r) (nt r) (lf r) co j) wy) H ∧ va_S A s.heap H locs) (fun j hj ih6 ls H locs hI => ?_) 0 (by omega) ⟨lv_sub hl [0, 1, 3, 4, 5, 6, 7] rfl, hP, hS⟩
          obtain ⟨hl, hP, hS⟩ := hI
          have hl : lv_has ls 8 [(7, .int (nI (j + 1))), (6, .int (tmX it (rv * 40 + iv) nv dy (dd r) (nt r) (lf r) co j)), (0, .ref nx), (1, .int (nI (r))), (2, .int (nI (rv))), (3, .int (nI (iv))), (4, .int (nI (nv)))] := hl
          have hP : va_P D vwCl (wNW nx ra pa ta da ia xa fa za un na fi ++ wRows cI ra it la sz ++ wTown cI ta st dy ln (nI n) kd dd nt lf ++ wFore cI fa (tmC dy (dd r) (nt r) (lf r) co j) wy) H := hP
          have hD : va_D A (wNW nx ra pa ta da ia xa fa za un na fi ++ wRows cI ra it la sz ++ wTown cI ta st dy ln (nI n) kd dd nt lf ++ wFore cI fa (tmC dy (dd r) (nt r) (lf r) co j) wy) := hD.sameA [nx, (ra 0), (ra 1), (ra 2), (ra 3), (ta 0), (ta 1), (ta 2), (ta 3), (ta 4), (fa 0), (fa 1), (fa 2), (fa 3), (fa 4), (fa 5), (fa 6), (fa 7)] rfl rfl
          refine lv_iload hx hb dX11_temper_57 (lv_at hl 0 rfl) ?_
          refine lv_iconst (v := (nI 5)) hx hb dX11_temper_59 (by decide) ?_
          refine b_gt (tgt := 122) hx hb (by omega) (by omega) dX11_temper_60 (by decide) (fun c7 => ?_) (fun c7 => ?_)
          · have h_j : 5 = j := by omega
            subst h_j
            refine lv_aload_n hx hb dX11_temper_122 rfl (lv_at hl 2 rfl) ?_
            refine lv_iload hx hb dX11_temper_123 (lv_at hl 1 rfl) ?_
            refine b_callM [0] (va_runV (As := [.int (tmX it (rv * 40 + iv) nv dy (dd r) (nt r) (lf r) co 5)]) (rest := []) ⟨hx, hb, hml, hown, hts⟩ (c_X11_well l D cI cZ cT nx ra pa ta da ia xa fa za un na fi (tmX it (rv * 40 + iv) nv dy (dd r) (nt r) (lf r) co 5)) (cwV 1 hts gX11_temper_X11_well rfl rfl rfl (by decide +kernel) ⟨(Nat.le_of_ble_eq_true rfl), (Nat.le_of_ble_eq_true rfl)⟩) (b_pVM hK hP hD [0] (by decide) rfl rfl 0 rfl rfl) rfl rfl hl.1 rfl (lv_room (Nat.le_of_ble_eq_true rfl)) dX11_temper_125 ⟨Nat.zero_le _, Nat.zero_le _⟩).run hP hD hS rfl (Nat.le_of_ble_eq_true rfl) (fun H locs hP hS => ?_)
            have hP : va_P D vwCl (wNW nx ra pa ta da ia xa fa za un na 0 ++ wRows cI ra it la sz ++ wTown cI ta st dy ln (nI n) kd dd nt lf ++ wFore cI fa (tmC dy (dd r) (nt r) (lf r) co 5) wy) H := hP
            have hD : va_D A (wNW nx ra pa ta da ia xa fa za un na 0 ++ wRows cI ra it la sz ++ wTown cI ta st dy ln (nI n) kd dd nt lf ++ wFore cI fa (tmC dy (dd r) (nt r) (lf r) co 5) wy) := hD.sameA [nx, (ra 0), (ra 1), (ra 2), (ra 3), (ta 0), (ta 1), (ta 2), (ta 3), (ta 4), (fa 0), (fa 1), (fa 2), (fa 3), (fa 4), (fa 5), (fa 6), (fa 7)] rfl rfl
            have E : x_temper fi dy n dd nt lf la sz it co (nI r) (nI rv) (nI iv) (nI nv) = ((tmX it (rv * 40 + iv) nv dy (dd r) (nt r) (lf r) co 5), 0, (tmC dy (dd r) (nt r) (lf r) co 5)) := (by first | (simp only [x_temper, eq_true c1, eq_true c2, eq_true c3, eq_true c5, eq_true c7, htr, ht_rv, htiv, htnv, bI, not_true_eq_false, not_false_eq_true, ite_true, ite_false, if_true, if_false, and_self, and_true, true_and, false_and, and_false, or_true, true_or, or_false, false_or, eq_self]; done) | (simp [x_temper, eq_true c1, eq_true c2, eq_true c3, eq_true c5, eq_true c7, htr, ht_rv, htiv, htnv, bI]; done))
            rw [E]
            exact b_retM hx hb hr hP hS rfl dX11_temper_128 hlocks
          · refine lv_aload_n hx hb dX11_temper_63 rfl (lv_at hl 2 rfl) ?_
            refine va_get (D := D) (ci := 10) (v := .ref (fa 0)) (C := RX11) (T := TX11) (N := 11) hx hb hts u_X11_temper_X11 hown hK.1 hP 0 rfl rfl 8 (by decide) (hts (.fieldLink RX11 50 "NoticeWeek" "foresight" "LNoticeWeek$Foresight;") (List.mem_of_getElem? (i := 3) rfl)) (fun _ h9 => h9) rfl dX11_temper_64 ?_
            refine lv_aload_n hx hb dX11_temper_67 rfl (lv_at hl 2 rfl) ?_
            refine va_get (D := D) (ci := 10) (v := .ref (ta 0)) (C := RX11) (T := TX11) (N := 11) hx hb hts u_X11_temper_X11 hown hK.1 hP 0 rfl rfl 2 (by decide) (hts (.fieldLink RX11 26 "NoticeWeek" "town" "LNoticeWeek$Town;") (List.mem_of_getElem? (i := 1) rfl)) (fun _ h9 => h9) rfl dX11_temper_68 ?_
            refine lv_iload_n hx hb dX11_temper_71 rfl (lv_at hl 3 rfl) ?_
            refine lv_iload hx hb dX11_temper_72 (lv_at hl 0 rfl) ?_
            refine lv_aload_n hx hb dX11_temper_74 rfl (lv_at hl 2 rfl) ?_
            refine va_get (D := D) (ci := 10) (v := .ref (ta 0)) (C := RX11) (T := TX11) (N := 11) hx hb hts u_X11_temper_X11 hown hK.1 hP 0 rfl rfl 2 (by decide) (hts (.fieldLink RX11 26 "NoticeWeek" "town" "LNoticeWeek$Town;") (List.mem_of_getElem? (i := 1) rfl)) (fun _ h9 => h9) rfl dX11_temper_75 ?_
            refine va_get (D := D) (ci := 7) (v := .ref (ta 3)) (C := RX8) (T := TX8) (N := 8) hx hb hts u_X11_temper_X8 hown hK.1 hP 5 rfl rfl 6 (by decide) (hts (.fieldLink RX11 164 "NoticeWeek$Town" "notice" "[I") (List.mem_of_getElem? (i := 4) rfl)) (fun _ h9 => h9) rfl dX11_temper_78 ?_
            refine lv_iload_n hx hb dX11_temper_81 rfl (lv_at hl 3 rfl) ?_
            refine b_ald hx hb hK hP 8 rfl (by omega) (by decide) dX11_temper_82 ?_
            refine b_callM [5, 6, 7, 8, 9, 10, 11, 12, 13, 14, 15, 16, 17] (va_runV (As := [.ref (ta 0), .int (nI (r)), .int (nI (j + 1)), .int (nt r)]) (rest := []) ⟨hx, hb, hml, hown, hts⟩ (c_X2_layCourse l D cI cZ cT ta st dy ln (nI n) kd dd nt lf fa (tmC dy (dd r) (nt r) (lf r) co j) wy r (nI (j + 1)) (nt r) (by omega) (isK_nI (by omega))) (cwV 4 hts gX11_temper_X2_layCourse rfl rfl rfl (by decide +kernel) ⟨(Nat.le_of_ble_eq_true rfl), (Nat.le_of_ble_eq_true rfl)⟩) (b_pVM hK hP hD [5, 6, 7, 8, 9, 10, 11, 12, 13, 14, 15, 16, 17] (by decide) rfl rfl 10 rfl rfl) rfl rfl hl.1 rfl (lv_room (Nat.le_of_ble_eq_true rfl)) dX11_temper_83 ⟨Nat.zero_le _, Nat.zero_le _⟩).run hP hD hS rfl (Nat.le_of_ble_eq_true rfl) (fun H locs hP hS => ?_)
            have hP : va_P D vwCl (wNW nx ra pa ta da ia xa fa za un na fi ++ wRows cI ra it la sz ++ wTown cI ta st dy ln (nI n) kd dd nt lf ++ wFore cI fa (lcC (nI (j + 1)) dy (dd r) (nt r) (lf r) (tmC dy (dd r) (nt r) (lf r) co j) 16) wy) H := hP
            have hD : va_D A (wNW nx ra pa ta da ia xa fa za un na fi ++ wRows cI ra it la sz ++ wTown cI ta st dy ln (nI n) kd dd nt lf ++ wFore cI fa (lcC (nI (j + 1)) dy (dd r) (nt r) (lf r) (tmC dy (dd r) (nt r) (lf r) co j) 16) wy) := hD.sameA [nx, (ra 0), (ra 1), (ra 2), (ra 3), (ta 0), (ta 1), (ta 2), (ta 3), (ta 4), (fa 0), (fa 1), (fa 2), (fa 3), (fa 4), (fa 5), (fa 6), (fa 7)] rfl rfl
            refine lv_aload_n hx hb dX11_temper_86 rfl (lv_at hl 2 rfl) ?_
            refine va_get (D := D) (ci := 10) (v := .ref (ra 0)) (C := RX11) (T := TX11) (N := 11) hx hb hts u_X11_temper_X11 hown hK.1 hP 0 rfl rfl 0 (by decide) (hts (.fieldLink RX11 12 "NoticeWeek" "rows" "LNoticeWeek$Rows;") (List.mem_of_getElem? (i := 5) rfl)) (fun _ h9 => h9) rfl dX11_temper_87 ?_
            refine lv_iload_n hx hb dX11_temper_90 rfl (lv_at hl 4 rfl) ?_
            refine lv_iload_n hx hb dX11_temper_91 rfl (lv_at hl 5 rfl) ?_
            refine lv_iload hx hb dX11_temper_92 (lv_at hl 6 rfl) ?_
            refine lv_aload_n hx hb dX11_temper_94 rfl (lv_at hl 2 rfl) ?_
            refine va_get (D := D) (ci := 10) (v := .ref (fa 0)) (C := RX11) (T := TX11) (N := 11) hx hb hts u_X11_temper_X11 hown hK.1 hP 0 rfl rfl 8 (by decide) (hts (.fieldLink RX11 50 "NoticeWeek" "foresight" "LNoticeWeek$Foresight;") (List.mem_of_getElem? (i := 3) rfl)) (fun _ h9 => h9) rfl dX11_temper_95 ?_
            refine va_get (D := D) (ci := 2) (v := .ref (fa 6)) (C := RX2) (T := TX2) (N := 7) hx hb hts u_X11_temper_X2 hown hK.1 hP 10 rfl rfl 5 (by decide) (hts (.fieldLink RX11 235 "NoticeWeek$Foresight" "course" "[I") (List.mem_of_getElem? (i := 6) rfl)) (fun _ h9 => h9) rfl dX11_temper_98 ?_
            refine b_call (va_runV (As := [.int (nI (rv)), .int (nI (iv)), .int (nI (nv)), .ref (fa 6)]) (rest := []) ⟨hx, hb, hml, hown, hts⟩ (c_X4_tell l D cI cZ cT ra it la sz fa (lcC (nI (j + 1)) dy (dd r) (nt r) (lf r) (tmC dy (dd r) (nt r) (lf r) co j) 16) wy rv iv nv (by omega) (by omega) (by omega)) (cwV 4 hts gX11_temper_X4_tell rfl rfl rfl (by decide +kernel) ⟨(Nat.le_of_ble_eq_true rfl), (Nat.le_of_ble_eq_true rfl)⟩) (b_pV hK hP [1, 2, 3, 4, 10, 11, 12, 13, 14, 15, 16, 17] rfl 1 rfl rfl) rfl rfl hl.1 rfl (lv_room (Nat.le_of_ble_eq_true rfl)) dX11_temper_101 ⟨Nat.zero_le _, Nat.zero_le _⟩).run ?_
            refine b_ifeq (tgt := 116) hx hb dX11_temper_104 (by decide) (fun c8 => ?_) (fun c8 => ?_)
            · refine lv_iinc (v := (nI (j + 1 + 1))) (lv' := [(7, .int (nI (j + 1 + 1))), (6, .int (tmX it (rv * 40 + iv) nv dy (dd r) (nt r) (lf r) co j)), (0, .ref nx), (1, .int (nI (r))), (2, .int (nI (rv))), (3, .int (nI (iv))), (4, .int (nI (nv)))]) hx hb dX11_temper_116 hl (k := 0) rfl (nI_add _ _) (by decide) rfl (fun ls hl => ?_)
              refine lv_goto (tgt := 57) hx hb dX11_temper_119 (by decide) ?_
              have st9 : (tmX it (rv * 40 + iv) nv dy (dd r) (nt r) (lf r) co j) = (tmX it (rv * 40 + iv) nv dy (dd r) (nt r) (lf r) co (j + 1)) := (by rw [tmX_s, if_neg c8])
              rw [st9] at hl
              exact ih6 (by omega) ls H locs ⟨lv_sub hl [0, 1, 2, 3, 4, 5, 6] rfl, hP, hS⟩
            · refine lv_iload hx hb dX11_temper_107 (lv_at hl 1 rfl) ?_
              refine lv_iconst (v := 1) hx hb dX11_temper_109 (by decide) ?_
              refine lv_iload hx hb dX11_temper_110 (lv_at hl 0 rfl) ?_
              refine lv_ishl hx hb dX11_temper_112 ?_
              refine lv_ior hx hb dX11_temper_113 ?_
              refine lv_topi (fun x10 ex10 => ?_)
              refine lv_istore (lv' := [(6, .int x10), (7, .int (nI (j + 1))), (0, .ref nx), (1, .int (nI (r))), (2, .int (nI (rv))), (3, .int (nI (iv))), (4, .int (nI (nv)))]) hx hb dX11_temper_114 hl (by decide) rfl (fun ls hl => ?_)
              refine lv_iinc (v := (nI (j + 1 + 1))) (lv' := [(7, .int (nI (j + 1 + 1))), (6, .int x10), (0, .ref nx), (1, .int (nI (r))), (2, .int (nI (rv))), (3, .int (nI (iv))), (4, .int (nI (nv)))]) hx hb dX11_temper_116 hl (k := 1) rfl (nI_add _ _) (by decide) rfl (fun ls hl => ?_)
              refine lv_goto (tgt := 57) hx hb dX11_temper_119 (by decide) ?_
              have st11 : x10 = (tmX it (rv * 40 + iv) nv dy (dd r) (nt r) (lf r) co (j + 1)) := (by subst ex10; rw [tmX_s, if_pos c8])
              rw [st11] at hl
              exact ih6 (by omega) ls H locs ⟨lv_sub hl [0, 1, 2, 3, 4, 5, 6] rfl, hP, hS⟩
        · refine lv_aload_n hx hb dX11_temper_44 rfl (lv_at hl 1 rfl) ?_
          refine lv_iload hx hb dX11_temper_45 (lv_at hl 0 rfl) ?_
          refine b_callM [0] (va_runV (As := [.int (lkF la sz rv i x)]) (rest := []) ⟨hx, hb, hml, hown, hts⟩ (c_X11_found l D cI cZ cT nx ra pa ta da ia xa fa za un na fi (lkF la sz rv i x)) (cwV 1 hts gX11_temper_X11_found rfl rfl rfl (by decide +kernel) ⟨(Nat.le_of_ble_eq_true rfl), (Nat.le_of_ble_eq_true rfl)⟩) (b_pVM hK hP hD [0] (by decide) rfl rfl 0 rfl rfl) rfl rfl hl.1 rfl (lv_room (Nat.le_of_ble_eq_true rfl)) dX11_temper_47 ⟨Nat.zero_le _, Nat.zero_le _⟩).run hP hD hS rfl (Nat.le_of_ble_eq_true rfl) (fun H locs hP hS => ?_)
          have hP : va_P D vwCl (wNW nx ra pa ta da ia xa fa za un na (lkF la sz rv i x) ++ wRows cI ra it la sz ++ wTown cI ta st dy ln (nI n) kd dd nt lf ++ wFore cI fa co wy) H := hP
          have hD : va_D A (wNW nx ra pa ta da ia xa fa za un na (lkF la sz rv i x) ++ wRows cI ra it la sz ++ wTown cI ta st dy ln (nI n) kd dd nt lf ++ wFore cI fa co wy) := hD.sameA [nx, (ra 0), (ra 1), (ra 2), (ra 3), (ta 0), (ta 1), (ta 2), (ta 3), (ta 4), (fa 0), (fa 1), (fa 2), (fa 3), (fa 4), (fa 5), (fa 6), (fa 7)] rfl rfl
          have E : x_temper fi dy n dd nt lf la sz it co (nI r) (nI rv) i x = ((-1000010) - (lkF la sz rv i x), (lkF la sz rv i x), co) := (by first | (simp only [x_temper, eq_true c1, eq_true c2, eq_true c3, eq_false c5, htr, ht_rv, bI, not_true_eq_false, not_false_eq_true, ite_true, ite_false, if_true, if_false, and_self, and_true, true_and, false_and, and_false, or_true, true_or, or_false, false_or, eq_self]; done) | (simp [x_temper, eq_true c1, eq_true c2, eq_true c3, eq_false c5, htr, ht_rv, bI]; done))
          rw [E]
          exact b_retM hx hb hr hP hS rfl dX11_temper_50 hlocks
      · refine lv_ldc (v := (-1000001)) hx hb hown (hts (.constant RX11 71 (-1000001)) (List.mem_of_getElem? (i := 2) rfl)) dX11_temper_26 ?_
        have E : x_temper fi dy n dd nt lf la sz it co reader row i x = ((-1000001), fi, co) := (by first | (simp only [x_temper, eq_true c1, eq_true c2, eq_false c3, bI, not_true_eq_false, not_false_eq_true, ite_true, ite_false, if_true, if_false, and_self, and_true, true_and, false_and, and_false, or_true, true_or, or_false, false_or, eq_self]; done) | (simp [x_temper, eq_true c1, eq_true c2, eq_false c3, bI]; done))
        rw [E]
        exact b_retM hx hb hr hP hS rfl dX11_temper_28 hlocks
theorem u_X11_told_X11 : ∀ w ∈ wsX110, w ∈ wsX11_told := fun _ h => List.mem_cons_of_mem _ (List.mem_append_left _ (List.mem_append_left _ (List.mem_append_left _ (List.mem_append_right _ h))))
theorem u_X11_told_X2 : ∀ w ∈ wsX20, w ∈ wsX11_told := fun _ h => List.mem_cons_of_mem _ (List.mem_append_left _ (List.mem_append_right _ h))
theorem u_X11_told_X8 : ∀ w ∈ wsX80, w ∈ wsX11_told := fun _ h => List.mem_cons_of_mem _ (List.mem_append_left _ (List.mem_append_left _ (List.mem_append_right _ h)))
set_option maxHeartbeats 1000000 in
set_option maxRecDepth 100000 in
theorem c_X11_told (l : Launch) (D : va_G) (cI cZ cT : ClassId) (nx : Nat) (ra pa ta da : Nat → Nat) (ia xa : Nat) (fa za : Nat → Nat) (un na fi : Int32) (it la sz : Nat → Int32) (st dy ln : Int32) (n : Nat) (kd dd nt lf co wy : Nat → Int32) (reader row i x what : Int32) (hn : n ≤ 6) (hA : ∀ j, j < n → isK (kd j) ∧ isL (lf j)) (hM : ∀ r, r ≤ 7 → ∃ n, n ≤ 40 ∧ sz r = nI n) : Met l yX11_told wsX11_told ({ frames := 4, cells := 0, slots := 0, locals := 94 }) (pM D cI cZ cT [.ref nx, .int reader, .int row, .int i, .int x, .int what] (wNW nx ra pa ta da ia xa fa za un na fi ++ wRows cI ra it la sz ++ wTown cI ta st dy ln (nI n) kd dd nt lf ++ wFore cI fa co wy)) (qM D (some (.int ((x_told fi dy n kd dd lf la sz it co reader row i x what).1))) (wNW nx ra pa ta da ia xa fa za un na ((x_told fi dy n kd dd lf la sz it co reader row i x what).2.1) ++ wRows cI ra it la sz ++ wTown cI ta st dy ln (nI n) kd dd nt lf ++ wFore cI fa ((x_told fi dy n kd dd lf la sz it co reader row i x what).2.2) wy) (adr (wNW nx ra pa ta da ia xa fa za un na fi ++ wRows cI ra it la sz ++ wTown cI ta st dy ln (nI n) kd dd nt lf ++ wFore cI fa co wy))) 0 0 (adr (wNW nx ra pa ta da ia xa fa za un na fi ++ wRows cI ra it la sz ++ wTown cI ta st dy ln (nI n) kd dd nt lf ++ wFore cI fa co wy)) := by
  refine Met.ofW (cc := cX11_told) (maxL := 10) (ret := (some .int)) (by decide) rfl ?_
  intro p e s m args below meth c s₁ B hml hv
  obtain ⟨rfl, hP, hD0, hK⟩ := hv
  have hx := B.exec
  have hb := B.bytes
  have hr := B.returns
  have hts := atoms_spec (ws := wsX11_told) B.pre
  have hown : s.vm.findClass RX11 = some m.cls := findClass_of_methodNamed B.named
  have hlocks := B.notSynchronized
  have hD := hD0.toAdr
  have hS : va_S (adr (wNW nx ra pa ta da ia xa fa za un na fi ++ wRows cI ra it la sz ++ wTown cI ta st dy ln (nI n) kd dd nt lf ++ wFore cI fa co wy)) s.heap s.heap [] := va_S.rf
  generalize adr (wNW nx ra pa ta da ia xa fa za un na fi ++ wRows cI ra it la sz ++ wTown cI ta st dy ln (nI n) kd dd nt lf ++ wFore cI fa co wy) = A at hD hS ⊢
  have hl := lv_entry ([.ref nx, .int reader, .int row, .int i, .int x, .int what]) (n := 10) (Nat.le_of_ble_eq_true rfl)
  rw [lg_entry_eq]
  generalize (lg_sl ([.ref nx, .int reader, .int row, .int i, .int x, .int what]) ++ List.replicate (10 - (lg_sl ([.ref nx, .int reader, .int row, .int i, .int x, .int what])).length) Slot.unset).toArray = ls at hl ⊢
  have hl : lv_has ls 10 [(0, .ref nx), (1, .int reader), (2, .int row), (3, .int i), (4, .int x), (5, .int what)] := hl
  refine lv_aload_n hx hb dX11_told_0 rfl (lv_at hl 0 rfl) ?_
  refine va_get (D := D) (ci := 10) (v := .ref (ta 0)) (C := RX11) (T := TX11) (N := 11) hx hb hts u_X11_told_X11 hown hK.1 hP 0 rfl rfl 2 (by decide) (hts (.fieldLink RX11 26 "NoticeWeek" "town" "LNoticeWeek$Town;") (List.mem_of_getElem? (i := 1) rfl)) (fun _ h9 => h9) rfl dX11_told_1 ?_
  refine lv_iload_n hx hb dX11_told_4 rfl (lv_at hl 1 rfl) ?_
  refine b_call (va_runV (As := [.int reader]) (rest := []) ⟨hx, hb, hml, hown, hts⟩ (c_X8_has l D cI cZ cT ta st dy ln (nI n) kd dd nt lf reader) (cwV 1 hts gX11_told_X8_has rfl rfl rfl (by decide +kernel) ⟨(Nat.le_of_ble_eq_true rfl), (Nat.le_of_ble_eq_true rfl)⟩) (b_pV hK hP [5, 6, 7, 8, 9] rfl 5 rfl rfl) rfl rfl hl.1 rfl (lv_room (Nat.le_of_ble_eq_true rfl)) dX11_told_5 ⟨Nat.zero_le _, Nat.zero_le _⟩).run ?_
  refine b_ifeq (tgt := 34) hx hb dX11_told_8 (by decide) (fun c1 => ?_) (fun c1 => ?_)
  · refine lv_ldc (v := (-1000001)) hx hb hown (hts (.constant RX11 71 (-1000001)) (List.mem_of_getElem? (i := 2) rfl)) dX11_told_34 ?_
    have E : x_told fi dy n kd dd lf la sz it co reader row i x what = ((-1000001), fi, co) := (by first | (simp only [x_told, eq_false c1, bI, not_true_eq_false, not_false_eq_true, ite_true, ite_false, if_true, if_false, and_self, and_true, true_and, false_and, and_false, or_true, true_or, or_false, false_or, eq_self]; done) | (simp [x_told, eq_false c1, bI]; done))
    rw [E]
    exact b_retM hx hb hr hP hS rfl dX11_told_36 hlocks
  · refine lv_iload_n hx hb dX11_told_11 rfl (lv_at hl 2 rfl) ?_
    refine b_call (va_runS (As := [.int row]) (rest := []) ⟨hx, hb, hml, hown, hts⟩ (c_X4_isRow l D cI cZ cT row) (va_cwS 1 hts gX11_told_X4_isRow rfl rfl rfl (by decide +kernel) ⟨(Nat.le_of_ble_eq_true rfl), (Nat.le_of_ble_eq_true rfl)⟩) (b_pS0 hK) rfl rfl hl.1 rfl (lv_room (Nat.le_of_ble_eq_true rfl)) dX11_told_12 ⟨Nat.zero_le _, Nat.zero_le _⟩).run ?_
    refine b_ifeq (tgt := 34) hx hb dX11_told_15 (by decide) (fun c2 => ?_) (fun c2 => ?_)
    · refine lv_ldc (v := (-1000001)) hx hb hown (hts (.constant RX11 71 (-1000001)) (List.mem_of_getElem? (i := 2) rfl)) dX11_told_34 ?_
      have E : x_told fi dy n kd dd lf la sz it co reader row i x what = ((-1000001), fi, co) := (by first | (simp only [x_told, eq_true c1, eq_false c2, bI, not_true_eq_false, not_false_eq_true, ite_true, ite_false, if_true, if_false, and_self, and_true, true_and, false_and, and_false, or_true, true_or, or_false, false_or, eq_self]; done) | (simp [x_told, eq_true c1, eq_false c2, bI]; done))
      rw [E]
      exact b_retM hx hb hr hP hS rfl dX11_told_36 hlocks
    · refine lv_iload hx hb dX11_told_18 (lv_at hl 4 rfl) ?_
      refine b_call (va_runS (As := [.int x]) (rest := []) ⟨hx, hb, hml, hown, hts⟩ (c_X11_isToldDays l D cI cZ cT x) (va_cwS 1 hts gX11_told_X11_isToldDays rfl rfl rfl (by decide +kernel) ⟨(Nat.le_of_ble_eq_true rfl), (Nat.le_of_ble_eq_true rfl)⟩) (b_pS0 hK) rfl rfl hl.1 rfl (lv_room (Nat.le_of_ble_eq_true rfl)) dX11_told_20 ⟨Nat.zero_le _, Nat.zero_le _⟩).run ?_
      refine b_ifeq (tgt := 34) hx hb dX11_told_23 (by decide) (fun c3 => ?_) (fun c3 => ?_)
      · refine lv_ldc (v := (-1000001)) hx hb hown (hts (.constant RX11 71 (-1000001)) (List.mem_of_getElem? (i := 2) rfl)) dX11_told_34 ?_
        have E : x_told fi dy n kd dd lf la sz it co reader row i x what = ((-1000001), fi, co) := (by first | (simp only [x_told, eq_true c1, eq_true c2, eq_false c3, bI, not_true_eq_false, not_false_eq_true, ite_true, ite_false, if_true, if_false, and_self, and_true, true_and, false_and, and_false, or_true, true_or, or_false, false_or, eq_self]; done) | (simp [x_told, eq_true c1, eq_true c2, eq_false c3, bI]; done))
        rw [E]
        exact b_retM hx hb hr hP hS rfl dX11_told_36 hlocks
      · refine lv_iload hx hb dX11_told_26 (lv_at hl 5 rfl) ?_
        refine b_call (va_runS (As := [.int what]) (rest := []) ⟨hx, hb, hml, hown, hts⟩ (c_X11_isChoice l D cI cZ cT what) (va_cwS 1 hts gX11_told_X11_isChoice rfl rfl rfl (by decide +kernel) ⟨(Nat.le_of_ble_eq_true rfl), (Nat.le_of_ble_eq_true rfl)⟩) (b_pS0 hK) rfl rfl hl.1 rfl (lv_room (Nat.le_of_ble_eq_true rfl)) dX11_told_28 ⟨Nat.zero_le _, Nat.zero_le _⟩).run ?_
        refine b_ifne (tgt := 37) hx hb dX11_told_31 (by decide) (fun c4 => ?_) (fun c4 => ?_)
        · obtain ⟨r, hh_r, rfl⟩ : ∃ r : Nat, r ≤ 5 ∧ reader = nI r := has_r hn c1
          have hl : lv_has ls 10 [(0, .ref nx), (1, .int (nI (r))), (2, .int row), (3, .int i), (4, .int x), (5, .int what)] := hl
          have htr : tn (nI r) = r := tn_nI hh_r
          have hrn : r < n := rd_lt hn hh_r c1
          obtain ⟨rv, hh_rv, rfl⟩ : ∃ r : Nat, r ≤ 7 ∧ row = nI r := i_ltC 7 (by omega) c2.1 c2.2 rfl
          have hl : lv_has ls 10 [(0, .ref nx), (1, .int (nI (r))), (2, .int (nI (rv))), (3, .int i), (4, .int x), (5, .int what)] := hl
          have ht_rv : tn (nI rv) = rv := tn_nI hh_rv
          refine lv_aload_n hx hb dX11_told_37 rfl (lv_at hl 0 rfl) ?_
          refine lv_iload_n hx hb dX11_told_38 rfl (lv_at hl 2 rfl) ?_
          refine lv_iload_n hx hb dX11_told_39 rfl (lv_at hl 3 rfl) ?_
          refine lv_iload hx hb dX11_told_40 (lv_at hl 4 rfl) ?_
          refine b_call (va_runV (As := [.int (nI (rv)), .int i, .int x]) (rest := []) ⟨hx, hb, hml, hown, hts⟩ (c_X11_lackOf l D cI cZ cT nx ra pa ta da ia xa fa za un na fi it la sz rv i x (by omega)) (cwV 3 hts gX11_told_X11_lackOf rfl rfl rfl (by decide +kernel) ⟨(Nat.le_of_ble_eq_true rfl), (Nat.le_of_ble_eq_true rfl)⟩) (b_pV hK hP [0, 1, 2, 3, 4] rfl 0 rfl rfl) rfl rfl hl.1 rfl (lv_room (Nat.le_of_ble_eq_true rfl)) dX11_told_42 ⟨Nat.zero_le _, Nat.zero_le _⟩).run ?_
          refine lv_topi (fun x5 ex5 => ?_)
          refine lv_istore (lv' := [(6, .int x5), (0, .ref nx), (1, .int (nI (r))), (2, .int (nI (rv))), (3, .int i), (4, .int x), (5, .int what)]) hx hb dX11_told_45 hl (by decide) rfl (fun ls hl => ?_)
          subst ex5
          have hl : lv_has ls 10 [(6, .int (lkF la sz rv i x)), (0, .ref nx), (1, .int (nI (r))), (2, .int (nI (rv))), (3, .int i), (4, .int x), (5, .int what)] := hl
          refine lv_iload hx hb dX11_told_47 (lv_at hl 0 rfl) ?_
          refine lv_if_eq (tgt := 59) hx hb dX11_told_49 (by decide) (fun c6 => ?_) (fun c6 => ?_)
          · obtain ⟨nr, hnr, hmr⟩ := hM rv hh_rv
            have hc9 := (lk_0 c6).2
            rw [hmr] at hc9
            obtain ⟨iv, nv, hin, rfl, rfl⟩ := i_place hnr hc9
            have hl : lv_has ls 10 [(6, .int (lkF la sz rv (nI iv) (nI nv))), (0, .ref nx), (1, .int (nI (r))), (2, .int (nI (rv))), (3, .int (nI (iv))), (4, .int (nI (nv))), (5, .int what)] := hl
            have hnv : nv ≤ 16 := by have z := c3.2; rw [i_lt, nI_toInt (by omega)] at z; have : (16 : Int32).toInt = 16 := rfl; omega
            have htiv : tn (nI iv) = iv := tn_nI (show iv ≤ 40 by omega)
            have htnv : tn (nI nv) = nv := tn_nI (show nv ≤ 40 by omega)
            refine lv_iconst (v := 0) hx hb dX11_told_59 (by decide) ?_
            refine lv_istore (lv' := [(7, .int 0), (6, .int (lkF la sz rv (nI iv) (nI nv))), (0, .ref nx), (1, .int (nI (r))), (2, .int (nI (rv))), (3, .int (nI (iv))), (4, .int (nI (nv))), (5, .int what)]) hx hb dX11_told_60 hl (by decide) rfl (fun ls hl => ?_)
            refine lv_ldc (v := (-1000000)) hx hb hown (hts (.constant RX11 207 (-1000000)) (List.mem_of_getElem? (i := 3) rfl)) dX11_told_62 ?_
            refine lv_istore (lv' := [(8, .int (-1000000)), (7, .int 0), (6, .int (lkF la sz rv (nI iv) (nI nv))), (0, .ref nx), (1, .int (nI (r))), (2, .int (nI (rv))), (3, .int (nI (iv))), (4, .int (nI (nv))), (5, .int what)]) hx hb dX11_told_64 hl (by decide) rfl (fun ls hl => ?_)
            refine lv_bipush (v := 63) hx hb dX11_told_66 (by decide) ?_
            rw [n63]
            refine lv_istore (lv' := [(9, .int (nI (64 - 0) - 1)), (8, .int (-1000000)), (7, .int 0), (6, .int (lkF la sz rv (nI iv) (nI nv))), (0, .ref nx), (1, .int (nI (r))), (2, .int (nI (rv))), (3, .int (nI (iv))), (4, .int (nI (nv))), (5, .int what)]) hx hb dX11_told_68 hl (by decide) rfl (fun ls hl => ?_)
            refine b_loopM (N := 64) (I := fun k ls H locs => lv_has ls 10 [(9, .int (nI (64 - k) - 1)), (7, .int ((toX it (rv * 40 + iv) nv (kd r) dy (dd r) (lf r) co k).1)), (8, .int ((toX it (rv * 40 + iv) nv (kd r) dy (dd r) (lf r) co k).2)), (0, .ref nx), (1, .int (nI (r))), (2, .int (nI (rv))), (3, .int (nI (iv))), (4, .int (nI (nv))), (5, .int what)] ∧ va_P D vwCl (wNW nx ra pa ta da ia xa fa za un na fi ++ wRows cI ra it la sz ++ wTown cI ta st dy ln (nI n) kd dd nt lf ++ wFore cI fa (toC (kd r) dy (dd r) (lf r) co k) wy) H ∧ va_S A s.heap H locs) (fun k hk ih7 ls H locs hI => ?_) 0 (by omega) ⟨lv_sub hl [0, 2, 1, 4, 5, 6, 7, 8, 9] rfl, hP, hS⟩
            obtain ⟨hl, hP, hS⟩ := hI
            have hl : lv_has ls 10 [(9, .int (nI (64 - k) - 1)), (7, .int ((toX it (rv * 40 + iv) nv (kd r) dy (dd r) (lf r) co k).1)), (8, .int ((toX it (rv * 40 + iv) nv (kd r) dy (dd r) (lf r) co k).2)), (0, .ref nx), (1, .int (nI (r))), (2, .int (nI (rv))), (3, .int (nI (iv))), (4, .int (nI (nv))), (5, .int what)] := hl
            have hP : va_P D vwCl (wNW nx ra pa ta da ia xa fa za un na fi ++ wRows cI ra it la sz ++ wTown cI ta st dy ln (nI n) kd dd nt lf ++ wFore cI fa (toC (kd r) dy (dd r) (lf r) co k) wy) H := hP
            have hD : va_D A (wNW nx ra pa ta da ia xa fa za un na fi ++ wRows cI ra it la sz ++ wTown cI ta st dy ln (nI n) kd dd nt lf ++ wFore cI fa (toC (kd r) dy (dd r) (lf r) co k) wy) := hD.sameA [nx, (ra 0), (ra 1), (ra 2), (ra 3), (ta 0), (ta 1), (ta 2), (ta 3), (ta 4), (fa 0), (fa 1), (fa 2), (fa 3), (fa 4), (fa 5), (fa 6), (fa 7)] rfl rfl
            refine lv_iload hx hb dX11_told_70 (lv_at hl 0 rfl) ?_
            refine lv_if_lt (tgt := 132) hx hb dX11_told_72 (by decide) (fun c8 => ?_) (fun c8 => ?_)
            · have h64 := n63_lt (by omega) c8
              refine lv_aload_n hx hb dX11_told_132 rfl (lv_at hl 3 rfl) ?_
              refine lv_iload hx hb dX11_told_133 (lv_at hl 8 rfl) ?_
              refine lv_if_ne (tgt := 143) hx hb dX11_told_135 (by decide) (fun c9 => ?_) (fun c9 => ?_)
              · refine lv_iload hx hb dX11_told_143 (lv_at hl 2 rfl) ?_
                refine b_callM [0] (va_runV (As := [.int ((toX it (rv * 40 + iv) nv (kd r) dy (dd r) (lf r) co k).2)]) (rest := []) ⟨hx, hb, hml, hown, hts⟩ (c_X11_well l D cI cZ cT nx ra pa ta da ia xa fa za un na fi ((toX it (rv * 40 + iv) nv (kd r) dy (dd r) (lf r) co k).2)) (cwV 1 hts gX11_told_X11_well rfl rfl rfl (by decide +kernel) ⟨(Nat.le_of_ble_eq_true rfl), (Nat.le_of_ble_eq_true rfl)⟩) (b_pVM hK hP hD [0] (by decide) rfl rfl 0 rfl rfl) rfl rfl hl.1 rfl (lv_room (Nat.le_of_ble_eq_true rfl)) dX11_told_145 ⟨Nat.zero_le _, Nat.zero_le _⟩).run hP hD hS rfl (Nat.le_of_ble_eq_true rfl) (fun H locs hP hS => ?_)
                have hP : va_P D vwCl (wNW nx ra pa ta da ia xa fa za un na 0 ++ wRows cI ra it la sz ++ wTown cI ta st dy ln (nI n) kd dd nt lf ++ wFore cI fa (toC (kd r) dy (dd r) (lf r) co k) wy) H := hP
                have hD : va_D A (wNW nx ra pa ta da ia xa fa za un na 0 ++ wRows cI ra it la sz ++ wTown cI ta st dy ln (nI n) kd dd nt lf ++ wFore cI fa (toC (kd r) dy (dd r) (lf r) co k) wy) := hD.sameA [nx, (ra 0), (ra 1), (ra 2), (ra 3), (ta 0), (ta 1), (ta 2), (ta 3), (ta 4), (fa 0), (fa 1), (fa 2), (fa 3), (fa 4), (fa 5), (fa 6), (fa 7)] rfl rfl
                have E : x_told fi dy n kd dd lf la sz it co (nI r) (nI rv) (nI iv) (nI nv) what = (((toX it (rv * 40 + iv) nv (kd r) dy (dd r) (lf r) co k).2), 0, (toC (kd r) dy (dd r) (lf r) co k)) := (by first | (simp only [x_told, eq_true c1, eq_true c2, eq_true c3, eq_true c4, eq_true c6, eq_true c8, eq_false c9, htr, ht_rv, htiv, htnv, toE_1 h64, toE_2 h64, toCE_e h64, bI, not_true_eq_false, not_false_eq_true, ite_true, ite_false, if_true, if_false, and_self, and_true, true_and, false_and, and_false, or_true, true_or, or_false, false_or, eq_self]; done) | (simp [x_told, eq_true c1, eq_true c2, eq_true c3, eq_true c4, eq_true c6, eq_true c8, eq_false c9, htr, ht_rv, htiv, htnv, toE_1 h64, toE_2 h64, toCE_e h64, bI]; done))
                rw [E]
                exact b_retM hx hb hr hP hS rfl dX11_told_148 hlocks
              · refine lv_iload hx hb dX11_told_138 (lv_at hl 1 rfl) ?_
                refine lv_goto (tgt := 145) hx hb dX11_told_140 (by decide) ?_
                refine b_callM [0] (va_runV (As := [.int ((toX it (rv * 40 + iv) nv (kd r) dy (dd r) (lf r) co k).1)]) (rest := []) ⟨hx, hb, hml, hown, hts⟩ (c_X11_well l D cI cZ cT nx ra pa ta da ia xa fa za un na fi ((toX it (rv * 40 + iv) nv (kd r) dy (dd r) (lf r) co k).1)) (cwV 1 hts gX11_told_X11_well rfl rfl rfl (by decide +kernel) ⟨(Nat.le_of_ble_eq_true rfl), (Nat.le_of_ble_eq_true rfl)⟩) (b_pVM hK hP hD [0] (by decide) rfl rfl 0 rfl rfl) rfl rfl hl.1 rfl (lv_room (Nat.le_of_ble_eq_true rfl)) dX11_told_145 ⟨Nat.zero_le _, Nat.zero_le _⟩).run hP hD hS rfl (Nat.le_of_ble_eq_true rfl) (fun H locs hP hS => ?_)
                have hP : va_P D vwCl (wNW nx ra pa ta da ia xa fa za un na 0 ++ wRows cI ra it la sz ++ wTown cI ta st dy ln (nI n) kd dd nt lf ++ wFore cI fa (toC (kd r) dy (dd r) (lf r) co k) wy) H := hP
                have hD : va_D A (wNW nx ra pa ta da ia xa fa za un na 0 ++ wRows cI ra it la sz ++ wTown cI ta st dy ln (nI n) kd dd nt lf ++ wFore cI fa (toC (kd r) dy (dd r) (lf r) co k) wy) := hD.sameA [nx, (ra 0), (ra 1), (ra 2), (ra 3), (ta 0), (ta 1), (ta 2), (ta 3), (ta 4), (fa 0), (fa 1), (fa 2), (fa 3), (fa 4), (fa 5), (fa 6), (fa 7)] rfl rfl
                have E : x_told fi dy n kd dd lf la sz it co (nI r) (nI rv) (nI iv) (nI nv) what = (((toX it (rv * 40 + iv) nv (kd r) dy (dd r) (lf r) co k).1), 0, (toC (kd r) dy (dd r) (lf r) co k)) := (by first | (simp only [x_told, eq_true c1, eq_true c2, eq_true c3, eq_true c4, eq_true c6, eq_true c8, eq_true c9, htr, ht_rv, htiv, htnv, toE_1 h64, toE_2 h64, toCE_e h64, bI, not_true_eq_false, not_false_eq_true, ite_true, ite_false, if_true, if_false, and_self, and_true, true_and, false_and, and_false, or_true, true_or, or_false, false_or, eq_self]; done) | (simp [x_told, eq_true c1, eq_true c2, eq_true c3, eq_true c4, eq_true c6, eq_true c8, eq_true c9, htr, ht_rv, htiv, htnv, toE_1 h64, toE_2 h64, toCE_e h64, bI]; done))
                rw [E]
                exact b_retM hx hb hr hP hS rfl dX11_told_148 hlocks
            · have hk63 := n63_ge (by omega) c8
              rw [n63_s hk63] at hl
              have hl : lv_has ls 10 [(9, .int (nI (63 - k))), (7, .int ((toX it (rv * 40 + iv) nv (kd r) dy (dd r) (lf r) co k).1)), (8, .int ((toX it (rv * 40 + iv) nv (kd r) dy (dd r) (lf r) co k).2)), (0, .ref nx), (1, .int (nI (r))), (2, .int (nI (rv))), (3, .int (nI (iv))), (4, .int (nI (nv))), (5, .int what)] := hl
              refine lv_aload_n hx hb dX11_told_75 rfl (lv_at hl 3 rfl) ?_
              refine va_get (D := D) (ci := 10) (v := .ref (fa 0)) (C := RX11) (T := TX11) (N := 11) hx hb hts u_X11_told_X11 hown hK.1 hP 0 rfl rfl 8 (by decide) (hts (.fieldLink RX11 50 "NoticeWeek" "foresight" "LNoticeWeek$Foresight;") (List.mem_of_getElem? (i := 4) rfl)) (fun _ h9 => h9) rfl dX11_told_76 ?_
              refine lv_aload_n hx hb dX11_told_79 rfl (lv_at hl 3 rfl) ?_
              refine va_get (D := D) (ci := 10) (v := .ref (ta 0)) (C := RX11) (T := TX11) (N := 11) hx hb hts u_X11_told_X11 hown hK.1 hP 0 rfl rfl 2 (by decide) (hts (.fieldLink RX11 26 "NoticeWeek" "town" "LNoticeWeek$Town;") (List.mem_of_getElem? (i := 1) rfl)) (fun _ h9 => h9) rfl dX11_told_80 ?_
              refine lv_iload_n hx hb dX11_told_83 rfl (lv_at hl 4 rfl) ?_
              refine lv_aload_n hx hb dX11_told_84 rfl (lv_at hl 3 rfl) ?_
              refine va_get (D := D) (ci := 10) (v := .ref (ta 0)) (C := RX11) (T := TX11) (N := 11) hx hb hts u_X11_told_X11 hown hK.1 hP 0 rfl rfl 2 (by decide) (hts (.fieldLink RX11 26 "NoticeWeek" "town" "LNoticeWeek$Town;") (List.mem_of_getElem? (i := 1) rfl)) (fun _ h9 => h9) rfl dX11_told_85 ?_
              refine va_get (D := D) (ci := 7) (v := .ref (ta 1)) (C := RX8) (T := TX8) (N := 8) hx hb hts u_X11_told_X8 hown hK.1 hP 5 rfl rfl 4 (by decide) (hts (.fieldLink RX11 242 "NoticeWeek$Town" "kind" "[I") (List.mem_of_getElem? (i := 5) rfl)) (fun _ h9 => h9) rfl dX11_told_88 ?_
              refine lv_iload_n hx hb dX11_told_91 rfl (lv_at hl 4 rfl) ?_
              refine b_ald hx hb hK hP 6 rfl (by omega) (by decide) dX11_told_92 ?_
              refine lv_iload hx hb dX11_told_93 (lv_at hl 0 rfl) ?_
              refine b_callM [5, 6, 7, 8, 9, 10, 11, 12, 13, 14, 15, 16, 17] (va_runV (As := [.ref (ta 0), .int (nI (r)), .int (kd r), .int (nI (63 - k))]) (rest := []) ⟨hx, hb, hml, hown, hts⟩ (c_X2_layCourse l D cI cZ cT ta st dy ln (nI n) kd dd nt lf fa (toC (kd r) dy (dd r) (lf r) co k) wy r (kd r) (nI (63 - k)) (by omega) (hA r hrn).1) (cwV 4 hts gX11_told_X2_layCourse rfl rfl rfl (by decide +kernel) ⟨(Nat.le_of_ble_eq_true rfl), (Nat.le_of_ble_eq_true rfl)⟩) (b_pVM hK hP hD [5, 6, 7, 8, 9, 10, 11, 12, 13, 14, 15, 16, 17] (by decide) rfl rfl 10 rfl rfl) rfl rfl hl.1 rfl (lv_room (Nat.le_of_ble_eq_true rfl)) dX11_told_95 ⟨Nat.zero_le _, Nat.zero_le _⟩).run hP hD hS rfl (Nat.le_of_ble_eq_true rfl) (fun H locs hP hS => ?_)
              have hP : va_P D vwCl (wNW nx ra pa ta da ia xa fa za un na fi ++ wRows cI ra it la sz ++ wTown cI ta st dy ln (nI n) kd dd nt lf ++ wFore cI fa (lcC (kd r) dy (dd r) (nI (63 - k)) (lf r) (toC (kd r) dy (dd r) (lf r) co k) 16) wy) H := hP
              have hD : va_D A (wNW nx ra pa ta da ia xa fa za un na fi ++ wRows cI ra it la sz ++ wTown cI ta st dy ln (nI n) kd dd nt lf ++ wFore cI fa (lcC (kd r) dy (dd r) (nI (63 - k)) (lf r) (toC (kd r) dy (dd r) (lf r) co k) 16) wy) := hD.sameA [nx, (ra 0), (ra 1), (ra 2), (ra 3), (ta 0), (ta 1), (ta 2), (ta 3), (ta 4), (fa 0), (fa 1), (fa 2), (fa 3), (fa 4), (fa 5), (fa 6), (fa 7)] rfl rfl
              refine lv_aload_n hx hb dX11_told_98 rfl (lv_at hl 3 rfl) ?_
              refine va_get (D := D) (ci := 10) (v := .ref (ra 0)) (C := RX11) (T := TX11) (N := 11) hx hb hts u_X11_told_X11 hown hK.1 hP 0 rfl rfl 0 (by decide) (hts (.fieldLink RX11 12 "NoticeWeek" "rows" "LNoticeWeek$Rows;") (List.mem_of_getElem? (i := 6) rfl)) (fun _ h9 => h9) rfl dX11_told_99 ?_
              refine lv_iload_n hx hb dX11_told_102 rfl (lv_at hl 5 rfl) ?_
              refine lv_iload_n hx hb dX11_told_103 rfl (lv_at hl 6 rfl) ?_
              refine lv_iload hx hb dX11_told_104 (lv_at hl 7 rfl) ?_
              refine lv_aload_n hx hb dX11_told_106 rfl (lv_at hl 3 rfl) ?_
              refine va_get (D := D) (ci := 10) (v := .ref (fa 0)) (C := RX11) (T := TX11) (N := 11) hx hb hts u_X11_told_X11 hown hK.1 hP 0 rfl rfl 8 (by decide) (hts (.fieldLink RX11 50 "NoticeWeek" "foresight" "LNoticeWeek$Foresight;") (List.mem_of_getElem? (i := 4) rfl)) (fun _ h9 => h9) rfl dX11_told_107 ?_
              refine va_get (D := D) (ci := 2) (v := .ref (fa 6)) (C := RX2) (T := TX2) (N := 7) hx hb hts u_X11_told_X2 hown hK.1 hP 10 rfl rfl 5 (by decide) (hts (.fieldLink RX11 235 "NoticeWeek$Foresight" "course" "[I") (List.mem_of_getElem? (i := 7) rfl)) (fun _ h9 => h9) rfl dX11_told_110 ?_
              refine b_call (va_runV (As := [.int (nI (rv)), .int (nI (iv)), .int (nI (nv)), .ref (fa 6)]) (rest := []) ⟨hx, hb, hml, hown, hts⟩ (c_X4_tell l D cI cZ cT ra it la sz fa (lcC (kd r) dy (dd r) (nI (63 - k)) (lf r) (toC (kd r) dy (dd r) (lf r) co k) 16) wy rv iv nv (by omega) (by omega) (by omega)) (cwV 4 hts gX11_told_X4_tell rfl rfl rfl (by decide +kernel) ⟨(Nat.le_of_ble_eq_true rfl), (Nat.le_of_ble_eq_true rfl)⟩) (b_pV hK hP [1, 2, 3, 4, 10, 11, 12, 13, 14, 15, 16, 17] rfl 1 rfl rfl) rfl rfl hl.1 rfl (lv_room (Nat.le_of_ble_eq_true rfl)) dX11_told_113 ⟨Nat.zero_le _, Nat.zero_le _⟩).run ?_
              refine b_ifeq (tgt := 126) hx hb dX11_told_116 (by decide) (fun c10 => ?_) (fun c10 => ?_)
              · obtain ⟨x11, ex11⟩ : ∃ y : Int32, y = (nI (63 - k)) + (-1) := ⟨_, rfl⟩
                refine lv_iinc (v := x11) (lv' := [(9, .int x11), (7, .int ((toX it (rv * 40 + iv) nv (kd r) dy (dd r) (lf r) co k).1)), (8, .int ((toX it (rv * 40 + iv) nv (kd r) dy (dd r) (lf r) co k).2)), (0, .ref nx), (1, .int (nI (r))), (2, .int (nI (rv))), (3, .int (nI (iv))), (4, .int (nI (nv))), (5, .int what)]) hx hb dX11_told_126 hl (k := 0) rfl (by rw [ex11]; rfl) (by decide) rfl (fun ls hl => ?_)
                refine lv_goto (tgt := 70) hx hb dX11_told_129 (by decide) ?_
                have st12 : x11 = (nI (64 - (k + 1)) - 1) := (by rw [ex11]; exact n63_m)
                rw [st12] at hl
                have st13 : (toX it (rv * 40 + iv) nv (kd r) dy (dd r) (lf r) co k).1 = (toX it (rv * 40 + iv) nv (kd r) dy (dd r) (lf r) co (k + 1)).1 := (by subst ex11; rw [toX_s, if_neg c10])
                rw [st13] at hl
                have st14 : (toX it (rv * 40 + iv) nv (kd r) dy (dd r) (lf r) co k).2 = (toX it (rv * 40 + iv) nv (kd r) dy (dd r) (lf r) co (k + 1)).2 := (by subst ex11; rw [toX_s, if_neg c10])
                rw [st14] at hl
                exact ih7 (by omega) ls H locs ⟨lv_sub hl [0, 1, 2, 3, 4, 5, 6, 7, 8] rfl, hP, hS⟩
              · obtain ⟨x15, ex15⟩ : ∃ y : Int32, y = (toX it (rv * 40 + iv) nv (kd r) dy (dd r) (lf r) co k).1 + 1 := ⟨_, rfl⟩
                refine lv_iinc (v := x15) (lv' := [(7, .int x15), (9, .int (nI (63 - k))), (8, .int ((toX it (rv * 40 + iv) nv (kd r) dy (dd r) (lf r) co k).2)), (0, .ref nx), (1, .int (nI (r))), (2, .int (nI (rv))), (3, .int (nI (iv))), (4, .int (nI (nv))), (5, .int what)]) hx hb dX11_told_119 hl (k := 1) rfl (by rw [ex15]; rfl) (by decide) rfl (fun ls hl => ?_)
                refine lv_iload hx hb dX11_told_122 (lv_at hl 1 rfl) ?_
                refine lv_istore (lv' := [(8, .int (nI (63 - k))), (7, .int x15), (9, .int (nI (63 - k))), (0, .ref nx), (1, .int (nI (r))), (2, .int (nI (rv))), (3, .int (nI (iv))), (4, .int (nI (nv))), (5, .int what)]) hx hb dX11_told_124 hl (by decide) rfl (fun ls hl => ?_)
                obtain ⟨x16, ex16⟩ : ∃ y : Int32, y = (nI (63 - k)) + (-1) := ⟨_, rfl⟩
                refine lv_iinc (v := x16) (lv' := [(9, .int x16), (8, .int (nI (63 - k))), (7, .int x15), (0, .ref nx), (1, .int (nI (r))), (2, .int (nI (rv))), (3, .int (nI (iv))), (4, .int (nI (nv))), (5, .int what)]) hx hb dX11_told_126 hl (k := 2) rfl (by rw [ex16]; rfl) (by decide) rfl (fun ls hl => ?_)
                refine lv_goto (tgt := 70) hx hb dX11_told_129 (by decide) ?_
                have st17 : x16 = (nI (64 - (k + 1)) - 1) := (by rw [ex16]; exact n63_m)
                rw [st17] at hl
                have st18 : x15 = (toX it (rv * 40 + iv) nv (kd r) dy (dd r) (lf r) co (k + 1)).1 := (by subst ex16; subst ex15; rw [toX_s, if_pos c10])
                rw [st18] at hl
                have st19 : (nI (63 - k)) = (toX it (rv * 40 + iv) nv (kd r) dy (dd r) (lf r) co (k + 1)).2 := (by subst ex16; subst ex15; rw [toX_s, if_pos c10])
                rw [st19] at hl
                exact ih7 (by omega) ls H locs ⟨lv_sub hl [0, 2, 1, 3, 4, 5, 6, 7, 8] rfl, hP, hS⟩
          · refine lv_aload_n hx hb dX11_told_52 rfl (lv_at hl 1 rfl) ?_
            refine lv_iload hx hb dX11_told_53 (lv_at hl 0 rfl) ?_
            refine b_callM [0] (va_runV (As := [.int (lkF la sz rv i x)]) (rest := []) ⟨hx, hb, hml, hown, hts⟩ (c_X11_found l D cI cZ cT nx ra pa ta da ia xa fa za un na fi (lkF la sz rv i x)) (cwV 1 hts gX11_told_X11_found rfl rfl rfl (by decide +kernel) ⟨(Nat.le_of_ble_eq_true rfl), (Nat.le_of_ble_eq_true rfl)⟩) (b_pVM hK hP hD [0] (by decide) rfl rfl 0 rfl rfl) rfl rfl hl.1 rfl (lv_room (Nat.le_of_ble_eq_true rfl)) dX11_told_55 ⟨Nat.zero_le _, Nat.zero_le _⟩).run hP hD hS rfl (Nat.le_of_ble_eq_true rfl) (fun H locs hP hS => ?_)
            have hP : va_P D vwCl (wNW nx ra pa ta da ia xa fa za un na (lkF la sz rv i x) ++ wRows cI ra it la sz ++ wTown cI ta st dy ln (nI n) kd dd nt lf ++ wFore cI fa co wy) H := hP
            have hD : va_D A (wNW nx ra pa ta da ia xa fa za un na (lkF la sz rv i x) ++ wRows cI ra it la sz ++ wTown cI ta st dy ln (nI n) kd dd nt lf ++ wFore cI fa co wy) := hD.sameA [nx, (ra 0), (ra 1), (ra 2), (ra 3), (ta 0), (ta 1), (ta 2), (ta 3), (ta 4), (fa 0), (fa 1), (fa 2), (fa 3), (fa 4), (fa 5), (fa 6), (fa 7)] rfl rfl
            have E : x_told fi dy n kd dd lf la sz it co (nI r) (nI rv) i x what = ((-1000010) - (lkF la sz rv i x), (lkF la sz rv i x), co) := (by first | (simp only [x_told, eq_true c1, eq_true c2, eq_true c3, eq_true c4, eq_false c6, htr, ht_rv, bI, not_true_eq_false, not_false_eq_true, ite_true, ite_false, if_true, if_false, and_self, and_true, true_and, false_and, and_false, or_true, true_or, or_false, false_or, eq_self]; done) | (simp [x_told, eq_true c1, eq_true c2, eq_true c3, eq_true c4, eq_false c6, htr, ht_rv, bI]; done))
            rw [E]
            exact b_retM hx hb hr hP hS rfl dX11_told_58 hlocks
        · refine lv_ldc (v := (-1000001)) hx hb hown (hts (.constant RX11 71 (-1000001)) (List.mem_of_getElem? (i := 2) rfl)) dX11_told_34 ?_
          have E : x_told fi dy n kd dd lf la sz it co reader row i x what = ((-1000001), fi, co) := (by first | (simp only [x_told, eq_true c1, eq_true c2, eq_true c3, eq_false c4, bI, not_true_eq_false, not_false_eq_true, ite_true, ite_false, if_true, if_false, and_self, and_true, true_and, false_and, and_false, or_true, true_or, or_false, false_or, eq_self]; done) | (simp [x_told, eq_true c1, eq_true c2, eq_true c3, eq_false c4, bI]; done))
          rw [E]
          exact b_retM hx hb hr hP hS rfl dX11_told_36 hlocks
set_option maxHeartbeats 1000000 in
set_option maxRecDepth 100000 in
theorem c_X11_greatestDivisor (l : Launch) (D : va_G) (cI cZ cT : ClassId) (a b : Nat) (ha : a ≤ 1000000) (hb_ : b ≤ 1000000) : Met l yX11_greatestDivisor wsX11_greatestDivisor ({ frames := 0, cells := 0, slots := 0, locals := 0 }) (pR D cI cZ cT [.int (nI (a)), .int (nI (b))] ([])) (QcRead (nI (Nat.gcd a b))) 0 0 (fun _ => False) := by
  refine Met.ofW (cc := cX11_greatestDivisor) (maxL := 6) (ret := (some .int)) (by decide) rfl ?_
  intro p e s m args below meth c s₁ B hml hv
  obtain ⟨rfl, hP, hK⟩ := hv
  have hx := B.exec
  have hb := B.bytes
  have hr := B.returns
  have hts := atoms_spec (ws := wsX11_greatestDivisor) B.pre
  have hown : s.vm.findClass RX11 = some m.cls := findClass_of_methodNamed B.named
  have hlocks := B.notSynchronized
  have hl := lv_entry ([.int (nI (a)), .int (nI (b))]) (n := 6) (Nat.le_of_ble_eq_true rfl)
  rw [lg_entry_eq]
  generalize (lg_sl ([.int (nI (a)), .int (nI (b))]) ++ List.replicate (6 - (lg_sl ([.int (nI (a)), .int (nI (b))])).length) Slot.unset).toArray = ls at hl ⊢
  have hl : lv_has ls 6 [(0, .int (nI (a))), (1, .int (nI (b)))] := hl
  refine lv_iload_n hx hb dX11_greatestDivisor_0 rfl (lv_at hl 1 rfl) ?_
  refine lv_istore_n (lv' := [(2, .int (nI (b))), (0, .int (nI (a))), (1, .int (nI (b)))]) hx hb dX11_greatestDivisor_1 rfl hl (by decide) rfl (fun ls hl => ?_)
  refine lv_iload_n hx hb dX11_greatestDivisor_2 rfl (lv_at hl 1 rfl) ?_
  refine lv_istore_n (lv' := [(3, .int (nI (a))), (2, .int (nI (b))), (0, .int (nI (a))), (1, .int (nI (b)))]) hx hb dX11_greatestDivisor_3 rfl hl (by decide) rfl (fun ls hl => ?_)
  refine lv_iconst (v := (nI 0)) hx hb dX11_greatestDivisor_4 (by decide) ?_
  refine lv_istore (lv' := [(4, .int (nI 0)), (3, .int (nI (a))), (2, .int (nI (b))), (0, .int (nI (a))), (1, .int (nI (b)))]) hx hb dX11_greatestDivisor_5 hl (by decide) rfl (fun ls hl => ?_)
  refine b_loopR (N := 64) (I := fun z ls => lv_has ls 6 [(4, .int (nI (z))), (2, .int (nI ((gI (b, a) z).1))), (3, .int (nI ((gI (b, a) z).2)))]) (fun z hz ih1 ls hI => ?_) 0 (by omega) (lv_sub hl [0, 2, 1] rfl)
  have hl := hI
  have hl : lv_has ls 6 [(4, .int (nI (z))), (2, .int (nI ((gI (b, a) z).1))), (3, .int (nI ((gI (b, a) z).2)))] := hl
  refine lv_iload hx hb dX11_greatestDivisor_7 (lv_at hl 0 rfl) ?_
  refine lv_bipush (v := (nI 64)) hx hb dX11_greatestDivisor_9 (by decide) ?_
  refine b_ge (tgt := 34) hx hb (by omega) (by omega) dX11_greatestDivisor_11 (by decide) (fun c2 => ?_) (fun c2 => ?_)
  · refine lv_iload_n hx hb dX11_greatestDivisor_34 rfl (lv_at hl 1 rfl) ?_
    exact b_ret hx hb hr (by have h64 : z = 64 := (by omega); subst h64; rw [gI_end (gI_64 ha)]) dX11_greatestDivisor_35 hlocks
  · have hgl := gI_le (S := (b, a)) (M := 1000000) hb_ ha z
    refine lv_iload_n hx hb dX11_greatestDivisor_14 rfl (lv_at hl 2 rfl) ?_
    refine lv_if_eq (tgt := 34) hx hb dX11_greatestDivisor_15 (by decide) (fun c3 => ?_) (fun c3 => ?_)
    · refine lv_iload_n hx hb dX11_greatestDivisor_34 rfl (lv_at hl 1 rfl) ?_
      exact b_ret hx hb hr (by rw [gI_end ((nI_eq (by omega) (by omega)).mp c3)]) dX11_greatestDivisor_35 hlocks
    · have hg0 : ¬ (gI (b, a) z).2 = 0 := fun y => c3 (by rw [y]; rfl)
      refine lv_iload_n hx hb dX11_greatestDivisor_18 rfl (lv_at hl 1 rfl) ?_
      refine lv_iload_n hx hb dX11_greatestDivisor_19 rfl (lv_at hl 2 rfl) ?_
      refine lv_irem hx hb dX11_greatestDivisor_20 c3 ?_
      rw [pk_rem (by omega) (by omega) (by omega)]
      refine lv_istore (lv' := [(5, .int (nI ((gI (b, a) z).1 % (gI (b, a) z).2))), (4, .int (nI (z))), (2, .int (nI ((gI (b, a) z).1))), (3, .int (nI ((gI (b, a) z).2)))]) hx hb dX11_greatestDivisor_21 hl (by decide) rfl (fun ls hl => ?_)
      refine lv_iload_n hx hb dX11_greatestDivisor_23 rfl (lv_at hl 3 rfl) ?_
      refine lv_istore_n (lv' := [(2, .int (nI ((gI (b, a) z).2))), (5, .int (nI ((gI (b, a) z).1 % (gI (b, a) z).2))), (4, .int (nI (z))), (3, .int (nI ((gI (b, a) z).2)))]) hx hb dX11_greatestDivisor_24 rfl hl (by decide) rfl (fun ls hl => ?_)
      refine lv_iload hx hb dX11_greatestDivisor_25 (lv_at hl 1 rfl) ?_
      refine lv_istore_n (lv' := [(3, .int (nI ((gI (b, a) z).1 % (gI (b, a) z).2))), (2, .int (nI ((gI (b, a) z).2))), (5, .int (nI ((gI (b, a) z).1 % (gI (b, a) z).2))), (4, .int (nI (z)))]) hx hb dX11_greatestDivisor_27 rfl hl (by decide) rfl (fun ls hl => ?_)
      refine lv_iinc (v := (nI (z + 1))) (lv' := [(4, .int (nI (z + 1))), (3, .int (nI ((gI (b, a) z).1 % (gI (b, a) z).2))), (2, .int (nI ((gI (b, a) z).2))), (5, .int (nI ((gI (b, a) z).1 % (gI (b, a) z).2)))]) hx hb dX11_greatestDivisor_28 hl (k := 3) rfl (nI_add _ _) (by decide) rfl (fun ls hl => ?_)
      refine lv_goto (tgt := 7) hx hb dX11_greatestDivisor_31 (by decide) ?_
      have st4 : (nI ((gI (b, a) z).2)) = (nI ((gI (b, a) (z + 1)).1)) := (by rw [gI_1]; unfold gE; rw [if_neg hg0])
      rw [st4] at hl
      have st5 : (nI ((gI (b, a) z).1 % (gI (b, a) z).2)) = (nI ((gI (b, a) (z + 1)).2)) := (by rw [gI_1]; unfold gE; rw [if_neg hg0])
      rw [st5] at hl
      exact ih1 (by omega) ls (lv_sub hl [0, 2, 1] rfl)
theorem u_X11_odds_X11 : ∀ w ∈ wsX110, w ∈ wsX11_odds := fun _ h => List.mem_cons_of_mem _ (List.mem_append_left _ (List.mem_append_left _ (List.mem_append_right _ h)))
theorem u_X11_odds_X8 : ∀ w ∈ wsX80, w ∈ wsX11_odds := fun _ h => List.mem_cons_of_mem _ (List.mem_append_left _ (List.mem_append_right _ h))
set_option maxHeartbeats 1000000 in
set_option maxRecDepth 100000 in
theorem c_X11_odds (l : Launch) (D : va_G) (cI cZ cT : ClassId) (nx : Nat) (ra pa ta da : Nat → Nat) (ia xa : Nat) (fa za : Nat → Nat) (un na fi st dy ln : Int32) (n : Nat) (kd dd nt lf co wy : Nat → Int32) (kk dc what : Int32) (hn : n ≤ 6) (hA : ∀ j, j < n → isK (kd j) ∧ isL (lf j)) (hGd : ∀ kq cv : Nat, kq ≤ 6 → cv ≤ 10 → ∃ g : Nat, g ≤ 1000000 ∧ odG dy kd dd nt lf (nI cv) wy n kq = nI g) : Met l yX11_odds wsX11_odds ({ frames := 6, cells := 0, slots := 0, locals := 148 }) (pM D cI cZ cT [.ref nx, .int kk, .int dc, .int what] (wNW nx ra pa ta da ia xa fa za un na fi ++ wTown cI ta st dy ln (nI n) kd dd nt lf ++ wFore cI fa co wy)) (qM D (some (.int ((x_odds st dy n kd dd nt lf wy kk dc what).1))) (wNW nx ra pa ta da ia xa fa za un na fi ++ wTown cI ta st dy ln (nI n) kd dd nt lf ++ wFore cI fa co ((x_odds st dy n kd dd nt lf wy kk dc what).2)) (adr (wNW nx ra pa ta da ia xa fa za un na fi ++ wTown cI ta st dy ln (nI n) kd dd nt lf ++ wFore cI fa co wy))) 0 0 (adr (wNW nx ra pa ta da ia xa fa za un na fi ++ wTown cI ta st dy ln (nI n) kd dd nt lf ++ wFore cI fa co wy)) := by
  refine Met.ofW (cc := cX11_odds) (maxL := 8) (ret := (some .int)) (by decide) rfl ?_
  intro p e s m args below meth c s₁ B hml hv
  obtain ⟨rfl, hP, hD0, hK⟩ := hv
  have hx := B.exec
  have hb := B.bytes
  have hr := B.returns
  have hts := atoms_spec (ws := wsX11_odds) B.pre
  have hown : s.vm.findClass RX11 = some m.cls := findClass_of_methodNamed B.named
  have hlocks := B.notSynchronized
  have hD := hD0.toAdr
  have hS : va_S (adr (wNW nx ra pa ta da ia xa fa za un na fi ++ wTown cI ta st dy ln (nI n) kd dd nt lf ++ wFore cI fa co wy)) s.heap s.heap [] := va_S.rf
  generalize adr (wNW nx ra pa ta da ia xa fa za un na fi ++ wTown cI ta st dy ln (nI n) kd dd nt lf ++ wFore cI fa co wy) = A at hD hS ⊢
  have hl := lv_entry ([.ref nx, .int kk, .int dc, .int what]) (n := 8) (Nat.le_of_ble_eq_true rfl)
  rw [lg_entry_eq]
  generalize (lg_sl ([.ref nx, .int kk, .int dc, .int what]) ++ List.replicate (8 - (lg_sl ([.ref nx, .int kk, .int dc, .int what])).length) Slot.unset).toArray = ls at hl ⊢
  have hl : lv_has ls 8 [(0, .ref nx), (1, .int kk), (2, .int dc), (3, .int what)] := hl
  refine lv_aload_n hx hb dX11_odds_0 rfl (lv_at hl 0 rfl) ?_
  refine va_get (D := D) (ci := 10) (v := .ref (ta 0)) (C := RX11) (T := TX11) (N := 11) hx hb hts u_X11_odds_X11 hown hK.1 hP 0 rfl rfl 2 (by decide) (hts (.fieldLink RX11 26 "NoticeWeek" "town" "LNoticeWeek$Town;") (List.mem_of_getElem? (i := 1) rfl)) (fun _ h9 => h9) rfl dX11_odds_1 ?_
  refine va_get (D := D) (ci := 7) (v := .int st) (C := RX8) (T := TX8) (N := 8) hx hb hts u_X11_odds_X8 hown hK.1 hP 1 rfl rfl 0 (by decide) (hts (.fieldLink RX11 137 "NoticeWeek$Town" "stands" "Z") (List.mem_of_getElem? (i := 2) rfl)) (fun _ h9 => h9) rfl dX11_odds_4 ?_
  refine lv_if_ne (tgt := 13) hx hb dX11_odds_7 (by decide) (fun c1 => ?_) (fun c1 => ?_)
  · refine lv_iload_n hx hb dX11_odds_13 rfl (lv_at hl 1 rfl) ?_
    refine lv_if_lt (tgt := 40) hx hb dX11_odds_14 (by decide) (fun c2 => ?_) (fun c2 => ?_)
    · refine lv_ldc (v := (-1000001)) hx hb hown (hts (.constant RX11 71 (-1000001)) (List.mem_of_getElem? (i := 4) rfl)) dX11_odds_40 ?_
      have E : x_odds st dy n kd dd nt lf wy kk dc what = ((-1000001), wy) := (by first | (simp only [x_odds, eq_false c1, eq_true c2, bI, not_true_eq_false, not_false_eq_true, ite_true, ite_false, if_true, if_false, and_self, and_true, true_and, false_and, and_false, or_true, true_or, or_false, false_or, eq_self]; done) | (simp [x_odds, eq_false c1, eq_true c2, bI]; done))
      rw [E]
      exact b_retM hx hb hr hP hS rfl dX11_odds_42 hlocks
    · refine lv_iload_n hx hb dX11_odds_17 rfl (lv_at hl 1 rfl) ?_
      refine lv_bipush (v := 6) hx hb dX11_odds_18 (by decide) ?_
      refine lv_icmp_gt (tgt := 40) hx hb dX11_odds_20 (by decide) (fun c3 => ?_) (fun c3 => ?_)
      · refine lv_ldc (v := (-1000001)) hx hb hown (hts (.constant RX11 71 (-1000001)) (List.mem_of_getElem? (i := 4) rfl)) dX11_odds_40 ?_
        have E : x_odds st dy n kd dd nt lf wy kk dc what = ((-1000001), wy) := (by first | (simp only [x_odds, eq_false c1, eq_false c2, eq_true c3, bI, not_true_eq_false, not_false_eq_true, ite_true, ite_false, if_true, if_false, and_self, and_true, true_and, false_and, and_false, or_true, true_or, or_false, false_or, eq_self]; done) | (simp [x_odds, eq_false c1, eq_false c2, eq_true c3, bI]; done))
        rw [E]
        exact b_retM hx hb hr hP hS rfl dX11_odds_42 hlocks
      · refine lv_iload_n hx hb dX11_odds_23 rfl (lv_at hl 2 rfl) ?_
        refine lv_if_lt (tgt := 40) hx hb dX11_odds_24 (by decide) (fun c4 => ?_) (fun c4 => ?_)
        · refine lv_ldc (v := (-1000001)) hx hb hown (hts (.constant RX11 71 (-1000001)) (List.mem_of_getElem? (i := 4) rfl)) dX11_odds_40 ?_
          have E : x_odds st dy n kd dd nt lf wy kk dc what = ((-1000001), wy) := (by first | (simp only [x_odds, eq_false c1, eq_false c2, eq_false c3, eq_true c4, bI, not_true_eq_false, not_false_eq_true, ite_true, ite_false, if_true, if_false, and_self, and_true, true_and, false_and, and_false, or_true, true_or, or_false, false_or, eq_self]; done) | (simp [x_odds, eq_false c1, eq_false c2, eq_false c3, eq_true c4, bI]; done))
          rw [E]
          exact b_retM hx hb hr hP hS rfl dX11_odds_42 hlocks
        · refine lv_iload_n hx hb dX11_odds_27 rfl (lv_at hl 2 rfl) ?_
          refine lv_bipush (v := 10) hx hb dX11_odds_28 (by decide) ?_
          refine lv_icmp_gt (tgt := 40) hx hb dX11_odds_30 (by decide) (fun c5 => ?_) (fun c5 => ?_)
          · refine lv_ldc (v := (-1000001)) hx hb hown (hts (.constant RX11 71 (-1000001)) (List.mem_of_getElem? (i := 4) rfl)) dX11_odds_40 ?_
            have E : x_odds st dy n kd dd nt lf wy kk dc what = ((-1000001), wy) := (by first | (simp only [x_odds, eq_false c1, eq_false c2, eq_false c3, eq_false c4, eq_true c5, bI, not_true_eq_false, not_false_eq_true, ite_true, ite_false, if_true, if_false, and_self, and_true, true_and, false_and, and_false, or_true, true_or, or_false, false_or, eq_self]; done) | (simp [x_odds, eq_false c1, eq_false c2, eq_false c3, eq_false c4, eq_true c5, bI]; done))
            rw [E]
            exact b_retM hx hb hr hP hS rfl dX11_odds_42 hlocks
          · refine lv_iload_n hx hb dX11_odds_33 rfl (lv_at hl 3 rfl) ?_
            refine b_call (va_runS (As := [.int what]) (rest := []) ⟨hx, hb, hml, hown, hts⟩ (c_X11_isChoice l D cI cZ cT what) (va_cwS 1 hts gX11_odds_X11_isChoice rfl rfl rfl (by decide +kernel) ⟨(Nat.le_of_ble_eq_true rfl), (Nat.le_of_ble_eq_true rfl)⟩) (b_pS0 hK) rfl rfl hl.1 rfl (lv_room (Nat.le_of_ble_eq_true rfl)) dX11_odds_34 ⟨Nat.zero_le _, Nat.zero_le _⟩).run ?_
            refine b_ifne (tgt := 43) hx hb dX11_odds_37 (by decide) (fun c6 => ?_) (fun c6 => ?_)
            · obtain ⟨kq, hh_kq, rfl⟩ : ∃ r : Nat, r ≤ 6 ∧ kk = nI r := i_nat 6 c2 c3 rfl (by decide)
              have hl : lv_has ls 8 [(0, .ref nx), (1, .int (nI (kq))), (2, .int dc), (3, .int what)] := hl
              obtain ⟨cv, hh_cv, rfl⟩ : ∃ r : Nat, r ≤ 10 ∧ dc = nI r := i_nat 10 c4 c5 rfl (by decide)
              have hl : lv_has ls 8 [(0, .ref nx), (1, .int (nI (kq))), (2, .int (nI (cv))), (3, .int what)] := hl
              have htk : tn (nI kq) = kq := tn_nI hh_kq
              refine lv_aload_n hx hb dX11_odds_43 rfl (lv_at hl 0 rfl) ?_
              refine va_get (D := D) (ci := 10) (v := .ref (ta 0)) (C := RX11) (T := TX11) (N := 11) hx hb hts u_X11_odds_X11 hown hK.1 hP 0 rfl rfl 2 (by decide) (hts (.fieldLink RX11 26 "NoticeWeek" "town" "LNoticeWeek$Town;") (List.mem_of_getElem? (i := 1) rfl)) (fun _ h9 => h9) rfl dX11_odds_44 ?_
              refine va_get (D := D) (ci := 7) (v := .int (nI (n))) (C := RX8) (T := TX8) (N := 8) hx hb hts u_X11_odds_X8 hown hK.1 hP 1 rfl rfl 3 (by decide) (hts (.fieldLink RX11 131 "NoticeWeek$Town" "readers" "I") (List.mem_of_getElem? (i := 5) rfl)) (fun _ h9 => h9) rfl dX11_odds_47 ?_
              refine b_call (va_runS (As := [.int (nI (n))]) (rest := []) ⟨hx, hb, hml, hown, hts⟩ (c_X11_tenToThe l D cI cZ cT n hn) (va_cwS 1 hts gX11_odds_X11_tenToThe rfl rfl rfl (by decide +kernel) ⟨(Nat.le_of_ble_eq_true rfl), (Nat.le_of_ble_eq_true rfl)⟩) (b_pS0 hK) rfl rfl hl.1 rfl (lv_room (Nat.le_of_ble_eq_true rfl)) dX11_odds_50 ⟨Nat.zero_le _, Nat.zero_le _⟩).run ?_
              refine lv_istore (lv' := [(4, .int (nI (tenF n))), (0, .ref nx), (1, .int (nI (kq))), (2, .int (nI (cv))), (3, .int what)]) hx hb dX11_odds_53 hl (by decide) rfl (fun ls hl => ?_)
              refine lv_aload_n hx hb dX11_odds_55 rfl (lv_at hl 1 rfl) ?_
              refine va_get (D := D) (ci := 10) (v := .ref (fa 0)) (C := RX11) (T := TX11) (N := 11) hx hb hts u_X11_odds_X11 hown hK.1 hP 0 rfl rfl 8 (by decide) (hts (.fieldLink RX11 50 "NoticeWeek" "foresight" "LNoticeWeek$Foresight;") (List.mem_of_getElem? (i := 6) rfl)) (fun _ h9 => h9) rfl dX11_odds_56 ?_
              refine lv_aload_n hx hb dX11_odds_59 rfl (lv_at hl 1 rfl) ?_
              refine va_get (D := D) (ci := 10) (v := .ref (ta 0)) (C := RX11) (T := TX11) (N := 11) hx hb hts u_X11_odds_X11 hown hK.1 hP 0 rfl rfl 2 (by decide) (hts (.fieldLink RX11 26 "NoticeWeek" "town" "LNoticeWeek$Town;") (List.mem_of_getElem? (i := 1) rfl)) (fun _ h9 => h9) rfl dX11_odds_60 ?_
              refine lv_iload_n hx hb dX11_odds_63 rfl (lv_at hl 2 rfl) ?_
              refine lv_iload_n hx hb dX11_odds_64 rfl (lv_at hl 3 rfl) ?_
              refine b_callM [1, 2, 3, 4, 5, 6, 7, 8, 9, 10, 11, 12, 13] (va_runV (As := [.ref (ta 0), .int (nI (kq)), .int (nI (cv))]) (rest := []) ⟨hx, hb, hml, hown, hts⟩ (c_X2_waysToBeTrue l D cI cZ cT ta st dy ln n kd dd nt lf fa co wy kq (nI (cv)) hn hA (by omega)) (cwV 3 hts gX11_odds_X2_waysToBeTrue rfl rfl rfl (by decide +kernel) ⟨(Nat.le_of_ble_eq_true rfl), (Nat.le_of_ble_eq_true rfl)⟩) (b_pVM hK hP hD [1, 2, 3, 4, 5, 6, 7, 8, 9, 10, 11, 12, 13] (by decide) rfl rfl 6 rfl rfl) rfl rfl hl.1 rfl (lv_room (Nat.le_of_ble_eq_true rfl)) dX11_odds_65 ⟨Nat.zero_le _, Nat.zero_le _⟩).run hP hD hS rfl (Nat.le_of_ble_eq_true rfl) (fun H locs hP hS => ?_)
              have hP : va_P D vwCl (wNW nx ra pa ta da ia xa fa za un na fi ++ wTown cI ta st dy ln (nI n) kd dd nt lf ++ wFore cI fa co (wyF dy kd dd nt lf (nI (cv)) wy n)) H := hP
              have hD : va_D A (wNW nx ra pa ta da ia xa fa za un na fi ++ wTown cI ta st dy ln (nI n) kd dd nt lf ++ wFore cI fa co (wyF dy kd dd nt lf (nI (cv)) wy n)) := hD.sameA [nx, (ta 0), (ta 1), (ta 2), (ta 3), (ta 4), (fa 0), (fa 1), (fa 2), (fa 3), (fa 4), (fa 5), (fa 6), (fa 7)] rfl rfl
              refine lv_topi (fun x7 ex7 => ?_)
              refine lv_istore (lv' := [(5, .int x7), (4, .int (nI (tenF n))), (0, .ref nx), (1, .int (nI (kq))), (2, .int (nI (cv))), (3, .int what)]) hx hb dX11_odds_68 hl (by decide) rfl (fun ls hl => ?_)
              obtain ⟨g, hg6, hge⟩ := hGd kq cv hh_kq hh_cv
              have hge2 : wsF (wyF dy kd dd nt lf (nI cv) wy n) kq (n + 1 - kq) = nI g := hge
              rw [hge2] at ex7
              subst ex7
              have hl : lv_has ls 8 [(5, .int (nI (g))), (4, .int (nI (tenF n))), (0, .ref nx), (1, .int (nI (kq))), (2, .int (nI (cv))), (3, .int what)] := hl
              have htg : tn (nI g) = g := tn_nI (show g ≤ 1000000 by omega)
              have ht10 := tenF_le hn
              have hgp : 0 < Nat.gcd g (tenF n) := Nat.gcd_pos_of_pos_right _ (by omega)
              have hgl : Nat.gcd g (tenF n) ≤ 1000000 := Nat.le_trans (Nat.gcd_le_right _ (by omega)) ht10.2
              have hgne : ¬ nI (Nat.gcd g (tenF n)) = 0 := nI_ne0 hgp (by omega)
              refine lv_iload hx hb dX11_odds_70 (lv_at hl 0 rfl) ?_
              refine lv_iload hx hb dX11_odds_72 (lv_at hl 1 rfl) ?_
              refine b_call (va_runS (As := [.int (nI (g)), .int (nI (tenF n))]) (rest := []) ⟨hx, hb, hml, hown, hts⟩ (c_X11_greatestDivisor l D cI cZ cT g (tenF n) hg6 ht10.2) (va_cwS 2 hts gX11_odds_X11_greatestDivisor rfl rfl rfl (by decide +kernel) ⟨(Nat.le_of_ble_eq_true rfl), (Nat.le_of_ble_eq_true rfl)⟩) (b_pS0 hK) rfl rfl hl.1 rfl (lv_room (Nat.le_of_ble_eq_true rfl)) dX11_odds_74 ⟨Nat.zero_le _, Nat.zero_le _⟩).run ?_
              refine lv_istore (lv' := [(6, .int (nI (Nat.gcd g (tenF n)))), (5, .int (nI (g))), (4, .int (nI (tenF n))), (0, .ref nx), (1, .int (nI (kq))), (2, .int (nI (cv))), (3, .int what)]) hx hb dX11_odds_77 hl (by decide) rfl (fun ls hl => ?_)
              refine lv_iload_n hx hb dX11_odds_79 rfl (lv_at hl 6 rfl) ?_
              refine lv_if_ne (tgt := 88) hx hb dX11_odds_80 (by decide) (fun c8 => ?_) (fun c8 => ?_)
              · refine lv_iload hx hb dX11_odds_88 (lv_at hl 2 rfl) ?_
                refine lv_istore (lv' := [(7, .int (nI (tenF n))), (6, .int (nI (Nat.gcd g (tenF n)))), (5, .int (nI (g))), (4, .int (nI (tenF n))), (0, .ref nx), (1, .int (nI (kq))), (2, .int (nI (cv))), (3, .int what)]) hx hb dX11_odds_90 hl (by decide) rfl (fun ls hl => ?_)
                refine lv_iload hx hb dX11_odds_92 (lv_at hl 1 rfl) ?_
                refine lv_iconst (v := (nI 1)) hx hb dX11_odds_94 (by decide) ?_
                refine b_le (tgt := 106) hx hb (by omega) (by omega) dX11_odds_95 (by decide) (fun c9 => ?_) (fun c9 => ?_)
                · have hg1 : Nat.gcd g (tenF n) = 1 := by omega
                  refine lv_iload hx hb dX11_odds_106 (lv_at hl 0 rfl) ?_
                  have E : x_odds st dy n kd dd nt lf wy (nI kq) (nI cv) what = ((nI (tenF n)), (wyF dy kd dd nt lf (nI (cv)) wy n)) := (by first | (simp only [x_odds, eq_false c1, eq_false c2, eq_false c3, eq_false c4, eq_false c5, eq_true c6, eq_false c8, eq_true c9, htk, hge, htg, hg1, Nat.div_one, bI, not_true_eq_false, not_false_eq_true, ite_true, ite_false, if_true, if_false, and_self, and_true, true_and, false_and, and_false, or_true, true_or, or_false, false_or, eq_self]; done) | (simp [x_odds, eq_false c1, eq_false c2, eq_false c3, eq_false c4, eq_false c5, eq_true c6, eq_false c8, eq_true c9, htk, hge, htg, hg1, Nat.div_one, bI]; done))
                  rw [E]
                  exact b_retM hx hb hr hP hS rfl dX11_odds_108 hlocks
                · refine lv_iload hx hb dX11_odds_98 (lv_at hl 0 rfl) ?_
                  refine lv_iload hx hb dX11_odds_100 (lv_at hl 1 rfl) ?_
                  refine lv_idiv hx hb dX11_odds_102 hgne ?_
                  rw [pk_div (by omega) hgp (by omega)]
                  refine lv_goto (tgt := 108) hx hb dX11_odds_103 (by decide) ?_
                  have E : x_odds st dy n kd dd nt lf wy (nI kq) (nI cv) what = ((nI (tenF n / Nat.gcd g (tenF n))), (wyF dy kd dd nt lf (nI (cv)) wy n)) := (by first | (simp only [x_odds, eq_false c1, eq_false c2, eq_false c3, eq_false c4, eq_false c5, eq_true c6, eq_false c8, eq_true c9, htk, hge, htg, bI, not_true_eq_false, not_false_eq_true, ite_true, ite_false, if_true, if_false, and_self, and_true, true_and, false_and, and_false, or_true, true_or, or_false, false_or, eq_self]; done) | (simp [x_odds, eq_false c1, eq_false c2, eq_false c3, eq_false c4, eq_false c5, eq_true c6, eq_false c8, eq_true c9, htk, hge, htg, bI]; done))
                  rw [E]
                  exact b_retM hx hb hr hP hS rfl dX11_odds_108 hlocks
              · refine lv_iload hx hb dX11_odds_83 (lv_at hl 1 rfl) ?_
                refine lv_goto (tgt := 90) hx hb dX11_odds_85 (by decide) ?_
                refine lv_istore (lv' := [(7, .int (nI (g))), (6, .int (nI (Nat.gcd g (tenF n)))), (5, .int (nI (g))), (4, .int (nI (tenF n))), (0, .ref nx), (1, .int (nI (kq))), (2, .int (nI (cv))), (3, .int what)]) hx hb dX11_odds_90 hl (by decide) rfl (fun ls hl => ?_)
                refine lv_iload hx hb dX11_odds_92 (lv_at hl 1 rfl) ?_
                refine lv_iconst (v := (nI 1)) hx hb dX11_odds_94 (by decide) ?_
                refine b_le (tgt := 106) hx hb (by omega) (by omega) dX11_odds_95 (by decide) (fun c10 => ?_) (fun c10 => ?_)
                · have hg1 : Nat.gcd g (tenF n) = 1 := by omega
                  refine lv_iload hx hb dX11_odds_106 (lv_at hl 0 rfl) ?_
                  have E : x_odds st dy n kd dd nt lf wy (nI kq) (nI cv) what = ((nI (g)), (wyF dy kd dd nt lf (nI (cv)) wy n)) := (by first | (simp only [x_odds, eq_false c1, eq_false c2, eq_false c3, eq_false c4, eq_false c5, eq_true c6, eq_true c8, eq_true c10, htk, hge, htg, hg1, Nat.div_one, bI, not_true_eq_false, not_false_eq_true, ite_true, ite_false, if_true, if_false, and_self, and_true, true_and, false_and, and_false, or_true, true_or, or_false, false_or, eq_self]; done) | (simp [x_odds, eq_false c1, eq_false c2, eq_false c3, eq_false c4, eq_false c5, eq_true c6, eq_true c8, eq_true c10, htk, hge, htg, hg1, Nat.div_one, bI]; done))
                  rw [E]
                  exact b_retM hx hb hr hP hS rfl dX11_odds_108 hlocks
                · refine lv_iload hx hb dX11_odds_98 (lv_at hl 0 rfl) ?_
                  refine lv_iload hx hb dX11_odds_100 (lv_at hl 1 rfl) ?_
                  refine lv_idiv hx hb dX11_odds_102 hgne ?_
                  rw [pk_div (by omega) hgp (by omega)]
                  refine lv_goto (tgt := 108) hx hb dX11_odds_103 (by decide) ?_
                  have E : x_odds st dy n kd dd nt lf wy (nI kq) (nI cv) what = ((nI (g / Nat.gcd g (tenF n))), (wyF dy kd dd nt lf (nI (cv)) wy n)) := (by first | (simp only [x_odds, eq_false c1, eq_false c2, eq_false c3, eq_false c4, eq_false c5, eq_true c6, eq_true c8, eq_true c10, htk, hge, htg, bI, not_true_eq_false, not_false_eq_true, ite_true, ite_false, if_true, if_false, and_self, and_true, true_and, false_and, and_false, or_true, true_or, or_false, false_or, eq_self]; done) | (simp [x_odds, eq_false c1, eq_false c2, eq_false c3, eq_false c4, eq_false c5, eq_true c6, eq_true c8, eq_true c10, htk, hge, htg, bI]; done))
                  rw [E]
                  exact b_retM hx hb hr hP hS rfl dX11_odds_108 hlocks
            · refine lv_ldc (v := (-1000001)) hx hb hown (hts (.constant RX11 71 (-1000001)) (List.mem_of_getElem? (i := 4) rfl)) dX11_odds_40 ?_
              have E : x_odds st dy n kd dd nt lf wy kk dc what = ((-1000001), wy) := (by first | (simp only [x_odds, eq_false c1, eq_false c2, eq_false c3, eq_false c4, eq_false c5, eq_false c6, bI, not_true_eq_false, not_false_eq_true, ite_true, ite_false, if_true, if_false, and_self, and_true, true_and, false_and, and_false, or_true, true_or, or_false, false_or, eq_self]; done) | (simp [x_odds, eq_false c1, eq_false c2, eq_false c3, eq_false c4, eq_false c5, eq_false c6, bI]; done))
              rw [E]
              exact b_retM hx hb hr hP hS rfl dX11_odds_42 hlocks
  · refine lv_ldc (v := (-1000002)) hx hb hown (hts (.constant RX11 141 (-1000002)) (List.mem_of_getElem? (i := 3) rfl)) dX11_odds_10 ?_
    have E : x_odds st dy n kd dd nt lf wy kk dc what = ((-1000002), wy) := (by first | (simp only [x_odds, eq_true c1, bI, not_true_eq_false, not_false_eq_true, ite_true, ite_false, if_true, if_false, and_self, and_true, true_and, false_and, and_false, or_true, true_or, or_false, false_or, eq_self]; done) | (simp [x_odds, eq_true c1, bI]; done))
    rw [E]
    exact b_retM hx hb hr hP hS rfl dX11_odds_12 hlocks
