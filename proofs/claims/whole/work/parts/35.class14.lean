/-! CLASS: what is asked and foretold -/
abbrev qE (lf : Nat → Int32) (r : Nat) : Nat := min 12 (min 60 (tn (lf r)))
def x_reader (dy : Int32) (n : Nat) (kd dd nt lf : Nat → Int32) (reader what : Int32) : Int32 :=
  if ¬ hasN n reader then -1000001 else if what = 0 then dd (tn reader) else if what = 1 then nt (tn reader) else if what = 2 then lf (tn reader) else if what = 3 then bc32 (dd (tn reader) ^^^ nt (tn reader))
  else if what = 4 then (if ¬ lf (tn reader) ≤ 0 then tDo (kd (tn reader)) dy (dd (tn reader)) (nt (tn reader)) else 0) else -1000001
abbrev isD (d : Int32) : Prop := ¬ d < 0 ∧ ¬ 60 < d
def x_deeds (dy : Int32) (n : Nat) (kd dd nt lf : Nat → Int32) (reader d : Int32) : Int32 := if ¬ hasN n reader then -1000001 else if ¬ isD d then -1000001 else dnB (kd (tn reader)) dy (dd (tn reader)) (nt (tn reader)) (min 12 (min (tn d) (tn (lf (tn reader)))))
def x_lines (dy : Int32) (n : Nat) (kd dd nt lf : Nat → Int32) (reader d : Int32) : Int32 := if ¬ hasN n reader then -1000001 else if ¬ isD d then -1000001 else bc32 (dnB (kd (tn reader)) dy (dd (tn reader)) (nt (tn reader)) (min 12 (min (tn d) (tn (lf (tn reader))))) ^^^ nt (tn reader))
def x_ends (dy : Int32) (n : Nat) (kd dd nt lf : Nat → Int32) (reader : Int32) : Int32 := if ¬ hasN n reader then -1000001 else bc32 (dnB (kd (tn reader)) dy (dd (tn reader)) (nt (tn reader)) (qE lf (tn reader)) ^^^ nt (tn reader))
def x_dead (st : Int32) (n : Nat) (lf : Nat → Int32) (d : Int32) : Int32 := if st = 0 then -1000002 else if ¬ isD d then -1000001 else dbF lf d n
abbrev isC (x : Int32) : Prop := x = 0 ∨ x = 1
def fuE (dy : Int32) (kd dd nt lf : Nat → Int32) (n : Nat) : Int32 := (fuF dy kd dd nt lf n).1
theorem fuF_ok {dy : Int32} {kd dd nt lf : Nat → Int32} (k : Nat) : (fuF dy kd dd nt lf k).1 = -1000000 ∨ ∃ b : Nat, b < k ∧ (fuF dy kd dd nt lf k).1 = nI b := by
  induction k with
  | zero => exact Or.inl rfl
  | succ k ih =>
    have e : fuF dy kd dd nt lf (k + 1) = if ¬ lf k ≤ 0 ∧ ¬ (fuF dy kd dd nt lf k).2 ≤ lf k ∧ ¬ flB dy kd dd nt lf k ≤ 0 then (nI k, lf k) else fuF dy kd dd nt lf k := rfl
    rw [e]
    generalize fuF dy kd dd nt lf k = F at ih ⊢
    by_cases h : ¬ lf k ≤ 0 ∧ ¬ F.2 ≤ lf k ∧ ¬ flB dy kd dd nt lf k ≤ 0
    · rw [if_pos h]; exact Or.inr ⟨k, by omega, rfl⟩
    · rw [if_neg h]
      rcases ih with h | ⟨b, h1, h2⟩
      · exact Or.inl h
      · exact Or.inr ⟨b, by omega, h2⟩
def x_first (st dy : Int32) (n : Nat) (kd dd nt lf : Nat → Int32) (what : Int32) : Int32 :=
  if st = 0 then -1000002 else if ¬ isC what then -1000001 else if fuE dy kd dd nt lf n = -1000000 then fuE dy kd dd nt lf n else if what = 0 then fuE dy kd dd nt lf n else lf (tn (fuE dy kd dd nt lf n))
def wrE (kr dy dr deeds : Int32) (q : Nat) : Int32 := (wrF kr dy dr deeds q 64).1
def x_toWrite (dy : Int32) (n : Nat) (kd dd nt lf : Nat → Int32) (reader deeds what : Int32) : Int32 :=
  if ¬ hasN n reader then -1000001 else if ¬ (¬ deeds < 0 ∧ ¬ 63 < deeds) then -1000001 else if ¬ isC what then -1000001 else if ¬ ¬ lf (tn reader) ≤ 0 then -1000002
  else if wrE (kd (tn reader)) dy (dd (tn reader)) deeds (qE lf (tn reader)) = -1000000 then wrE (kd (tn reader)) dy (dd (tn reader)) deeds (qE lf (tn reader)) else if what = 1 then wrE (kd (tn reader)) dy (dd (tn reader)) deeds (qE lf (tn reader))
  else bc32 (dnB (kd (tn reader)) dy (dd (tn reader)) (wrE (kd (tn reader)) dy (dd (tn reader)) deeds (qE lf (tn reader))) (qE lf (tn reader)) ^^^ wrE (kd (tn reader)) dy (dd (tn reader)) deeds (qE lf (tn reader)))
def dyE (kr dy dr nr : Int32) (q : Nat) : Int32 := (dyF kr dy dr nr q 64).1
def x_toDeny (dy : Int32) (n : Nat) (kd dd nt lf : Nat → Int32) (reader what : Int32) : Int32 :=
  if ¬ hasN n reader then -1000001 else if ¬ isC what then -1000001 else if dyE (kd (tn reader)) dy (dd (tn reader)) (nt (tn reader)) (qE lf (tn reader)) = -1000000 then dyE (kd (tn reader)) dy (dd (tn reader)) (nt (tn reader)) (qE lf (tn reader)) else if what = 1 then dyE (kd (tn reader)) dy (dd (tn reader)) (nt (tn reader)) (qE lf (tn reader))
  else bc32 (dyE (kd (tn reader)) dy (dd (tn reader)) (nt (tn reader)) (qE lf (tn reader)))
def rpE (ln : Int32) (dd nt : Nat → Int32) (n : Nat) : Int32 := rpF ln dd nt n (2 ^ n - 1)
def x_print (st ln : Int32) (n : Nat) (dd nt : Nat → Int32) (what : Int32) : Int32 := if st = 0 then -1000002 else if ¬ isC what then -1000001 else if what = 1 then rpE ln dd nt n else dpF dd nt (rpE ln dd nt n) n
def x_kind (n : Nat) (kd : Nat → Int32) (reader : Int32) : Int32 := if ¬ hasN n reader then -1000001 else kd (tn reader)
theorem as_1 (x : Int32) : asP x 1 ↔ (x = 0 ∨ x = 1) := ⟨fun h => by rcases h with h | h | h | h; exact .inl h; exact .inr h; exact .inr h.1; exact absurd h.2 (by decide), fun h => by rcases h with h | h; exact .inl h; exact .inr (.inl h)⟩
theorem as_2 (x : Int32) : asP x 2 ↔ (x = 0 ∨ x = 1 ∨ x = 2) := ⟨fun h => by rcases h with h | h | h | h; exact .inl h; exact .inr (.inr h); exact .inr (.inl h.1); exact absurd h.2 (by decide), fun h => by rcases h with h | h | h; exact .inl h; exact .inr (.inr (.inl ⟨h, by decide⟩)); exact .inr (.inl h)⟩
theorem as_3 (x : Int32) : asP x 3 ↔ (x = 0 ∨ x = 1 ∨ x = 3) := ⟨fun h => by rcases h with h | h | h | h; exact .inl h; exact .inr (.inr h); exact .inr (.inl h.1); exact absurd h.2 (by decide), fun h => by rcases h with h | h | h; exact .inl h; exact .inr (.inr (.inl ⟨h, by decide⟩)); exact .inr (.inl h)⟩
theorem as_4 (x : Int32) : asP x 4 ↔ (x = 0 ∨ x = 4) := ⟨fun h => by rcases h with h | h | h | h; exact .inl h; exact .inr h; exact absurd h.2 (by decide); exact absurd h.2 (by decide), fun h => by rcases h with h | h; exact .inl h; exact .inr (.inl h)⟩
theorem as_5 (x : Int32) : asP x 5 ↔ (x = 0 ∨ x = 4 ∨ x = 5) := ⟨fun h => by rcases h with h | h | h | h; exact .inl h; exact .inr (.inr h); exact absurd h.2 (by decide); exact .inr (.inl h.1), fun h => by rcases h with h | h | h; exact .inl h; exact .inr (.inr (.inr ⟨h, rfl⟩)); exact .inr (.inl h)⟩
def x_as (fi : Int32) (n : Nat) (kd : Nat → Int32) (reader x : Int32) : Int32 × Int32 :=
  if ¬ hasN n reader then (-1000001, fi) else if x < 0 then (-1000001, fi) else if ¬ x ≤ 5 then (-1000001, fi) else if asP x (kd (tn reader)) then (reader, 0) else ((-1000010) - 3, 3)
def aSz (k : Int32) (r : Nat) (d t : Int32) (z : Nat × (Nat → Int32)) : Int32 × Nat × (Nat → Int32) :=
  if k = 1 then (bc32 t + (nI r + bc32 d), m_beg (m_beg (m_beg (m_beg z 11) 10) 21) 20)
  else if k = 2 then (-(bc32 t + 2 * (nI r + bc32 d)), m_beg (m_beg (m_beg (m_beg (m_beg (m_beg z 12) 11) 10) 24) 21) 20)
  else if k = 3 then (bc32 t + (nI r + bc32 d - 1000), m_beg (m_beg (m_beg (m_beg (m_beg z 11) 10) 22) 21) 20)
  else if k = 4 then (bc32 t - 100, m_beg (m_beg z 13) 10) else (2 * (bc32 t - 100), m_beg (m_beg (m_beg z 14) 13) 10)
def aMk (k : Int32) (r : Nat) (d t : Int32) (z : Nat × (Nat → Int32)) : Int32 × Nat × (Nat → Int32) :=
  if k = 1 then (nI r + bc32 d, m_beg (m_beg z 21) 20)
  else if k = 2 then (2 * (nI r + bc32 d), m_beg (m_beg (m_beg z 24) 21) 20)
  else if k = 3 then (nI r + bc32 d - 1000, m_beg (m_beg (m_beg z 22) 21) 20)
  else if k = 4 then (nI r - (bc32 t - 100), m_beg (m_beg (m_beg (m_beg z 23) 20) 13) 10) else (nI r - 2 * (bc32 t - 100), m_beg (m_beg (m_beg (m_beg (m_beg z 23) 20) 14) 13) 10)
def x_ask (n : Nat) (kd dd nt : Nat → Int32) (z : Nat × (Nat → Int32)) (reader what : Int32) : Int32 × Nat × (Nat → Int32) :=
  if ¬ hasN n reader then (-1000001, z) else if ¬ isC what then (-1000001, z)
  else if what = 0 then aSz (kd (tn reader)) (tn reader) (dd (tn reader)) (nt (tn reader)) (0, z.2) else aMk (kd (tn reader)) (tn reader) (dd (tn reader)) (nt (tn reader)) (0, z.2)
def x_count (la : Nat → Int32) (dy ln : Int32) (n : Nat) (dd nt lf : Nat → Int32) (un : Int32) (t : Nat) (what : Int32) : Int32 :=
  if what = 0 then prF la 8 else if what = 1 then nI n else if what = 2 then bc32 (lvT lf n) else if what = 3 then dy else if what = 4 then ln else if what = 5 then tnF dd nt n else if what = 6 then un else if what = 7 then nI t else -1000001
theorem u_X11_reader_X11 : ∀ w ∈ wsX110, w ∈ wsX11_reader := fun _ h => List.mem_cons_of_mem _ (List.mem_append_left _ (List.mem_append_left _ (List.mem_append_right _ h)))
theorem u_X11_reader_X8 : ∀ w ∈ wsX80, w ∈ wsX11_reader := fun _ h => List.mem_cons_of_mem _ (List.mem_append_left _ (List.mem_append_right _ h))
set_option maxHeartbeats 1000000 in
set_option maxRecDepth 100000 in
theorem c_X11_reader (l : Launch) (D : va_G) (cI cZ cT : ClassId) (nx : Nat) (ra pa ta da : Nat → Nat) (ia xa : Nat) (fa za : Nat → Nat) (un na fi st dy ln : Int32) (n : Nat) (kd dd nt lf co wy : Nat → Int32) (reader what : Int32) (hn : n ≤ 6) (hA : ∀ j, j < n → isK (kd j) ∧ isL (lf j)) : Met l yX11_reader wsX11_reader ({ frames := 4, cells := 0, slots := 0, locals := 90 }) (pR D cI cZ cT [.ref nx, .int reader, .int what] (wNW nx ra pa ta da ia xa fa za un na fi ++ wTown cI ta st dy ln (nI n) kd dd nt lf ++ wFore cI fa co wy)) (QcRead (x_reader dy n kd dd nt lf reader what)) 0 0 (fun _ => False) := by
  refine Met.ofW (cc := cX11_reader) (maxL := 3) (ret := (some .int)) (by decide) rfl ?_
  intro p e s m args below meth c s₁ B hml hv
  obtain ⟨rfl, hP, hK⟩ := hv
  have hx := B.exec
  have hb := B.bytes
  have hr := B.returns
  have hts := atoms_spec (ws := wsX11_reader) B.pre
  have hown : s.vm.findClass RX11 = some m.cls := findClass_of_methodNamed B.named
  have hlocks := B.notSynchronized
  have hl := lv_entry ([.ref nx, .int reader, .int what]) (n := 3) (Nat.le_of_ble_eq_true rfl)
  rw [lg_entry_eq]
  generalize (lg_sl ([.ref nx, .int reader, .int what]) ++ List.replicate (3 - (lg_sl ([.ref nx, .int reader, .int what])).length) Slot.unset).toArray = ls at hl ⊢
  have hl : lv_has ls 3 [(0, .ref nx), (1, .int reader), (2, .int what)] := hl
  refine lv_aload_n hx hb dX11_reader_0 rfl (lv_at hl 0 rfl) ?_
  refine va_get (D := D) (ci := 10) (v := .ref (ta 0)) (C := RX11) (T := TX11) (N := 11) hx hb hts u_X11_reader_X11 hown hK.1 hP 0 rfl rfl 2 (by decide) (hts (.fieldLink RX11 26 "NoticeWeek" "town" "LNoticeWeek$Town;") (List.mem_of_getElem? (i := 1) rfl)) (fun _ h9 => h9) rfl dX11_reader_1 ?_
  refine lv_iload_n hx hb dX11_reader_4 rfl (lv_at hl 1 rfl) ?_
  refine b_call (va_runV (As := [.int reader]) (rest := []) ⟨hx, hb, hml, hown, hts⟩ (c_X8_has l D cI cZ cT ta st dy ln (nI n) kd dd nt lf reader) (cwV 1 hts gX11_reader_X8_has rfl rfl rfl (by decide +kernel) ⟨(Nat.le_of_ble_eq_true rfl), (Nat.le_of_ble_eq_true rfl)⟩) (b_pV hK hP [1, 2, 3, 4, 5] rfl 1 rfl rfl) rfl rfl hl.1 rfl (lv_room (Nat.le_of_ble_eq_true rfl)) dX11_reader_5 ⟨Nat.zero_le _, Nat.zero_le _⟩).run ?_
  refine b_ifne (tgt := 14) hx hb dX11_reader_8 (by decide) (fun c1 => ?_) (fun c1 => ?_)
  · obtain ⟨r, hh_r, rfl⟩ : ∃ r : Nat, r ≤ 5 ∧ reader = nI r := has_r hn c1
    have hl : lv_has ls 3 [(0, .ref nx), (1, .int (nI (r))), (2, .int what)] := hl
    have htr : tn (nI r) = r := tn_nI hh_r
    have hrn : r < n := rd_lt hn hh_r c1
    refine lv_iload_n hx hb dX11_reader_14 rfl (lv_at hl 2 rfl) ?_
    by_cases c2 : what = 0
    · refine lv_tableIn (tgt := 48) hx hb dX11_reader_15 (by rw [c2]; decide) (by rw [c2]; decide) (off := 33) (by rw [c2]; decide) (by decide) ?_
      refine lv_aload_n hx hb dX11_reader_48 rfl (lv_at hl 0 rfl) ?_
      refine va_get (D := D) (ci := 10) (v := .ref (ta 0)) (C := RX11) (T := TX11) (N := 11) hx hb hts u_X11_reader_X11 hown hK.1 hP 0 rfl rfl 2 (by decide) (hts (.fieldLink RX11 26 "NoticeWeek" "town" "LNoticeWeek$Town;") (List.mem_of_getElem? (i := 1) rfl)) (fun _ h9 => h9) rfl dX11_reader_49 ?_
      refine va_get (D := D) (ci := 7) (v := .ref (ta 2)) (C := RX8) (T := TX8) (N := 8) hx hb hts u_X11_reader_X8 hown hK.1 hP 1 rfl rfl 5 (by decide) (hts (.fieldLink RX11 168 "NoticeWeek$Town" "did" "[I") (List.mem_of_getElem? (i := 3) rfl)) (fun _ h9 => h9) rfl dX11_reader_52 ?_
      refine lv_iload_n hx hb dX11_reader_55 rfl (lv_at hl 1 rfl) ?_
      refine b_ald hx hb hK hP 3 rfl (by omega) (by decide) dX11_reader_56 ?_
      exact b_ret hx hb hr (by first | (simp only [x_reader, eq_true c1, eq_true c2, htr, bI, not_true_eq_false, not_false_eq_true, ite_true, ite_false, if_true, if_false, and_self, and_true, true_and, false_and, and_false, or_true, true_or, or_false, false_or, eq_self]; done) | (simp [x_reader, eq_true c1, eq_true c2, htr, bI]; done)) dX11_reader_57 hlocks
    by_cases c3 : what = 1
    · refine lv_tableIn (tgt := 58) hx hb dX11_reader_15 (by rw [c3]; decide) (by rw [c3]; decide) (off := 43) (by rw [c3]; decide) (by decide) ?_
      refine lv_aload_n hx hb dX11_reader_58 rfl (lv_at hl 0 rfl) ?_
      refine va_get (D := D) (ci := 10) (v := .ref (ta 0)) (C := RX11) (T := TX11) (N := 11) hx hb hts u_X11_reader_X11 hown hK.1 hP 0 rfl rfl 2 (by decide) (hts (.fieldLink RX11 26 "NoticeWeek" "town" "LNoticeWeek$Town;") (List.mem_of_getElem? (i := 1) rfl)) (fun _ h9 => h9) rfl dX11_reader_59 ?_
      refine va_get (D := D) (ci := 7) (v := .ref (ta 3)) (C := RX8) (T := TX8) (N := 8) hx hb hts u_X11_reader_X8 hown hK.1 hP 1 rfl rfl 6 (by decide) (hts (.fieldLink RX11 164 "NoticeWeek$Town" "notice" "[I") (List.mem_of_getElem? (i := 4) rfl)) (fun _ h9 => h9) rfl dX11_reader_62 ?_
      refine lv_iload_n hx hb dX11_reader_65 rfl (lv_at hl 1 rfl) ?_
      refine b_ald hx hb hK hP 4 rfl (by omega) (by decide) dX11_reader_66 ?_
      exact b_ret hx hb hr (by first | (simp only [x_reader, eq_true c1, eq_false c2, eq_true c3, htr, bI, not_true_eq_false, not_false_eq_true, ite_true, ite_false, if_true, if_false, and_self, and_true, true_and, false_and, and_false, or_true, true_or, or_false, false_or, eq_self]; done) | (simp [x_reader, eq_true c1, eq_false c2, eq_true c3, htr, bI]; done)) dX11_reader_67 hlocks
    by_cases c4 : what = 2
    · refine lv_tableIn (tgt := 68) hx hb dX11_reader_15 (by rw [c4]; decide) (by rw [c4]; decide) (off := 53) (by rw [c4]; decide) (by decide) ?_
      refine lv_aload_n hx hb dX11_reader_68 rfl (lv_at hl 0 rfl) ?_
      refine va_get (D := D) (ci := 10) (v := .ref (ta 0)) (C := RX11) (T := TX11) (N := 11) hx hb hts u_X11_reader_X11 hown hK.1 hP 0 rfl rfl 2 (by decide) (hts (.fieldLink RX11 26 "NoticeWeek" "town" "LNoticeWeek$Town;") (List.mem_of_getElem? (i := 1) rfl)) (fun _ h9 => h9) rfl dX11_reader_69 ?_
      refine va_get (D := D) (ci := 7) (v := .ref (ta 4)) (C := RX8) (T := TX8) (N := 8) hx hb hts u_X11_reader_X8 hown hK.1 hP 1 rfl rfl 7 (by decide) (hts (.fieldLink RX11 171 "NoticeWeek$Town" "left" "[I") (List.mem_of_getElem? (i := 5) rfl)) (fun _ h9 => h9) rfl dX11_reader_72 ?_
      refine lv_iload_n hx hb dX11_reader_75 rfl (lv_at hl 1 rfl) ?_
      refine b_ald hx hb hK hP 5 rfl (by omega) (by decide) dX11_reader_76 ?_
      exact b_ret hx hb hr (by first | (simp only [x_reader, eq_true c1, eq_false c2, eq_false c3, eq_true c4, htr, bI, not_true_eq_false, not_false_eq_true, ite_true, ite_false, if_true, if_false, and_self, and_true, true_and, false_and, and_false, or_true, true_or, or_false, false_or, eq_self]; done) | (simp [x_reader, eq_true c1, eq_false c2, eq_false c3, eq_true c4, htr, bI]; done)) dX11_reader_77 hlocks
    by_cases c5 : what = 3
    · refine lv_tableIn (tgt := 78) hx hb dX11_reader_15 (by rw [c5]; decide) (by rw [c5]; decide) (off := 63) (by rw [c5]; decide) (by decide) ?_
      refine lv_aload_n hx hb dX11_reader_78 rfl (lv_at hl 0 rfl) ?_
      refine va_get (D := D) (ci := 10) (v := .ref (ta 0)) (C := RX11) (T := TX11) (N := 11) hx hb hts u_X11_reader_X11 hown hK.1 hP 0 rfl rfl 2 (by decide) (hts (.fieldLink RX11 26 "NoticeWeek" "town" "LNoticeWeek$Town;") (List.mem_of_getElem? (i := 1) rfl)) (fun _ h9 => h9) rfl dX11_reader_79 ?_
      refine lv_iload_n hx hb dX11_reader_82 rfl (lv_at hl 1 rfl) ?_
      refine b_call (va_runV (As := [.int (nI (r))]) (rest := []) ⟨hx, hb, hml, hown, hts⟩ (c_X8_falseLinesNow l D cI cZ cT ta st dy ln (nI n) kd dd nt lf r (by omega)) (cwV 1 hts gX11_reader_X8_falseLinesNow rfl rfl rfl (by decide +kernel) ⟨(Nat.le_of_ble_eq_true rfl), (Nat.le_of_ble_eq_true rfl)⟩) (b_pV hK hP [1, 2, 3, 4, 5] rfl 1 rfl rfl) rfl rfl hl.1 rfl (lv_room (Nat.le_of_ble_eq_true rfl)) dX11_reader_83 ⟨Nat.zero_le _, Nat.zero_le _⟩).run ?_
      exact b_ret hx hb hr (by first | (simp only [x_reader, eq_true c1, eq_false c2, eq_false c3, eq_false c4, eq_true c5, htr, bI, not_true_eq_false, not_false_eq_true, ite_true, ite_false, if_true, if_false, and_self, and_true, true_and, false_and, and_false, or_true, true_or, or_false, false_or, eq_self]; done) | (simp [x_reader, eq_true c1, eq_false c2, eq_false c3, eq_false c4, eq_true c5, htr, bI]; done)) dX11_reader_86 hlocks
    by_cases c6 : what = 4
    · refine lv_tableIn (tgt := 87) hx hb dX11_reader_15 (by rw [c6]; decide) (by rw [c6]; decide) (off := 72) (by rw [c6]; decide) (by decide) ?_
      refine lv_aload_n hx hb dX11_reader_87 rfl (lv_at hl 0 rfl) ?_
      refine va_get (D := D) (ci := 10) (v := .ref (fa 0)) (C := RX11) (T := TX11) (N := 11) hx hb hts u_X11_reader_X11 hown hK.1 hP 0 rfl rfl 8 (by decide) (hts (.fieldLink RX11 50 "NoticeWeek" "foresight" "LNoticeWeek$Foresight;") (List.mem_of_getElem? (i := 6) rfl)) (fun _ h9 => h9) rfl dX11_reader_88 ?_
      refine lv_aload_n hx hb dX11_reader_91 rfl (lv_at hl 0 rfl) ?_
      refine va_get (D := D) (ci := 10) (v := .ref (ta 0)) (C := RX11) (T := TX11) (N := 11) hx hb hts u_X11_reader_X11 hown hK.1 hP 0 rfl rfl 2 (by decide) (hts (.fieldLink RX11 26 "NoticeWeek" "town" "LNoticeWeek$Town;") (List.mem_of_getElem? (i := 1) rfl)) (fun _ h9 => h9) rfl dX11_reader_92 ?_
      refine lv_iload_n hx hb dX11_reader_95 rfl (lv_at hl 1 rfl) ?_
      refine b_call (va_runV (As := [.ref (ta 0), .int (nI (r))]) (rest := []) ⟨hx, hb, hml, hown, hts⟩ (c_X2_doesToday l D cI cZ cT ta st dy ln (nI n) kd dd nt lf fa co wy r (by omega) (hA r hrn).1) (cwV 2 hts gX11_reader_X2_doesToday rfl rfl rfl (by decide +kernel) ⟨(Nat.le_of_ble_eq_true rfl), (Nat.le_of_ble_eq_true rfl)⟩) (b_pV hK hP [1, 2, 3, 4, 5, 6, 7, 8, 9, 10, 11, 12, 13] rfl 6 rfl rfl) rfl rfl hl.1 rfl (lv_room (Nat.le_of_ble_eq_true rfl)) dX11_reader_96 ⟨Nat.zero_le _, Nat.zero_le _⟩).run ?_
      exact b_ret hx hb hr (by first | (simp only [x_reader, eq_true c1, eq_false c2, eq_false c3, eq_false c4, eq_false c5, eq_true c6, htr, bI, not_true_eq_false, not_false_eq_true, ite_true, ite_false, if_true, if_false, and_self, and_true, true_and, false_and, and_false, or_true, true_or, or_false, false_or, eq_self]; done) | (simp [x_reader, eq_true c1, eq_false c2, eq_false c3, eq_false c4, eq_false c5, eq_true c6, htr, bI]; done)) dX11_reader_99 hlocks
    refine lv_tableOut (tgt := 100) hx hb dX11_reader_15 (sw_out0_4 c2 c3 c4 c5 c6) (by decide) ?_
    refine lv_ldc (v := (-1000001)) hx hb hown (hts (.constant RX11 71 (-1000001)) (List.mem_of_getElem? (i := 2) rfl)) dX11_reader_100 ?_
    exact b_ret hx hb hr (by first | (simp only [x_reader, eq_true c1, eq_false c2, eq_false c3, eq_false c4, eq_false c5, eq_false c6, htr, bI, not_true_eq_false, not_false_eq_true, ite_true, ite_false, if_true, if_false, and_self, and_true, true_and, false_and, and_false, or_true, true_or, or_false, false_or, eq_self]; done) | (simp [x_reader, eq_true c1, eq_false c2, eq_false c3, eq_false c4, eq_false c5, eq_false c6, htr, bI]; done)) dX11_reader_102 hlocks
  · refine lv_ldc (v := (-1000001)) hx hb hown (hts (.constant RX11 71 (-1000001)) (List.mem_of_getElem? (i := 2) rfl)) dX11_reader_11 ?_
    exact b_ret hx hb hr (by first | (simp only [x_reader, eq_false c1, bI, not_true_eq_false, not_false_eq_true, ite_true, ite_false, if_true, if_false, and_self, and_true, true_and, false_and, and_false, or_true, true_or, or_false, false_or, eq_self]; done) | (simp [x_reader, eq_false c1, bI]; done)) dX11_reader_13 hlocks
theorem u_X11_deeds_X11 : ∀ w ∈ wsX110, w ∈ wsX11_deeds := fun _ h => List.mem_cons_of_mem _ (List.mem_append_left _ (List.mem_append_left _ (List.mem_append_right _ h)))
theorem u_X11_deeds_X8 : ∀ w ∈ wsX80, w ∈ wsX11_deeds := fun _ h => List.mem_cons_of_mem _ (List.mem_append_left _ (List.mem_append_right _ h))
set_option maxHeartbeats 1000000 in
set_option maxRecDepth 100000 in
theorem c_X11_deeds (l : Launch) (D : va_G) (cI cZ cT : ClassId) (nx : Nat) (ra pa ta da : Nat → Nat) (ia xa : Nat) (fa za : Nat → Nat) (un na fi st dy ln : Int32) (n : Nat) (kd dd nt lf co wy : Nat → Int32) (reader d : Int32) (hn : n ≤ 6) (hA : ∀ j, j < n → isK (kd j) ∧ isL (lf j)) : Met l yX11_deeds wsX11_deeds ({ frames := 4, cells := 0, slots := 0, locals := 96 }) (pR D cI cZ cT [.ref nx, .int reader, .int d] (wNW nx ra pa ta da ia xa fa za un na fi ++ wTown cI ta st dy ln (nI n) kd dd nt lf ++ wFore cI fa co wy)) (QcRead (x_deeds dy n kd dd nt lf reader d)) 0 0 (fun _ => False) := by
  refine Met.ofW (cc := cX11_deeds) (maxL := 3) (ret := (some .int)) (by decide) rfl ?_
  intro p e s m args below meth c s₁ B hml hv
  obtain ⟨rfl, hP, hK⟩ := hv
  have hx := B.exec
  have hb := B.bytes
  have hr := B.returns
  have hts := atoms_spec (ws := wsX11_deeds) B.pre
  have hown : s.vm.findClass RX11 = some m.cls := findClass_of_methodNamed B.named
  have hlocks := B.notSynchronized
  have hl := lv_entry ([.ref nx, .int reader, .int d]) (n := 3) (Nat.le_of_ble_eq_true rfl)
  rw [lg_entry_eq]
  generalize (lg_sl ([.ref nx, .int reader, .int d]) ++ List.replicate (3 - (lg_sl ([.ref nx, .int reader, .int d])).length) Slot.unset).toArray = ls at hl ⊢
  have hl : lv_has ls 3 [(0, .ref nx), (1, .int reader), (2, .int d)] := hl
  refine lv_aload_n hx hb dX11_deeds_0 rfl (lv_at hl 0 rfl) ?_
  refine va_get (D := D) (ci := 10) (v := .ref (ta 0)) (C := RX11) (T := TX11) (N := 11) hx hb hts u_X11_deeds_X11 hown hK.1 hP 0 rfl rfl 2 (by decide) (hts (.fieldLink RX11 26 "NoticeWeek" "town" "LNoticeWeek$Town;") (List.mem_of_getElem? (i := 1) rfl)) (fun _ h9 => h9) rfl dX11_deeds_1 ?_
  refine lv_iload_n hx hb dX11_deeds_4 rfl (lv_at hl 1 rfl) ?_
  refine b_call (va_runV (As := [.int reader]) (rest := []) ⟨hx, hb, hml, hown, hts⟩ (c_X8_has l D cI cZ cT ta st dy ln (nI n) kd dd nt lf reader) (cwV 1 hts gX11_deeds_X8_has rfl rfl rfl (by decide +kernel) ⟨(Nat.le_of_ble_eq_true rfl), (Nat.le_of_ble_eq_true rfl)⟩) (b_pV hK hP [1, 2, 3, 4, 5] rfl 1 rfl rfl) rfl rfl hl.1 rfl (lv_room (Nat.le_of_ble_eq_true rfl)) dX11_deeds_5 ⟨Nat.zero_le _, Nat.zero_le _⟩).run ?_
  refine b_ifeq (tgt := 18) hx hb dX11_deeds_8 (by decide) (fun c1 => ?_) (fun c1 => ?_)
  · refine lv_ldc (v := (-1000001)) hx hb hown (hts (.constant RX11 71 (-1000001)) (List.mem_of_getElem? (i := 2) rfl)) dX11_deeds_18 ?_
    exact b_ret hx hb hr (by first | (simp only [x_deeds, eq_false c1, bI, not_true_eq_false, not_false_eq_true, ite_true, ite_false, if_true, if_false, and_self, and_true, true_and, false_and, and_false, or_true, true_or, or_false, false_or, eq_self]; done) | (simp [x_deeds, eq_false c1, bI]; done)) dX11_deeds_20 hlocks
  · refine lv_iload_n hx hb dX11_deeds_11 rfl (lv_at hl 2 rfl) ?_
    refine b_call (va_runS (As := [.int d]) (rest := []) ⟨hx, hb, hml, hown, hts⟩ (c_X11_isDaysAhead l D cI cZ cT d) (va_cwS 1 hts gX11_deeds_X11_isDaysAhead rfl rfl rfl (by decide +kernel) ⟨(Nat.le_of_ble_eq_true rfl), (Nat.le_of_ble_eq_true rfl)⟩) (b_pS0 hK) rfl rfl hl.1 rfl (lv_room (Nat.le_of_ble_eq_true rfl)) dX11_deeds_12 ⟨Nat.zero_le _, Nat.zero_le _⟩).run ?_
    refine b_ifne (tgt := 21) hx hb dX11_deeds_15 (by decide) (fun c2 => ?_) (fun c2 => ?_)
    · obtain ⟨r, hh_r, rfl⟩ : ∃ r : Nat, r ≤ 5 ∧ reader = nI r := has_r hn c1
      have hl : lv_has ls 3 [(0, .ref nx), (1, .int (nI (r))), (2, .int d)] := hl
      have htr : tn (nI r) = r := tn_nI hh_r
      have hrn : r < n := rd_lt hn hh_r c1
      obtain ⟨dv, hh_dv, rfl⟩ : ∃ r : Nat, r ≤ 60 ∧ d = nI r := i_nat 60 c2.1 c2.2 rfl (by decide)
      have hl : lv_has ls 3 [(0, .ref nx), (1, .int (nI (r))), (2, .int (nI (dv)))] := hl
      have htd : tn (nI dv) = dv := tn_nI hh_dv
      refine lv_aload_n hx hb dX11_deeds_21 rfl (lv_at hl 0 rfl) ?_
      refine va_get (D := D) (ci := 10) (v := .ref (fa 0)) (C := RX11) (T := TX11) (N := 11) hx hb hts u_X11_deeds_X11 hown hK.1 hP 0 rfl rfl 8 (by decide) (hts (.fieldLink RX11 50 "NoticeWeek" "foresight" "LNoticeWeek$Foresight;") (List.mem_of_getElem? (i := 3) rfl)) (fun _ h9 => h9) rfl dX11_deeds_22 ?_
      refine lv_aload_n hx hb dX11_deeds_25 rfl (lv_at hl 0 rfl) ?_
      refine va_get (D := D) (ci := 10) (v := .ref (ta 0)) (C := RX11) (T := TX11) (N := 11) hx hb hts u_X11_deeds_X11 hown hK.1 hP 0 rfl rfl 2 (by decide) (hts (.fieldLink RX11 26 "NoticeWeek" "town" "LNoticeWeek$Town;") (List.mem_of_getElem? (i := 1) rfl)) (fun _ h9 => h9) rfl dX11_deeds_26 ?_
      refine lv_iload_n hx hb dX11_deeds_29 rfl (lv_at hl 1 rfl) ?_
      refine lv_iload_n hx hb dX11_deeds_30 rfl (lv_at hl 2 rfl) ?_
      refine lv_aload_n hx hb dX11_deeds_31 rfl (lv_at hl 0 rfl) ?_
      refine va_get (D := D) (ci := 10) (v := .ref (ta 0)) (C := RX11) (T := TX11) (N := 11) hx hb hts u_X11_deeds_X11 hown hK.1 hP 0 rfl rfl 2 (by decide) (hts (.fieldLink RX11 26 "NoticeWeek" "town" "LNoticeWeek$Town;") (List.mem_of_getElem? (i := 1) rfl)) (fun _ h9 => h9) rfl dX11_deeds_32 ?_
      refine va_get (D := D) (ci := 7) (v := .ref (ta 2)) (C := RX8) (T := TX8) (N := 8) hx hb hts u_X11_deeds_X8 hown hK.1 hP 1 rfl rfl 5 (by decide) (hts (.fieldLink RX11 168 "NoticeWeek$Town" "did" "[I") (List.mem_of_getElem? (i := 4) rfl)) (fun _ h9 => h9) rfl dX11_deeds_35 ?_
      refine lv_iload_n hx hb dX11_deeds_38 rfl (lv_at hl 1 rfl) ?_
      refine b_ald hx hb hK hP 3 rfl (by omega) (by decide) dX11_deeds_39 ?_
      refine lv_aload_n hx hb dX11_deeds_40 rfl (lv_at hl 0 rfl) ?_
      refine va_get (D := D) (ci := 10) (v := .ref (ta 0)) (C := RX11) (T := TX11) (N := 11) hx hb hts u_X11_deeds_X11 hown hK.1 hP 0 rfl rfl 2 (by decide) (hts (.fieldLink RX11 26 "NoticeWeek" "town" "LNoticeWeek$Town;") (List.mem_of_getElem? (i := 1) rfl)) (fun _ h9 => h9) rfl dX11_deeds_41 ?_
      refine va_get (D := D) (ci := 7) (v := .ref (ta 3)) (C := RX8) (T := TX8) (N := 8) hx hb hts u_X11_deeds_X8 hown hK.1 hP 1 rfl rfl 6 (by decide) (hts (.fieldLink RX11 164 "NoticeWeek$Town" "notice" "[I") (List.mem_of_getElem? (i := 5) rfl)) (fun _ h9 => h9) rfl dX11_deeds_44 ?_
      refine lv_iload_n hx hb dX11_deeds_47 rfl (lv_at hl 1 rfl) ?_
      refine b_ald hx hb hK hP 4 rfl (by omega) (by decide) dX11_deeds_48 ?_
      refine b_call (va_runV (As := [.ref (ta 0), .int (nI (r)), .int (nI (dv)), .int (dd r), .int (nt r)]) (rest := []) ⟨hx, hb, hml, hown, hts⟩ (c_X2_doneBehind l D cI cZ cT ta st dy ln (nI n) kd dd nt lf fa co wy r dv (dd r) (nt r) (by omega) (by omega) (hA r hrn).1 (hA r hrn).2) (cwV 5 hts gX11_deeds_X2_doneBehind rfl rfl rfl (by decide +kernel) ⟨(Nat.le_of_ble_eq_true rfl), (Nat.le_of_ble_eq_true rfl)⟩) (b_pV hK hP [1, 2, 3, 4, 5, 6, 7, 8, 9, 10, 11, 12, 13] rfl 6 rfl rfl) rfl rfl hl.1 rfl (lv_room (Nat.le_of_ble_eq_true rfl)) dX11_deeds_49 ⟨Nat.zero_le _, Nat.zero_le _⟩).run ?_
      exact b_ret hx hb hr (by first | (simp only [x_deeds, eq_true c1, eq_true c2, htr, htd, bI, not_true_eq_false, not_false_eq_true, ite_true, ite_false, if_true, if_false, and_self, and_true, true_and, false_and, and_false, or_true, true_or, or_false, false_or, eq_self]; done) | (simp [x_deeds, eq_true c1, eq_true c2, htr, htd, bI]; done)) dX11_deeds_52 hlocks
    · refine lv_ldc (v := (-1000001)) hx hb hown (hts (.constant RX11 71 (-1000001)) (List.mem_of_getElem? (i := 2) rfl)) dX11_deeds_18 ?_
      exact b_ret hx hb hr (by first | (simp only [x_deeds, eq_true c1, eq_false c2, bI, not_true_eq_false, not_false_eq_true, ite_true, ite_false, if_true, if_false, and_self, and_true, true_and, false_and, and_false, or_true, true_or, or_false, false_or, eq_self]; done) | (simp [x_deeds, eq_true c1, eq_false c2, bI]; done)) dX11_deeds_20 hlocks
theorem u_X11_lines_X11 : ∀ w ∈ wsX110, w ∈ wsX11_lines := fun _ h => List.mem_cons_of_mem _ (List.mem_append_left _ (List.mem_append_left _ (List.mem_append_right _ h)))
set_option maxHeartbeats 1000000 in
set_option maxRecDepth 100000 in
theorem c_X11_lines (l : Launch) (D : va_G) (cI cZ cT : ClassId) (nx : Nat) (ra pa ta da : Nat → Nat) (ia xa : Nat) (fa za : Nat → Nat) (un na fi st dy ln : Int32) (n : Nat) (kd dd nt lf co wy : Nat → Int32) (reader d : Int32) (hn : n ≤ 6) (hA : ∀ j, j < n → isK (kd j) ∧ isL (lf j)) : Met l yX11_lines wsX11_lines ({ frames := 5, cells := 0, slots := 0, locals := 120 }) (pR D cI cZ cT [.ref nx, .int reader, .int d] (wNW nx ra pa ta da ia xa fa za un na fi ++ wTown cI ta st dy ln (nI n) kd dd nt lf ++ wFore cI fa co wy)) (QcRead (x_lines dy n kd dd nt lf reader d)) 0 0 (fun _ => False) := by
  refine Met.ofW (cc := cX11_lines) (maxL := 3) (ret := (some .int)) (by decide) rfl ?_
  intro p e s m args below meth c s₁ B hml hv
  obtain ⟨rfl, hP, hK⟩ := hv
  have hx := B.exec
  have hb := B.bytes
  have hr := B.returns
  have hts := atoms_spec (ws := wsX11_lines) B.pre
  have hown : s.vm.findClass RX11 = some m.cls := findClass_of_methodNamed B.named
  have hlocks := B.notSynchronized
  have hl := lv_entry ([.ref nx, .int reader, .int d]) (n := 3) (Nat.le_of_ble_eq_true rfl)
  rw [lg_entry_eq]
  generalize (lg_sl ([.ref nx, .int reader, .int d]) ++ List.replicate (3 - (lg_sl ([.ref nx, .int reader, .int d])).length) Slot.unset).toArray = ls at hl ⊢
  have hl : lv_has ls 3 [(0, .ref nx), (1, .int reader), (2, .int d)] := hl
  refine lv_aload_n hx hb dX11_lines_0 rfl (lv_at hl 0 rfl) ?_
  refine va_get (D := D) (ci := 10) (v := .ref (ta 0)) (C := RX11) (T := TX11) (N := 11) hx hb hts u_X11_lines_X11 hown hK.1 hP 0 rfl rfl 2 (by decide) (hts (.fieldLink RX11 26 "NoticeWeek" "town" "LNoticeWeek$Town;") (List.mem_of_getElem? (i := 1) rfl)) (fun _ h9 => h9) rfl dX11_lines_1 ?_
  refine lv_iload_n hx hb dX11_lines_4 rfl (lv_at hl 1 rfl) ?_
  refine b_call (va_runV (As := [.int reader]) (rest := []) ⟨hx, hb, hml, hown, hts⟩ (c_X8_has l D cI cZ cT ta st dy ln (nI n) kd dd nt lf reader) (cwV 1 hts gX11_lines_X8_has rfl rfl rfl (by decide +kernel) ⟨(Nat.le_of_ble_eq_true rfl), (Nat.le_of_ble_eq_true rfl)⟩) (b_pV hK hP [1, 2, 3, 4, 5] rfl 1 rfl rfl) rfl rfl hl.1 rfl (lv_room (Nat.le_of_ble_eq_true rfl)) dX11_lines_5 ⟨Nat.zero_le _, Nat.zero_le _⟩).run ?_
  refine b_ifeq (tgt := 18) hx hb dX11_lines_8 (by decide) (fun c1 => ?_) (fun c1 => ?_)
  · refine lv_ldc (v := (-1000001)) hx hb hown (hts (.constant RX11 71 (-1000001)) (List.mem_of_getElem? (i := 2) rfl)) dX11_lines_18 ?_
    exact b_ret hx hb hr (by first | (simp only [x_lines, eq_false c1, bI, not_true_eq_false, not_false_eq_true, ite_true, ite_false, if_true, if_false, and_self, and_true, true_and, false_and, and_false, or_true, true_or, or_false, false_or, eq_self]; done) | (simp [x_lines, eq_false c1, bI]; done)) dX11_lines_20 hlocks
  · refine lv_iload_n hx hb dX11_lines_11 rfl (lv_at hl 2 rfl) ?_
    refine b_call (va_runS (As := [.int d]) (rest := []) ⟨hx, hb, hml, hown, hts⟩ (c_X11_isDaysAhead l D cI cZ cT d) (va_cwS 1 hts gX11_lines_X11_isDaysAhead rfl rfl rfl (by decide +kernel) ⟨(Nat.le_of_ble_eq_true rfl), (Nat.le_of_ble_eq_true rfl)⟩) (b_pS0 hK) rfl rfl hl.1 rfl (lv_room (Nat.le_of_ble_eq_true rfl)) dX11_lines_12 ⟨Nat.zero_le _, Nat.zero_le _⟩).run ?_
    refine b_ifne (tgt := 21) hx hb dX11_lines_15 (by decide) (fun c2 => ?_) (fun c2 => ?_)
    · obtain ⟨r, hh_r, rfl⟩ : ∃ r : Nat, r ≤ 5 ∧ reader = nI r := has_r hn c1
      have hl : lv_has ls 3 [(0, .ref nx), (1, .int (nI (r))), (2, .int d)] := hl
      have htr : tn (nI r) = r := tn_nI hh_r
      have hrn : r < n := rd_lt hn hh_r c1
      obtain ⟨dv, hh_dv, rfl⟩ : ∃ r : Nat, r ≤ 60 ∧ d = nI r := i_nat 60 c2.1 c2.2 rfl (by decide)
      have hl : lv_has ls 3 [(0, .ref nx), (1, .int (nI (r))), (2, .int (nI (dv)))] := hl
      have htd : tn (nI dv) = dv := tn_nI hh_dv
      refine lv_aload_n hx hb dX11_lines_21 rfl (lv_at hl 0 rfl) ?_
      refine va_get (D := D) (ci := 10) (v := .ref (fa 0)) (C := RX11) (T := TX11) (N := 11) hx hb hts u_X11_lines_X11 hown hK.1 hP 0 rfl rfl 8 (by decide) (hts (.fieldLink RX11 50 "NoticeWeek" "foresight" "LNoticeWeek$Foresight;") (List.mem_of_getElem? (i := 3) rfl)) (fun _ h9 => h9) rfl dX11_lines_22 ?_
      refine lv_aload_n hx hb dX11_lines_25 rfl (lv_at hl 0 rfl) ?_
      refine va_get (D := D) (ci := 10) (v := .ref (ta 0)) (C := RX11) (T := TX11) (N := 11) hx hb hts u_X11_lines_X11 hown hK.1 hP 0 rfl rfl 2 (by decide) (hts (.fieldLink RX11 26 "NoticeWeek" "town" "LNoticeWeek$Town;") (List.mem_of_getElem? (i := 1) rfl)) (fun _ h9 => h9) rfl dX11_lines_26 ?_
      refine lv_iload_n hx hb dX11_lines_29 rfl (lv_at hl 1 rfl) ?_
      refine lv_iload_n hx hb dX11_lines_30 rfl (lv_at hl 2 rfl) ?_
      refine b_call (va_runV (As := [.ref (ta 0), .int (nI (r)), .int (nI (dv))]) (rest := []) ⟨hx, hb, hml, hown, hts⟩ (c_X2_falseLinesBehind l D cI cZ cT ta st dy ln (nI n) kd dd nt lf fa co wy r dv (by omega) (by omega) (hA r hrn).1 (hA r hrn).2) (cwV 3 hts gX11_lines_X2_falseLinesBehind rfl rfl rfl (by decide +kernel) ⟨(Nat.le_of_ble_eq_true rfl), (Nat.le_of_ble_eq_true rfl)⟩) (b_pV hK hP [1, 2, 3, 4, 5, 6, 7, 8, 9, 10, 11, 12, 13] rfl 6 rfl rfl) rfl rfl hl.1 rfl (lv_room (Nat.le_of_ble_eq_true rfl)) dX11_lines_31 ⟨Nat.zero_le _, Nat.zero_le _⟩).run ?_
      exact b_ret hx hb hr (by first | (simp only [x_lines, eq_true c1, eq_true c2, htr, htd, bI, not_true_eq_false, not_false_eq_true, ite_true, ite_false, if_true, if_false, and_self, and_true, true_and, false_and, and_false, or_true, true_or, or_false, false_or, eq_self]; done) | (simp [x_lines, eq_true c1, eq_true c2, htr, htd, bI]; done)) dX11_lines_34 hlocks
    · refine lv_ldc (v := (-1000001)) hx hb hown (hts (.constant RX11 71 (-1000001)) (List.mem_of_getElem? (i := 2) rfl)) dX11_lines_18 ?_
      exact b_ret hx hb hr (by first | (simp only [x_lines, eq_true c1, eq_false c2, bI, not_true_eq_false, not_false_eq_true, ite_true, ite_false, if_true, if_false, and_self, and_true, true_and, false_and, and_false, or_true, true_or, or_false, false_or, eq_self]; done) | (simp [x_lines, eq_true c1, eq_false c2, bI]; done)) dX11_lines_20 hlocks
theorem u_X11_dead_X11 : ∀ w ∈ wsX110, w ∈ wsX11_dead := fun _ h => List.mem_cons_of_mem _ (List.mem_append_left _ (List.mem_append_right _ h))
theorem u_X11_dead_X8 : ∀ w ∈ wsX80, w ∈ wsX11_dead := fun _ h => List.mem_cons_of_mem _ (List.mem_append_right _ h)
set_option maxHeartbeats 1000000 in
set_option maxRecDepth 100000 in
theorem c_X11_dead (l : Launch) (D : va_G) (cI cZ cT : ClassId) (nx : Nat) (ra pa ta da : Nat → Nat) (ia xa : Nat) (fa za : Nat → Nat) (un na fi st dy ln : Int32) (n : Nat) (kd dd nt lf : Nat → Int32) (d : Int32) (hn : n ≤ 6) : Met l yX11_dead wsX11_dead ({ frames := 1, cells := 0, slots := 0, locals := 23 }) (pR D cI cZ cT [.ref nx, .int d] (wNW nx ra pa ta da ia xa fa za un na fi ++ wTown cI ta st dy ln (nI n) kd dd nt lf)) (QcRead (x_dead st n lf d)) 0 0 (fun _ => False) := by
  refine Met.ofW (cc := cX11_dead) (maxL := 2) (ret := (some .int)) (by decide) rfl ?_
  intro p e s m args below meth c s₁ B hml hv
  obtain ⟨rfl, hP, hK⟩ := hv
  have hx := B.exec
  have hb := B.bytes
  have hr := B.returns
  have hts := atoms_spec (ws := wsX11_dead) B.pre
  have hown : s.vm.findClass RX11 = some m.cls := findClass_of_methodNamed B.named
  have hlocks := B.notSynchronized
  have hl := lv_entry ([.ref nx, .int d]) (n := 2) (Nat.le_of_ble_eq_true rfl)
  rw [lg_entry_eq]
  generalize (lg_sl ([.ref nx, .int d]) ++ List.replicate (2 - (lg_sl ([.ref nx, .int d])).length) Slot.unset).toArray = ls at hl ⊢
  have hl : lv_has ls 2 [(0, .ref nx), (1, .int d)] := hl
  refine lv_aload_n hx hb dX11_dead_0 rfl (lv_at hl 0 rfl) ?_
  refine va_get (D := D) (ci := 10) (v := .ref (ta 0)) (C := RX11) (T := TX11) (N := 11) hx hb hts u_X11_dead_X11 hown hK.1 hP 0 rfl rfl 2 (by decide) (hts (.fieldLink RX11 26 "NoticeWeek" "town" "LNoticeWeek$Town;") (List.mem_of_getElem? (i := 1) rfl)) (fun _ h9 => h9) rfl dX11_dead_1 ?_
  refine va_get (D := D) (ci := 7) (v := .int st) (C := RX8) (T := TX8) (N := 8) hx hb hts u_X11_dead_X8 hown hK.1 hP 1 rfl rfl 0 (by decide) (hts (.fieldLink RX11 137 "NoticeWeek$Town" "stands" "Z") (List.mem_of_getElem? (i := 2) rfl)) (fun _ h9 => h9) rfl dX11_dead_4 ?_
  refine lv_if_ne (tgt := 13) hx hb dX11_dead_7 (by decide) (fun c1 => ?_) (fun c1 => ?_)
  · refine lv_iload_n hx hb dX11_dead_13 rfl (lv_at hl 1 rfl) ?_
    refine b_call (va_runS (As := [.int d]) (rest := []) ⟨hx, hb, hml, hown, hts⟩ (c_X11_isDaysAhead l D cI cZ cT d) (va_cwS 1 hts gX11_dead_X11_isDaysAhead rfl rfl rfl (by decide +kernel) ⟨(Nat.le_of_ble_eq_true rfl), (Nat.le_of_ble_eq_true rfl)⟩) (b_pS0 hK) rfl rfl hl.1 rfl (lv_room (Nat.le_of_ble_eq_true rfl)) dX11_dead_14 ⟨Nat.zero_le _, Nat.zero_le _⟩).run ?_
    refine b_ifne (tgt := 23) hx hb dX11_dead_17 (by decide) (fun c2 => ?_) (fun c2 => ?_)
    · refine lv_aload_n hx hb dX11_dead_23 rfl (lv_at hl 0 rfl) ?_
      refine va_get (D := D) (ci := 10) (v := .ref (ta 0)) (C := RX11) (T := TX11) (N := 11) hx hb hts u_X11_dead_X11 hown hK.1 hP 0 rfl rfl 2 (by decide) (hts (.fieldLink RX11 26 "NoticeWeek" "town" "LNoticeWeek$Town;") (List.mem_of_getElem? (i := 1) rfl)) (fun _ h9 => h9) rfl dX11_dead_24 ?_
      refine lv_iload_n hx hb dX11_dead_27 rfl (lv_at hl 1 rfl) ?_
      refine b_call (va_runV (As := [.int d]) (rest := []) ⟨hx, hb, hml, hown, hts⟩ (c_X8_deadBehind l D cI cZ cT ta st dy ln n kd dd nt lf d hn) (cwV 1 hts gX11_dead_X8_deadBehind rfl rfl rfl (by decide +kernel) ⟨(Nat.le_of_ble_eq_true rfl), (Nat.le_of_ble_eq_true rfl)⟩) (b_pV hK hP [1, 2, 3, 4, 5] rfl 1 rfl rfl) rfl rfl hl.1 rfl (lv_room (Nat.le_of_ble_eq_true rfl)) dX11_dead_28 ⟨Nat.zero_le _, Nat.zero_le _⟩).run ?_
      exact b_ret hx hb hr (by first | (simp only [x_dead, eq_false c1, eq_true c2, bI, not_true_eq_false, not_false_eq_true, ite_true, ite_false, if_true, if_false, and_self, and_true, true_and, false_and, and_false, or_true, true_or, or_false, false_or, eq_self]; done) | (simp [x_dead, eq_false c1, eq_true c2, bI]; done)) dX11_dead_31 hlocks
    · refine lv_ldc (v := (-1000001)) hx hb hown (hts (.constant RX11 71 (-1000001)) (List.mem_of_getElem? (i := 4) rfl)) dX11_dead_20 ?_
      exact b_ret hx hb hr (by first | (simp only [x_dead, eq_false c1, eq_false c2, bI, not_true_eq_false, not_false_eq_true, ite_true, ite_false, if_true, if_false, and_self, and_true, true_and, false_and, and_false, or_true, true_or, or_false, false_or, eq_self]; done) | (simp [x_dead, eq_false c1, eq_false c2, bI]; done)) dX11_dead_22 hlocks
  · refine lv_ldc (v := (-1000002)) hx hb hown (hts (.constant RX11 141 (-1000002)) (List.mem_of_getElem? (i := 3) rfl)) dX11_dead_10 ?_
    exact b_ret hx hb hr (by first | (simp only [x_dead, eq_true c1, bI, not_true_eq_false, not_false_eq_true, ite_true, ite_false, if_true, if_false, and_self, and_true, true_and, false_and, and_false, or_true, true_or, or_false, false_or, eq_self]; done) | (simp [x_dead, eq_true c1, bI]; done)) dX11_dead_12 hlocks
theorem u_X11_ends_X11 : ∀ w ∈ wsX110, w ∈ wsX11_ends := fun _ h => List.mem_cons_of_mem _ (List.mem_append_left _ (List.mem_append_left _ (List.mem_append_right _ h)))
set_option maxHeartbeats 1000000 in
set_option maxRecDepth 100000 in
theorem c_X11_ends (l : Launch) (D : va_G) (cI cZ cT : ClassId) (nx : Nat) (ra pa ta da : Nat → Nat) (ia xa : Nat) (fa za : Nat → Nat) (un na fi st dy ln : Int32) (n : Nat) (kd dd nt lf co wy : Nat → Int32) (reader : Int32) (hn : n ≤ 6) (hA : ∀ j, j < n → isK (kd j) ∧ isL (lf j)) : Met l yX11_ends wsX11_ends ({ frames := 5, cells := 0, slots := 0, locals := 120 }) (pR D cI cZ cT [.ref nx, .int reader] (wNW nx ra pa ta da ia xa fa za un na fi ++ wTown cI ta st dy ln (nI n) kd dd nt lf ++ wFore cI fa co wy)) (QcRead (x_ends dy n kd dd nt lf reader)) 0 0 (fun _ => False) := by
  refine Met.ofW (cc := cX11_ends) (maxL := 2) (ret := (some .int)) (by decide) rfl ?_
  intro p e s m args below meth c s₁ B hml hv
  obtain ⟨rfl, hP, hK⟩ := hv
  have hx := B.exec
  have hb := B.bytes
  have hr := B.returns
  have hts := atoms_spec (ws := wsX11_ends) B.pre
  have hown : s.vm.findClass RX11 = some m.cls := findClass_of_methodNamed B.named
  have hlocks := B.notSynchronized
  have hl := lv_entry ([.ref nx, .int reader]) (n := 2) (Nat.le_of_ble_eq_true rfl)
  rw [lg_entry_eq]
  generalize (lg_sl ([.ref nx, .int reader]) ++ List.replicate (2 - (lg_sl ([.ref nx, .int reader])).length) Slot.unset).toArray = ls at hl ⊢
  have hl : lv_has ls 2 [(0, .ref nx), (1, .int reader)] := hl
  refine lv_aload_n hx hb dX11_ends_0 rfl (lv_at hl 0 rfl) ?_
  refine va_get (D := D) (ci := 10) (v := .ref (ta 0)) (C := RX11) (T := TX11) (N := 11) hx hb hts u_X11_ends_X11 hown hK.1 hP 0 rfl rfl 2 (by decide) (hts (.fieldLink RX11 26 "NoticeWeek" "town" "LNoticeWeek$Town;") (List.mem_of_getElem? (i := 1) rfl)) (fun _ h9 => h9) rfl dX11_ends_1 ?_
  refine lv_iload_n hx hb dX11_ends_4 rfl (lv_at hl 1 rfl) ?_
  refine b_call (va_runV (As := [.int reader]) (rest := []) ⟨hx, hb, hml, hown, hts⟩ (c_X8_has l D cI cZ cT ta st dy ln (nI n) kd dd nt lf reader) (cwV 1 hts gX11_ends_X8_has rfl rfl rfl (by decide +kernel) ⟨(Nat.le_of_ble_eq_true rfl), (Nat.le_of_ble_eq_true rfl)⟩) (b_pV hK hP [1, 2, 3, 4, 5] rfl 1 rfl rfl) rfl rfl hl.1 rfl (lv_room (Nat.le_of_ble_eq_true rfl)) dX11_ends_5 ⟨Nat.zero_le _, Nat.zero_le _⟩).run ?_
  refine b_ifne (tgt := 14) hx hb dX11_ends_8 (by decide) (fun c1 => ?_) (fun c1 => ?_)
  · obtain ⟨r, hh_r, rfl⟩ : ∃ r : Nat, r ≤ 5 ∧ reader = nI r := has_r hn c1
    have hl : lv_has ls 2 [(0, .ref nx), (1, .int (nI (r)))] := hl
    have htr : tn (nI r) = r := tn_nI hh_r
    have hrn : r < n := rd_lt hn hh_r c1
    refine lv_aload_n hx hb dX11_ends_14 rfl (lv_at hl 0 rfl) ?_
    refine va_get (D := D) (ci := 10) (v := .ref (fa 0)) (C := RX11) (T := TX11) (N := 11) hx hb hts u_X11_ends_X11 hown hK.1 hP 0 rfl rfl 8 (by decide) (hts (.fieldLink RX11 50 "NoticeWeek" "foresight" "LNoticeWeek$Foresight;") (List.mem_of_getElem? (i := 3) rfl)) (fun _ h9 => h9) rfl dX11_ends_15 ?_
    refine lv_aload_n hx hb dX11_ends_18 rfl (lv_at hl 0 rfl) ?_
    refine va_get (D := D) (ci := 10) (v := .ref (ta 0)) (C := RX11) (T := TX11) (N := 11) hx hb hts u_X11_ends_X11 hown hK.1 hP 0 rfl rfl 2 (by decide) (hts (.fieldLink RX11 26 "NoticeWeek" "town" "LNoticeWeek$Town;") (List.mem_of_getElem? (i := 1) rfl)) (fun _ h9 => h9) rfl dX11_ends_19 ?_
    refine lv_iload_n hx hb dX11_ends_22 rfl (lv_at hl 1 rfl) ?_
    refine lv_bipush (v := (nI 60)) hx hb dX11_ends_23 (by decide) ?_
    refine b_call (va_runV (As := [.ref (ta 0), .int (nI (r)), .int (nI 60)]) (rest := []) ⟨hx, hb, hml, hown, hts⟩ (c_X2_falseLinesBehind l D cI cZ cT ta st dy ln (nI n) kd dd nt lf fa co wy r 60 (by omega) (by omega) (hA r hrn).1 (hA r hrn).2) (cwV 3 hts gX11_ends_X2_falseLinesBehind rfl rfl rfl (by decide +kernel) ⟨(Nat.le_of_ble_eq_true rfl), (Nat.le_of_ble_eq_true rfl)⟩) (b_pV hK hP [1, 2, 3, 4, 5, 6, 7, 8, 9, 10, 11, 12, 13] rfl 6 rfl rfl) rfl rfl hl.1 rfl (lv_room (Nat.le_of_ble_eq_true rfl)) dX11_ends_25 ⟨Nat.zero_le _, Nat.zero_le _⟩).run ?_
    exact b_ret hx hb hr (by first | (simp only [x_ends, qE, eq_true c1, htr, bI, not_true_eq_false, not_false_eq_true, ite_true, ite_false, if_true, if_false, and_self, and_true, true_and, false_and, and_false, or_true, true_or, or_false, false_or, eq_self]; done) | (simp [x_ends, qE, eq_true c1, htr, bI]; done)) dX11_ends_28 hlocks
  · refine lv_ldc (v := (-1000001)) hx hb hown (hts (.constant RX11 71 (-1000001)) (List.mem_of_getElem? (i := 2) rfl)) dX11_ends_11 ?_
    exact b_ret hx hb hr (by first | (simp only [x_ends, qE, eq_false c1, bI, not_true_eq_false, not_false_eq_true, ite_true, ite_false, if_true, if_false, and_self, and_true, true_and, false_and, and_false, or_true, true_or, or_false, false_or, eq_self]; done) | (simp [x_ends, qE, eq_false c1, bI]; done)) dX11_ends_13 hlocks
theorem u_X11_first_X11 : ∀ w ∈ wsX110, w ∈ wsX11_first := fun _ h => List.mem_cons_of_mem _ (List.mem_append_left _ (List.mem_append_left _ (List.mem_append_right _ h)))
theorem u_X11_first_X8 : ∀ w ∈ wsX80, w ∈ wsX11_first := fun _ h => List.mem_cons_of_mem _ (List.mem_append_left _ (List.mem_append_right _ h))
set_option maxHeartbeats 1000000 in
set_option maxRecDepth 100000 in
theorem c_X11_first (l : Launch) (D : va_G) (cI cZ cT : ClassId) (nx : Nat) (ra pa ta da : Nat → Nat) (ia xa : Nat) (fa za : Nat → Nat) (un na fi st dy ln : Int32) (n : Nat) (kd dd nt lf co wy : Nat → Int32) (what : Int32) (hn : n ≤ 6) (hA : ∀ j, j < n → isK (kd j) ∧ isL (lf j)) : Met l yX11_first wsX11_first ({ frames := 6, cells := 0, slots := 0, locals := 145 }) (pR D cI cZ cT [.ref nx, .int what] (wNW nx ra pa ta da ia xa fa za un na fi ++ wTown cI ta st dy ln (nI n) kd dd nt lf ++ wFore cI fa co wy)) (QcRead (x_first st dy n kd dd nt lf what)) 0 0 (fun _ => False) := by
  refine Met.ofW (cc := cX11_first) (maxL := 3) (ret := (some .int)) (by decide) rfl ?_
  intro p e s m args below meth c s₁ B hml hv
  obtain ⟨rfl, hP, hK⟩ := hv
  have hx := B.exec
  have hb := B.bytes
  have hr := B.returns
  have hts := atoms_spec (ws := wsX11_first) B.pre
  have hown : s.vm.findClass RX11 = some m.cls := findClass_of_methodNamed B.named
  have hlocks := B.notSynchronized
  have hl := lv_entry ([.ref nx, .int what]) (n := 3) (Nat.le_of_ble_eq_true rfl)
  rw [lg_entry_eq]
  generalize (lg_sl ([.ref nx, .int what]) ++ List.replicate (3 - (lg_sl ([.ref nx, .int what])).length) Slot.unset).toArray = ls at hl ⊢
  have hl : lv_has ls 3 [(0, .ref nx), (1, .int what)] := hl
  refine lv_aload_n hx hb dX11_first_0 rfl (lv_at hl 0 rfl) ?_
  refine va_get (D := D) (ci := 10) (v := .ref (ta 0)) (C := RX11) (T := TX11) (N := 11) hx hb hts u_X11_first_X11 hown hK.1 hP 0 rfl rfl 2 (by decide) (hts (.fieldLink RX11 26 "NoticeWeek" "town" "LNoticeWeek$Town;") (List.mem_of_getElem? (i := 1) rfl)) (fun _ h9 => h9) rfl dX11_first_1 ?_
  refine va_get (D := D) (ci := 7) (v := .int st) (C := RX8) (T := TX8) (N := 8) hx hb hts u_X11_first_X8 hown hK.1 hP 1 rfl rfl 0 (by decide) (hts (.fieldLink RX11 137 "NoticeWeek$Town" "stands" "Z") (List.mem_of_getElem? (i := 2) rfl)) (fun _ h9 => h9) rfl dX11_first_4 ?_
  refine lv_if_ne (tgt := 13) hx hb dX11_first_7 (by decide) (fun c1 => ?_) (fun c1 => ?_)
  · refine lv_iload_n hx hb dX11_first_13 rfl (lv_at hl 1 rfl) ?_
    refine b_call (va_runS (As := [.int what]) (rest := []) ⟨hx, hb, hml, hown, hts⟩ (c_X11_isChoice l D cI cZ cT what) (va_cwS 1 hts gX11_first_X11_isChoice rfl rfl rfl (by decide +kernel) ⟨(Nat.le_of_ble_eq_true rfl), (Nat.le_of_ble_eq_true rfl)⟩) (b_pS0 hK) rfl rfl hl.1 rfl (lv_room (Nat.le_of_ble_eq_true rfl)) dX11_first_14 ⟨Nat.zero_le _, Nat.zero_le _⟩).run ?_
    refine b_ifne (tgt := 23) hx hb dX11_first_17 (by decide) (fun c2 => ?_) (fun c2 => ?_)
    · refine lv_aload_n hx hb dX11_first_23 rfl (lv_at hl 0 rfl) ?_
      refine va_get (D := D) (ci := 10) (v := .ref (fa 0)) (C := RX11) (T := TX11) (N := 11) hx hb hts u_X11_first_X11 hown hK.1 hP 0 rfl rfl 8 (by decide) (hts (.fieldLink RX11 50 "NoticeWeek" "foresight" "LNoticeWeek$Foresight;") (List.mem_of_getElem? (i := 5) rfl)) (fun _ h9 => h9) rfl dX11_first_24 ?_
      refine lv_aload_n hx hb dX11_first_27 rfl (lv_at hl 0 rfl) ?_
      refine va_get (D := D) (ci := 10) (v := .ref (ta 0)) (C := RX11) (T := TX11) (N := 11) hx hb hts u_X11_first_X11 hown hK.1 hP 0 rfl rfl 2 (by decide) (hts (.fieldLink RX11 26 "NoticeWeek" "town" "LNoticeWeek$Town;") (List.mem_of_getElem? (i := 1) rfl)) (fun _ h9 => h9) rfl dX11_first_28 ?_
      refine b_call (va_runV (As := [.ref (ta 0)]) (rest := []) ⟨hx, hb, hml, hown, hts⟩ (c_X2_firstUntrue l D cI cZ cT ta st dy ln n kd dd nt lf fa co wy hn hA) (cwV 1 hts gX11_first_X2_firstUntrue rfl rfl rfl (by decide +kernel) ⟨(Nat.le_of_ble_eq_true rfl), (Nat.le_of_ble_eq_true rfl)⟩) (b_pV hK hP [1, 2, 3, 4, 5, 6, 7, 8, 9, 10, 11, 12, 13] rfl 6 rfl rfl) rfl rfl hl.1 rfl (lv_room (Nat.le_of_ble_eq_true rfl)) dX11_first_31 ⟨Nat.zero_le _, Nat.zero_le _⟩).run ?_
      refine lv_topi (fun x3 ex3 => ?_)
      refine lv_istore_n (lv' := [(2, .int x3), (0, .ref nx), (1, .int what)]) hx hb dX11_first_34 rfl hl (by decide) rfl (fun ls hl => ?_)
      subst ex3
      have hl : lv_has ls 3 [(2, .int (fuE dy kd dd nt lf n)), (0, .ref nx), (1, .int what)] := hl
      refine lv_iload_n hx hb dX11_first_35 rfl (lv_at hl 0 rfl) ?_
      refine lv_ldc (v := (-1000000)) hx hb hown (hts (.constant RX11 207 (-1000000)) (List.mem_of_getElem? (i := 6) rfl)) dX11_first_36 ?_
      refine lv_icmp_eq (tgt := 45) hx hb dX11_first_38 (by decide) (fun c4 => ?_) (fun c4 => ?_)
      · refine lv_iload_n hx hb dX11_first_45 rfl (lv_at hl 0 rfl) ?_
        refine lv_goto (tgt := 58) hx hb dX11_first_46 (by decide) ?_
        exact b_ret hx hb hr (by first | (simp only [x_first, eq_false c1, eq_true c2, eq_true c4, bI, not_true_eq_false, not_false_eq_true, ite_true, ite_false, if_true, if_false, and_self, and_true, true_and, false_and, and_false, or_true, true_or, or_false, false_or, eq_self]; done) | (simp [x_first, eq_false c1, eq_true c2, eq_true c4, bI]; done)) dX11_first_58 hlocks
      · refine lv_iload_n hx hb dX11_first_41 rfl (lv_at hl 2 rfl) ?_
        refine lv_if_ne (tgt := 49) hx hb dX11_first_42 (by decide) (fun c5 => ?_) (fun c5 => ?_)
        · obtain ⟨b, hb5, hbe⟩ := (fuF_ok (dy := dy) (kd := kd) (dd := dd) (nt := nt) (lf := lf) n).resolve_left c4
          have hbe : (fuE dy kd dd nt lf n) = nI b := hbe
          rw [hbe] at hl
          refine lv_aload_n hx hb dX11_first_49 rfl (lv_at hl 1 rfl) ?_
          refine va_get (D := D) (ci := 10) (v := .ref (ta 0)) (C := RX11) (T := TX11) (N := 11) hx hb hts u_X11_first_X11 hown hK.1 hP 0 rfl rfl 2 (by decide) (hts (.fieldLink RX11 26 "NoticeWeek" "town" "LNoticeWeek$Town;") (List.mem_of_getElem? (i := 1) rfl)) (fun _ h9 => h9) rfl dX11_first_50 ?_
          refine va_get (D := D) (ci := 7) (v := .ref (ta 4)) (C := RX8) (T := TX8) (N := 8) hx hb hts u_X11_first_X8 hown hK.1 hP 1 rfl rfl 7 (by decide) (hts (.fieldLink RX11 171 "NoticeWeek$Town" "left" "[I") (List.mem_of_getElem? (i := 7) rfl)) (fun _ h9 => h9) rfl dX11_first_53 ?_
          refine lv_iload_n hx hb dX11_first_56 rfl (lv_at hl 0 rfl) ?_
          refine b_ald hx hb hK hP 5 rfl (by omega) (by decide) dX11_first_57 ?_
          exact b_ret hx hb hr (by simp only [x_first, eq_false c1, eq_true c2, eq_false c4, eq_false c5, not_true_eq_false, not_false_eq_true, ite_true, ite_false, if_true, if_false, and_self, and_true, true_and, false_and, and_false, or_true, true_or, or_false, false_or]; rw [hbe, tn_nI (show b ≤ 5 by omega)]) dX11_first_58 hlocks
        · refine lv_iload_n hx hb dX11_first_45 rfl (lv_at hl 0 rfl) ?_
          refine lv_goto (tgt := 58) hx hb dX11_first_46 (by decide) ?_
          exact b_ret hx hb hr (by first | (simp only [x_first, eq_false c1, eq_true c2, eq_false c4, eq_true c5, bI, not_true_eq_false, not_false_eq_true, ite_true, ite_false, if_true, if_false, and_self, and_true, true_and, false_and, and_false, or_true, true_or, or_false, false_or, eq_self]; done) | (simp [x_first, eq_false c1, eq_true c2, eq_false c4, eq_true c5, bI]; done)) dX11_first_58 hlocks
    · refine lv_ldc (v := (-1000001)) hx hb hown (hts (.constant RX11 71 (-1000001)) (List.mem_of_getElem? (i := 4) rfl)) dX11_first_20 ?_
      exact b_ret hx hb hr (by first | (simp only [x_first, eq_false c1, eq_false c2, bI, not_true_eq_false, not_false_eq_true, ite_true, ite_false, if_true, if_false, and_self, and_true, true_and, false_and, and_false, or_true, true_or, or_false, false_or, eq_self]; done) | (simp [x_first, eq_false c1, eq_false c2, bI]; done)) dX11_first_22 hlocks
  · refine lv_ldc (v := (-1000002)) hx hb hown (hts (.constant RX11 141 (-1000002)) (List.mem_of_getElem? (i := 3) rfl)) dX11_first_10 ?_
    exact b_ret hx hb hr (by first | (simp only [x_first, eq_true c1, bI, not_true_eq_false, not_false_eq_true, ite_true, ite_false, if_true, if_false, and_self, and_true, true_and, false_and, and_false, or_true, true_or, or_false, false_or, eq_self]; done) | (simp [x_first, eq_true c1, bI]; done)) dX11_first_12 hlocks
theorem u_X11_toWrite_X11 : ∀ w ∈ wsX110, w ∈ wsX11_toWrite := fun _ h => List.mem_cons_of_mem _ (List.mem_append_left _ (List.mem_append_left _ (List.mem_append_right _ h)))
theorem u_X11_toWrite_X8 : ∀ w ∈ wsX80, w ∈ wsX11_toWrite := fun _ h => List.mem_cons_of_mem _ (List.mem_append_left _ (List.mem_append_right _ h))
set_option maxHeartbeats 1000000 in
set_option maxRecDepth 100000 in
theorem c_X11_toWrite (l : Launch) (D : va_G) (cI cZ cT : ClassId) (nx : Nat) (ra pa ta da : Nat → Nat) (ia xa : Nat) (fa za : Nat → Nat) (un na fi st dy ln : Int32) (n : Nat) (kd dd nt lf co wy : Nat → Int32) (reader deeds what : Int32) (hn : n ≤ 6) (hA : ∀ j, j < n → isK (kd j) ∧ isL (lf j)) : Met l yX11_toWrite wsX11_toWrite ({ frames := 5, cells := 0, slots := 0, locals := 124 }) (pR D cI cZ cT [.ref nx, .int reader, .int deeds, .int what] (wNW nx ra pa ta da ia xa fa za un na fi ++ wTown cI ta st dy ln (nI n) kd dd nt lf ++ wFore cI fa co wy)) (QcRead (x_toWrite dy n kd dd nt lf reader deeds what)) 0 0 (fun _ => False) := by
  refine Met.ofW (cc := cX11_toWrite) (maxL := 5) (ret := (some .int)) (by decide) rfl ?_
  intro p e s m args below meth c s₁ B hml hv
  obtain ⟨rfl, hP, hK⟩ := hv
  have hx := B.exec
  have hb := B.bytes
  have hr := B.returns
  have hts := atoms_spec (ws := wsX11_toWrite) B.pre
  have hown : s.vm.findClass RX11 = some m.cls := findClass_of_methodNamed B.named
  have hlocks := B.notSynchronized
  have hl := lv_entry ([.ref nx, .int reader, .int deeds, .int what]) (n := 5) (Nat.le_of_ble_eq_true rfl)
  rw [lg_entry_eq]
  generalize (lg_sl ([.ref nx, .int reader, .int deeds, .int what]) ++ List.replicate (5 - (lg_sl ([.ref nx, .int reader, .int deeds, .int what])).length) Slot.unset).toArray = ls at hl ⊢
  have hl : lv_has ls 5 [(0, .ref nx), (1, .int reader), (2, .int deeds), (3, .int what)] := hl
  refine lv_aload_n hx hb dX11_toWrite_0 rfl (lv_at hl 0 rfl) ?_
  refine va_get (D := D) (ci := 10) (v := .ref (ta 0)) (C := RX11) (T := TX11) (N := 11) hx hb hts u_X11_toWrite_X11 hown hK.1 hP 0 rfl rfl 2 (by decide) (hts (.fieldLink RX11 26 "NoticeWeek" "town" "LNoticeWeek$Town;") (List.mem_of_getElem? (i := 1) rfl)) (fun _ h9 => h9) rfl dX11_toWrite_1 ?_
  refine lv_iload_n hx hb dX11_toWrite_4 rfl (lv_at hl 1 rfl) ?_
  refine b_call (va_runV (As := [.int reader]) (rest := []) ⟨hx, hb, hml, hown, hts⟩ (c_X8_has l D cI cZ cT ta st dy ln (nI n) kd dd nt lf reader) (cwV 1 hts gX11_toWrite_X8_has rfl rfl rfl (by decide +kernel) ⟨(Nat.le_of_ble_eq_true rfl), (Nat.le_of_ble_eq_true rfl)⟩) (b_pV hK hP [1, 2, 3, 4, 5] rfl 1 rfl rfl) rfl rfl hl.1 rfl (lv_room (Nat.le_of_ble_eq_true rfl)) dX11_toWrite_5 ⟨Nat.zero_le _, Nat.zero_le _⟩).run ?_
  refine b_ifeq (tgt := 25) hx hb dX11_toWrite_8 (by decide) (fun c1 => ?_) (fun c1 => ?_)
  · refine lv_ldc (v := (-1000001)) hx hb hown (hts (.constant RX11 71 (-1000001)) (List.mem_of_getElem? (i := 2) rfl)) dX11_toWrite_25 ?_
    exact b_ret hx hb hr (by first | (simp only [x_toWrite, eq_false c1, bI, not_true_eq_false, not_false_eq_true, ite_true, ite_false, if_true, if_false, and_self, and_true, true_and, false_and, and_false, or_true, true_or, or_false, false_or, eq_self]; done) | (simp [x_toWrite, eq_false c1, bI]; done)) dX11_toWrite_27 hlocks
  · refine lv_iload_n hx hb dX11_toWrite_11 rfl (lv_at hl 2 rfl) ?_
    refine b_call (va_runS (As := [.int deeds]) (rest := []) ⟨hx, hb, hml, hown, hts⟩ (c_X11_isSetOfDeeds l D cI cZ cT deeds) (va_cwS 1 hts gX11_toWrite_X11_isSetOfDeeds rfl rfl rfl (by decide +kernel) ⟨(Nat.le_of_ble_eq_true rfl), (Nat.le_of_ble_eq_true rfl)⟩) (b_pS0 hK) rfl rfl hl.1 rfl (lv_room (Nat.le_of_ble_eq_true rfl)) dX11_toWrite_12 ⟨Nat.zero_le _, Nat.zero_le _⟩).run ?_
    refine b_ifeq (tgt := 25) hx hb dX11_toWrite_15 (by decide) (fun c2 => ?_) (fun c2 => ?_)
    · refine lv_ldc (v := (-1000001)) hx hb hown (hts (.constant RX11 71 (-1000001)) (List.mem_of_getElem? (i := 2) rfl)) dX11_toWrite_25 ?_
      exact b_ret hx hb hr (by first | (simp only [x_toWrite, eq_true c1, eq_false c2, bI, not_true_eq_false, not_false_eq_true, ite_true, ite_false, if_true, if_false, and_self, and_true, true_and, false_and, and_false, or_true, true_or, or_false, false_or, eq_self]; done) | (simp [x_toWrite, eq_true c1, eq_false c2, bI]; done)) dX11_toWrite_27 hlocks
    · refine lv_iload_n hx hb dX11_toWrite_18 rfl (lv_at hl 3 rfl) ?_
      refine b_call (va_runS (As := [.int what]) (rest := []) ⟨hx, hb, hml, hown, hts⟩ (c_X11_isChoice l D cI cZ cT what) (va_cwS 1 hts gX11_toWrite_X11_isChoice rfl rfl rfl (by decide +kernel) ⟨(Nat.le_of_ble_eq_true rfl), (Nat.le_of_ble_eq_true rfl)⟩) (b_pS0 hK) rfl rfl hl.1 rfl (lv_room (Nat.le_of_ble_eq_true rfl)) dX11_toWrite_19 ⟨Nat.zero_le _, Nat.zero_le _⟩).run ?_
      refine b_ifne (tgt := 28) hx hb dX11_toWrite_22 (by decide) (fun c3 => ?_) (fun c3 => ?_)
      · obtain ⟨r, hh_r, rfl⟩ : ∃ r : Nat, r ≤ 5 ∧ reader = nI r := has_r hn c1
        have hl : lv_has ls 5 [(0, .ref nx), (1, .int (nI (r))), (2, .int deeds), (3, .int what)] := hl
        have htr : tn (nI r) = r := tn_nI hh_r
        have hrn : r < n := rd_lt hn hh_r c1
        refine lv_aload_n hx hb dX11_toWrite_28 rfl (lv_at hl 0 rfl) ?_
        refine va_get (D := D) (ci := 10) (v := .ref (ta 0)) (C := RX11) (T := TX11) (N := 11) hx hb hts u_X11_toWrite_X11 hown hK.1 hP 0 rfl rfl 2 (by decide) (hts (.fieldLink RX11 26 "NoticeWeek" "town" "LNoticeWeek$Town;") (List.mem_of_getElem? (i := 1) rfl)) (fun _ h9 => h9) rfl dX11_toWrite_29 ?_
        refine lv_iload_n hx hb dX11_toWrite_32 rfl (lv_at hl 1 rfl) ?_
        refine b_call (va_runV (As := [.int (nI (r))]) (rest := []) ⟨hx, hb, hml, hown, hts⟩ (c_X8_lives l D cI cZ cT ta st dy ln (nI n) kd dd nt lf r (by omega)) (cwV 1 hts gX11_toWrite_X8_lives rfl rfl rfl (by decide +kernel) ⟨(Nat.le_of_ble_eq_true rfl), (Nat.le_of_ble_eq_true rfl)⟩) (b_pV hK hP [1, 2, 3, 4, 5] rfl 1 rfl rfl) rfl rfl hl.1 rfl (lv_room (Nat.le_of_ble_eq_true rfl)) dX11_toWrite_33 ⟨Nat.zero_le _, Nat.zero_le _⟩).run ?_
        refine b_ifne (tgt := 42) hx hb dX11_toWrite_36 (by decide) (fun c4 => ?_) (fun c4 => ?_)
        · refine lv_aload_n hx hb dX11_toWrite_42 rfl (lv_at hl 0 rfl) ?_
          refine va_get (D := D) (ci := 10) (v := .ref (fa 0)) (C := RX11) (T := TX11) (N := 11) hx hb hts u_X11_toWrite_X11 hown hK.1 hP 0 rfl rfl 8 (by decide) (hts (.fieldLink RX11 50 "NoticeWeek" "foresight" "LNoticeWeek$Foresight;") (List.mem_of_getElem? (i := 4) rfl)) (fun _ h9 => h9) rfl dX11_toWrite_43 ?_
          refine lv_aload_n hx hb dX11_toWrite_46 rfl (lv_at hl 0 rfl) ?_
          refine va_get (D := D) (ci := 10) (v := .ref (ta 0)) (C := RX11) (T := TX11) (N := 11) hx hb hts u_X11_toWrite_X11 hown hK.1 hP 0 rfl rfl 2 (by decide) (hts (.fieldLink RX11 26 "NoticeWeek" "town" "LNoticeWeek$Town;") (List.mem_of_getElem? (i := 1) rfl)) (fun _ h9 => h9) rfl dX11_toWrite_47 ?_
          refine lv_iload_n hx hb dX11_toWrite_50 rfl (lv_at hl 1 rfl) ?_
          refine lv_iload_n hx hb dX11_toWrite_51 rfl (lv_at hl 2 rfl) ?_
          refine b_call (va_runV (As := [.ref (ta 0), .int (nI (r)), .int deeds]) (rest := []) ⟨hx, hb, hml, hown, hts⟩ (c_X2_noticeToWrite l D cI cZ cT ta st dy ln (nI n) kd dd nt lf fa co wy r deeds (by omega) (hA r hrn).1 (hA r hrn).2) (cwV 3 hts gX11_toWrite_X2_noticeToWrite rfl rfl rfl (by decide +kernel) ⟨(Nat.le_of_ble_eq_true rfl), (Nat.le_of_ble_eq_true rfl)⟩) (b_pV hK hP [1, 2, 3, 4, 5, 6, 7, 8, 9, 10, 11, 12, 13] rfl 6 rfl rfl) rfl rfl hl.1 rfl (lv_room (Nat.le_of_ble_eq_true rfl)) dX11_toWrite_52 ⟨Nat.zero_le _, Nat.zero_le _⟩).run ?_
          refine lv_topi (fun x5 ex5 => ?_)
          refine lv_istore (lv' := [(4, .int x5), (0, .ref nx), (1, .int (nI (r))), (2, .int deeds), (3, .int what)]) hx hb dX11_toWrite_55 hl (by decide) rfl (fun ls hl => ?_)
          subst ex5
          have hl : lv_has ls 5 [(4, .int (wrE (kd r) dy (dd r) deeds (qE lf r))), (0, .ref nx), (1, .int (nI (r))), (2, .int deeds), (3, .int what)] := hl
          refine lv_iload hx hb dX11_toWrite_57 (lv_at hl 0 rfl) ?_
          refine lv_ldc (v := (-1000000)) hx hb hown (hts (.constant RX11 207 (-1000000)) (List.mem_of_getElem? (i := 5) rfl)) dX11_toWrite_59 ?_
          refine lv_icmp_eq (tgt := 69) hx hb dX11_toWrite_61 (by decide) (fun c6 => ?_) (fun c6 => ?_)
          · refine lv_iload hx hb dX11_toWrite_69 (lv_at hl 0 rfl) ?_
            exact b_ret hx hb hr (by first | (simp only [x_toWrite, eq_true c1, eq_true c2, eq_true c3, eq_true c4, eq_true c6, htr, bI, not_true_eq_false, not_false_eq_true, ite_true, ite_false, if_true, if_false, and_self, and_true, true_and, false_and, and_false, or_true, true_or, or_false, false_or, eq_self]; done) | (simp [x_toWrite, eq_true c1, eq_true c2, eq_true c3, eq_true c4, eq_true c6, htr, bI]; done)) dX11_toWrite_71 hlocks
          · refine lv_iload_n hx hb dX11_toWrite_64 rfl (lv_at hl 4 rfl) ?_
            refine lv_iconst (v := 1) hx hb dX11_toWrite_65 (by decide) ?_
            refine lv_icmp_ne (tgt := 72) hx hb dX11_toWrite_66 (by decide) (fun c7 => ?_) (fun c7 => ?_)
            · refine lv_aload_n hx hb dX11_toWrite_72 rfl (lv_at hl 1 rfl) ?_
              refine va_get (D := D) (ci := 10) (v := .ref (fa 0)) (C := RX11) (T := TX11) (N := 11) hx hb hts u_X11_toWrite_X11 hown hK.1 hP 0 rfl rfl 8 (by decide) (hts (.fieldLink RX11 50 "NoticeWeek" "foresight" "LNoticeWeek$Foresight;") (List.mem_of_getElem? (i := 4) rfl)) (fun _ h9 => h9) rfl dX11_toWrite_73 ?_
              refine lv_aload_n hx hb dX11_toWrite_76 rfl (lv_at hl 1 rfl) ?_
              refine va_get (D := D) (ci := 10) (v := .ref (ta 0)) (C := RX11) (T := TX11) (N := 11) hx hb hts u_X11_toWrite_X11 hown hK.1 hP 0 rfl rfl 2 (by decide) (hts (.fieldLink RX11 26 "NoticeWeek" "town" "LNoticeWeek$Town;") (List.mem_of_getElem? (i := 1) rfl)) (fun _ h9 => h9) rfl dX11_toWrite_77 ?_
              refine lv_iload_n hx hb dX11_toWrite_80 rfl (lv_at hl 2 rfl) ?_
              refine lv_bipush (v := (nI 60)) hx hb dX11_toWrite_81 (by decide) ?_
              refine lv_aload_n hx hb dX11_toWrite_83 rfl (lv_at hl 1 rfl) ?_
              refine va_get (D := D) (ci := 10) (v := .ref (ta 0)) (C := RX11) (T := TX11) (N := 11) hx hb hts u_X11_toWrite_X11 hown hK.1 hP 0 rfl rfl 2 (by decide) (hts (.fieldLink RX11 26 "NoticeWeek" "town" "LNoticeWeek$Town;") (List.mem_of_getElem? (i := 1) rfl)) (fun _ h9 => h9) rfl dX11_toWrite_84 ?_
              refine va_get (D := D) (ci := 7) (v := .ref (ta 2)) (C := RX8) (T := TX8) (N := 8) hx hb hts u_X11_toWrite_X8 hown hK.1 hP 1 rfl rfl 5 (by decide) (hts (.fieldLink RX11 168 "NoticeWeek$Town" "did" "[I") (List.mem_of_getElem? (i := 6) rfl)) (fun _ h9 => h9) rfl dX11_toWrite_87 ?_
              refine lv_iload_n hx hb dX11_toWrite_90 rfl (lv_at hl 2 rfl) ?_
              refine b_ald hx hb hK hP 3 rfl (by omega) (by decide) dX11_toWrite_91 ?_
              refine lv_iload hx hb dX11_toWrite_92 (lv_at hl 0 rfl) ?_
              refine b_call (va_runV (As := [.ref (ta 0), .int (nI (r)), .int (nI 60), .int (dd r), .int (wrE (kd r) dy (dd r) deeds (qE lf r))]) (rest := []) ⟨hx, hb, hml, hown, hts⟩ (c_X2_doneBehind l D cI cZ cT ta st dy ln (nI n) kd dd nt lf fa co wy r 60 (dd r) (wrE (kd r) dy (dd r) deeds (qE lf r)) (by omega) (by omega) (hA r hrn).1 (hA r hrn).2) (cwV 5 hts gX11_toWrite_X2_doneBehind rfl rfl rfl (by decide +kernel) ⟨(Nat.le_of_ble_eq_true rfl), (Nat.le_of_ble_eq_true rfl)⟩) (b_pV hK hP [1, 2, 3, 4, 5, 6, 7, 8, 9, 10, 11, 12, 13] rfl 6 rfl rfl) rfl rfl hl.1 rfl (lv_room (Nat.le_of_ble_eq_true rfl)) dX11_toWrite_94 ⟨Nat.zero_le _, Nat.zero_le _⟩).run ?_
              refine lv_iload hx hb dX11_toWrite_97 (lv_at hl 0 rfl) ?_
              refine b_call (va_runS (As := [.int (dnB (kd r) dy (dd r) (wrE (kd r) dy (dd r) deeds (qE lf r)) (min 12 (min 60 (tn (lf r))))), .int (wrE (kd r) dy (dd r) deeds (qE lf r))]) (rest := []) ⟨hx, hb, hml, hown, hts⟩ (c_X11_falseLines l D cI cZ cT (dnB (kd r) dy (dd r) (wrE (kd r) dy (dd r) deeds (qE lf r)) (min 12 (min 60 (tn (lf r))))) (wrE (kd r) dy (dd r) deeds (qE lf r))) (va_cwS 2 hts gX11_toWrite_X11_falseLines rfl rfl rfl (by decide +kernel) ⟨(Nat.le_of_ble_eq_true rfl), (Nat.le_of_ble_eq_true rfl)⟩) (b_pS0 hK) rfl rfl hl.1 rfl (lv_room (Nat.le_of_ble_eq_true rfl)) dX11_toWrite_99 ⟨Nat.zero_le _, Nat.zero_le _⟩).run ?_
              exact b_ret hx hb hr (by first | (simp only [x_toWrite, eq_true c1, eq_true c2, eq_true c3, eq_true c4, eq_false c6, eq_false c7, htr, bI, not_true_eq_false, not_false_eq_true, ite_true, ite_false, if_true, if_false, and_self, and_true, true_and, false_and, and_false, or_true, true_or, or_false, false_or, eq_self]; done) | (simp [x_toWrite, eq_true c1, eq_true c2, eq_true c3, eq_true c4, eq_false c6, eq_false c7, htr, bI]; done)) dX11_toWrite_102 hlocks
            · refine lv_iload hx hb dX11_toWrite_69 (lv_at hl 0 rfl) ?_
              exact b_ret hx hb hr (by first | (simp only [x_toWrite, eq_true c1, eq_true c2, eq_true c3, eq_true c4, eq_false c6, eq_true c7, htr, bI, not_true_eq_false, not_false_eq_true, ite_true, ite_false, if_true, if_false, and_self, and_true, true_and, false_and, and_false, or_true, true_or, or_false, false_or, eq_self]; done) | (simp [x_toWrite, eq_true c1, eq_true c2, eq_true c3, eq_true c4, eq_false c6, eq_true c7, htr, bI]; done)) dX11_toWrite_71 hlocks
        · refine lv_ldc (v := (-1000002)) hx hb hown (hts (.constant RX11 141 (-1000002)) (List.mem_of_getElem? (i := 3) rfl)) dX11_toWrite_39 ?_
          exact b_ret hx hb hr (by first | (simp only [x_toWrite, eq_true c1, eq_true c2, eq_true c3, eq_false c4, htr, bI, not_true_eq_false, not_false_eq_true, ite_true, ite_false, if_true, if_false, and_self, and_true, true_and, false_and, and_false, or_true, true_or, or_false, false_or, eq_self]; done) | (simp [x_toWrite, eq_true c1, eq_true c2, eq_true c3, eq_false c4, htr, bI]; done)) dX11_toWrite_41 hlocks
      · refine lv_ldc (v := (-1000001)) hx hb hown (hts (.constant RX11 71 (-1000001)) (List.mem_of_getElem? (i := 2) rfl)) dX11_toWrite_25 ?_
        exact b_ret hx hb hr (by first | (simp only [x_toWrite, eq_true c1, eq_true c2, eq_false c3, bI, not_true_eq_false, not_false_eq_true, ite_true, ite_false, if_true, if_false, and_self, and_true, true_and, false_and, and_false, or_true, true_or, or_false, false_or, eq_self]; done) | (simp [x_toWrite, eq_true c1, eq_true c2, eq_false c3, bI]; done)) dX11_toWrite_27 hlocks
theorem u_X11_toDeny_X11 : ∀ w ∈ wsX110, w ∈ wsX11_toDeny := fun _ h => List.mem_cons_of_mem _ (List.mem_append_left _ (List.mem_append_left _ (List.mem_append_right _ h)))
set_option maxHeartbeats 1000000 in
set_option maxRecDepth 100000 in
theorem c_X11_toDeny (l : Launch) (D : va_G) (cI cZ cT : ClassId) (nx : Nat) (ra pa ta da : Nat → Nat) (ia xa : Nat) (fa za : Nat → Nat) (un na fi st dy ln : Int32) (n : Nat) (kd dd nt lf co wy : Nat → Int32) (reader what : Int32) (hn : n ≤ 6) (hA : ∀ j, j < n → isK (kd j) ∧ isL (lf j)) : Met l yX11_toDeny wsX11_toDeny ({ frames := 5, cells := 0, slots := 0, locals := 124 }) (pR D cI cZ cT [.ref nx, .int reader, .int what] (wNW nx ra pa ta da ia xa fa za un na fi ++ wTown cI ta st dy ln (nI n) kd dd nt lf ++ wFore cI fa co wy)) (QcRead (x_toDeny dy n kd dd nt lf reader what)) 0 0 (fun _ => False) := by
  refine Met.ofW (cc := cX11_toDeny) (maxL := 4) (ret := (some .int)) (by decide) rfl ?_
  intro p e s m args below meth c s₁ B hml hv
  obtain ⟨rfl, hP, hK⟩ := hv
  have hx := B.exec
  have hb := B.bytes
  have hr := B.returns
  have hts := atoms_spec (ws := wsX11_toDeny) B.pre
  have hown : s.vm.findClass RX11 = some m.cls := findClass_of_methodNamed B.named
  have hlocks := B.notSynchronized
  have hl := lv_entry ([.ref nx, .int reader, .int what]) (n := 4) (Nat.le_of_ble_eq_true rfl)
  rw [lg_entry_eq]
  generalize (lg_sl ([.ref nx, .int reader, .int what]) ++ List.replicate (4 - (lg_sl ([.ref nx, .int reader, .int what])).length) Slot.unset).toArray = ls at hl ⊢
  have hl : lv_has ls 4 [(0, .ref nx), (1, .int reader), (2, .int what)] := hl
  refine lv_aload_n hx hb dX11_toDeny_0 rfl (lv_at hl 0 rfl) ?_
  refine va_get (D := D) (ci := 10) (v := .ref (ta 0)) (C := RX11) (T := TX11) (N := 11) hx hb hts u_X11_toDeny_X11 hown hK.1 hP 0 rfl rfl 2 (by decide) (hts (.fieldLink RX11 26 "NoticeWeek" "town" "LNoticeWeek$Town;") (List.mem_of_getElem? (i := 1) rfl)) (fun _ h9 => h9) rfl dX11_toDeny_1 ?_
  refine lv_iload_n hx hb dX11_toDeny_4 rfl (lv_at hl 1 rfl) ?_
  refine b_call (va_runV (As := [.int reader]) (rest := []) ⟨hx, hb, hml, hown, hts⟩ (c_X8_has l D cI cZ cT ta st dy ln (nI n) kd dd nt lf reader) (cwV 1 hts gX11_toDeny_X8_has rfl rfl rfl (by decide +kernel) ⟨(Nat.le_of_ble_eq_true rfl), (Nat.le_of_ble_eq_true rfl)⟩) (b_pV hK hP [1, 2, 3, 4, 5] rfl 1 rfl rfl) rfl rfl hl.1 rfl (lv_room (Nat.le_of_ble_eq_true rfl)) dX11_toDeny_5 ⟨Nat.zero_le _, Nat.zero_le _⟩).run ?_
  refine b_ifeq (tgt := 18) hx hb dX11_toDeny_8 (by decide) (fun c1 => ?_) (fun c1 => ?_)
  · refine lv_ldc (v := (-1000001)) hx hb hown (hts (.constant RX11 71 (-1000001)) (List.mem_of_getElem? (i := 2) rfl)) dX11_toDeny_18 ?_
    exact b_ret hx hb hr (by first | (simp only [x_toDeny, eq_false c1, bI, not_true_eq_false, not_false_eq_true, ite_true, ite_false, if_true, if_false, and_self, and_true, true_and, false_and, and_false, or_true, true_or, or_false, false_or, eq_self]; done) | (simp [x_toDeny, eq_false c1, bI]; done)) dX11_toDeny_20 hlocks
  · refine lv_iload_n hx hb dX11_toDeny_11 rfl (lv_at hl 2 rfl) ?_
    refine b_call (va_runS (As := [.int what]) (rest := []) ⟨hx, hb, hml, hown, hts⟩ (c_X11_isChoice l D cI cZ cT what) (va_cwS 1 hts gX11_toDeny_X11_isChoice rfl rfl rfl (by decide +kernel) ⟨(Nat.le_of_ble_eq_true rfl), (Nat.le_of_ble_eq_true rfl)⟩) (b_pS0 hK) rfl rfl hl.1 rfl (lv_room (Nat.le_of_ble_eq_true rfl)) dX11_toDeny_12 ⟨Nat.zero_le _, Nat.zero_le _⟩).run ?_
    refine b_ifne (tgt := 21) hx hb dX11_toDeny_15 (by decide) (fun c2 => ?_) (fun c2 => ?_)
    · obtain ⟨r, hh_r, rfl⟩ : ∃ r : Nat, r ≤ 5 ∧ reader = nI r := has_r hn c1
      have hl : lv_has ls 4 [(0, .ref nx), (1, .int (nI (r))), (2, .int what)] := hl
      have htr : tn (nI r) = r := tn_nI hh_r
      have hrn : r < n := rd_lt hn hh_r c1
      refine lv_aload_n hx hb dX11_toDeny_21 rfl (lv_at hl 0 rfl) ?_
      refine va_get (D := D) (ci := 10) (v := .ref (fa 0)) (C := RX11) (T := TX11) (N := 11) hx hb hts u_X11_toDeny_X11 hown hK.1 hP 0 rfl rfl 8 (by decide) (hts (.fieldLink RX11 50 "NoticeWeek" "foresight" "LNoticeWeek$Foresight;") (List.mem_of_getElem? (i := 3) rfl)) (fun _ h9 => h9) rfl dX11_toDeny_22 ?_
      refine lv_aload_n hx hb dX11_toDeny_25 rfl (lv_at hl 0 rfl) ?_
      refine va_get (D := D) (ci := 10) (v := .ref (ta 0)) (C := RX11) (T := TX11) (N := 11) hx hb hts u_X11_toDeny_X11 hown hK.1 hP 0 rfl rfl 2 (by decide) (hts (.fieldLink RX11 26 "NoticeWeek" "town" "LNoticeWeek$Town;") (List.mem_of_getElem? (i := 1) rfl)) (fun _ h9 => h9) rfl dX11_toDeny_26 ?_
      refine lv_iload_n hx hb dX11_toDeny_29 rfl (lv_at hl 1 rfl) ?_
      refine b_call (va_runV (As := [.ref (ta 0), .int (nI (r))]) (rest := []) ⟨hx, hb, hml, hown, hts⟩ (c_X2_deedsToDeny l D cI cZ cT ta st dy ln (nI n) kd dd nt lf fa co wy r (by omega) (hA r hrn).1 (hA r hrn).2) (cwV 2 hts gX11_toDeny_X2_deedsToDeny rfl rfl rfl (by decide +kernel) ⟨(Nat.le_of_ble_eq_true rfl), (Nat.le_of_ble_eq_true rfl)⟩) (b_pV hK hP [1, 2, 3, 4, 5, 6, 7, 8, 9, 10, 11, 12, 13] rfl 6 rfl rfl) rfl rfl hl.1 rfl (lv_room (Nat.le_of_ble_eq_true rfl)) dX11_toDeny_30 ⟨Nat.zero_le _, Nat.zero_le _⟩).run ?_
      refine lv_topi (fun x3 ex3 => ?_)
      refine lv_istore_n (lv' := [(3, .int x3), (0, .ref nx), (1, .int (nI (r))), (2, .int what)]) hx hb dX11_toDeny_33 rfl hl (by decide) rfl (fun ls hl => ?_)
      subst ex3
      have hl : lv_has ls 4 [(3, .int (dyE (kd r) dy (dd r) (nt r) (qE lf r))), (0, .ref nx), (1, .int (nI (r))), (2, .int what)] := hl
      refine lv_iload_n hx hb dX11_toDeny_34 rfl (lv_at hl 0 rfl) ?_
      refine lv_ldc (v := (-1000000)) hx hb hown (hts (.constant RX11 207 (-1000000)) (List.mem_of_getElem? (i := 4) rfl)) dX11_toDeny_35 ?_
      refine lv_icmp_eq (tgt := 45) hx hb dX11_toDeny_37 (by decide) (fun c4 => ?_) (fun c4 => ?_)
      · refine lv_iload_n hx hb dX11_toDeny_45 rfl (lv_at hl 0 rfl) ?_
        refine lv_goto (tgt := 53) hx hb dX11_toDeny_46 (by decide) ?_
        exact b_ret hx hb hr (by first | (simp only [x_toDeny, eq_true c1, eq_true c2, eq_true c4, htr, bI, not_true_eq_false, not_false_eq_true, ite_true, ite_false, if_true, if_false, and_self, and_true, true_and, false_and, and_false, or_true, true_or, or_false, false_or, eq_self]; done) | (simp [x_toDeny, eq_true c1, eq_true c2, eq_true c4, htr, bI]; done)) dX11_toDeny_53 hlocks
      · refine lv_iload_n hx hb dX11_toDeny_40 rfl (lv_at hl 3 rfl) ?_
        refine lv_iconst (v := 1) hx hb dX11_toDeny_41 (by decide) ?_
        refine lv_icmp_ne (tgt := 49) hx hb dX11_toDeny_42 (by decide) (fun c5 => ?_) (fun c5 => ?_)
        · refine lv_iload_n hx hb dX11_toDeny_49 rfl (lv_at hl 0 rfl) ?_
          refine b_call (va_runS (As := [.int (dyE (kd r) dy (dd r) (nt r) (qE lf r))]) (rest := []) ⟨hx, hb, hml, hown, hts⟩ (c_J6_bitCount_0f7a4 l D cI cZ cT (dyE (kd r) dy (dd r) (nt r) (qE lf r))) (va_cwS 1 hts gX11_toDeny_J6_bitCount_0f7a4 rfl rfl rfl (by decide +kernel) ⟨(Nat.le_of_ble_eq_true rfl), (Nat.le_of_ble_eq_true rfl)⟩) (b_pS0 hK) rfl rfl hl.1 rfl (lv_room (Nat.le_of_ble_eq_true rfl)) dX11_toDeny_50 ⟨Nat.zero_le _, Nat.zero_le _⟩).run ?_
          exact b_ret hx hb hr (by first | (simp only [x_toDeny, eq_true c1, eq_true c2, eq_false c4, eq_false c5, htr, bI, not_true_eq_false, not_false_eq_true, ite_true, ite_false, if_true, if_false, and_self, and_true, true_and, false_and, and_false, or_true, true_or, or_false, false_or, eq_self]; done) | (simp [x_toDeny, eq_true c1, eq_true c2, eq_false c4, eq_false c5, htr, bI]; done)) dX11_toDeny_53 hlocks
        · refine lv_iload_n hx hb dX11_toDeny_45 rfl (lv_at hl 0 rfl) ?_
          refine lv_goto (tgt := 53) hx hb dX11_toDeny_46 (by decide) ?_
          exact b_ret hx hb hr (by first | (simp only [x_toDeny, eq_true c1, eq_true c2, eq_false c4, eq_true c5, htr, bI, not_true_eq_false, not_false_eq_true, ite_true, ite_false, if_true, if_false, and_self, and_true, true_and, false_and, and_false, or_true, true_or, or_false, false_or, eq_self]; done) | (simp [x_toDeny, eq_true c1, eq_true c2, eq_false c4, eq_true c5, htr, bI]; done)) dX11_toDeny_53 hlocks
    · refine lv_ldc (v := (-1000001)) hx hb hown (hts (.constant RX11 71 (-1000001)) (List.mem_of_getElem? (i := 2) rfl)) dX11_toDeny_18 ?_
      exact b_ret hx hb hr (by first | (simp only [x_toDeny, eq_true c1, eq_false c2, bI, not_true_eq_false, not_false_eq_true, ite_true, ite_false, if_true, if_false, and_self, and_true, true_and, false_and, and_false, or_true, true_or, or_false, false_or, eq_self]; done) | (simp [x_toDeny, eq_true c1, eq_false c2, bI]; done)) dX11_toDeny_20 hlocks
theorem u_X11_print_X11 : ∀ w ∈ wsX110, w ∈ wsX11_print := fun _ h => List.mem_cons_of_mem _ (List.mem_append_left _ (List.mem_append_right _ h))
theorem u_X11_print_X8 : ∀ w ∈ wsX80, w ∈ wsX11_print := fun _ h => List.mem_cons_of_mem _ (List.mem_append_right _ h)
set_option maxHeartbeats 1000000 in
set_option maxRecDepth 100000 in
theorem c_X11_print (l : Launch) (D : va_G) (cI cZ cT : ClassId) (nx : Nat) (ra pa ta da : Nat → Nat) (ia xa : Nat) (fa za : Nat → Nat) (un na fi st dy ln : Int32) (n : Nat) (kd dd nt lf : Nat → Int32) (what : Int32) (hn : n ≤ 6) : Met l yX11_print wsX11_print ({ frames := 4, cells := 0, slots := 0, locals := 88 }) (pR D cI cZ cT [.ref nx, .int what] (wNW nx ra pa ta da ia xa fa za un na fi ++ wTown cI ta st dy ln (nI n) kd dd nt lf)) (QcRead (x_print st ln n dd nt what)) 0 0 (fun _ => False) := by
  refine Met.ofW (cc := cX11_print) (maxL := 3) (ret := (some .int)) (by decide) rfl ?_
  intro p e s m args below meth c s₁ B hml hv
  obtain ⟨rfl, hP, hK⟩ := hv
  have hx := B.exec
  have hb := B.bytes
  have hr := B.returns
  have hts := atoms_spec (ws := wsX11_print) B.pre
  have hown : s.vm.findClass RX11 = some m.cls := findClass_of_methodNamed B.named
  have hlocks := B.notSynchronized
  have hl := lv_entry ([.ref nx, .int what]) (n := 3) (Nat.le_of_ble_eq_true rfl)
  rw [lg_entry_eq]
  generalize (lg_sl ([.ref nx, .int what]) ++ List.replicate (3 - (lg_sl ([.ref nx, .int what])).length) Slot.unset).toArray = ls at hl ⊢
  have hl : lv_has ls 3 [(0, .ref nx), (1, .int what)] := hl
  refine lv_aload_n hx hb dX11_print_0 rfl (lv_at hl 0 rfl) ?_
  refine va_get (D := D) (ci := 10) (v := .ref (ta 0)) (C := RX11) (T := TX11) (N := 11) hx hb hts u_X11_print_X11 hown hK.1 hP 0 rfl rfl 2 (by decide) (hts (.fieldLink RX11 26 "NoticeWeek" "town" "LNoticeWeek$Town;") (List.mem_of_getElem? (i := 1) rfl)) (fun _ h9 => h9) rfl dX11_print_1 ?_
  refine va_get (D := D) (ci := 7) (v := .int st) (C := RX8) (T := TX8) (N := 8) hx hb hts u_X11_print_X8 hown hK.1 hP 1 rfl rfl 0 (by decide) (hts (.fieldLink RX11 137 "NoticeWeek$Town" "stands" "Z") (List.mem_of_getElem? (i := 2) rfl)) (fun _ h9 => h9) rfl dX11_print_4 ?_
  refine lv_if_ne (tgt := 13) hx hb dX11_print_7 (by decide) (fun c1 => ?_) (fun c1 => ?_)
  · refine lv_iload_n hx hb dX11_print_13 rfl (lv_at hl 1 rfl) ?_
    refine b_call (va_runS (As := [.int what]) (rest := []) ⟨hx, hb, hml, hown, hts⟩ (c_X11_isChoice l D cI cZ cT what) (va_cwS 1 hts gX11_print_X11_isChoice rfl rfl rfl (by decide +kernel) ⟨(Nat.le_of_ble_eq_true rfl), (Nat.le_of_ble_eq_true rfl)⟩) (b_pS0 hK) rfl rfl hl.1 rfl (lv_room (Nat.le_of_ble_eq_true rfl)) dX11_print_14 ⟨Nat.zero_le _, Nat.zero_le _⟩).run ?_
    refine b_ifne (tgt := 23) hx hb dX11_print_17 (by decide) (fun c2 => ?_) (fun c2 => ?_)
    · refine lv_aload_n hx hb dX11_print_23 rfl (lv_at hl 0 rfl) ?_
      refine va_get (D := D) (ci := 10) (v := .ref (ta 0)) (C := RX11) (T := TX11) (N := 11) hx hb hts u_X11_print_X11 hown hK.1 hP 0 rfl rfl 2 (by decide) (hts (.fieldLink RX11 26 "NoticeWeek" "town" "LNoticeWeek$Town;") (List.mem_of_getElem? (i := 1) rfl)) (fun _ h9 => h9) rfl dX11_print_24 ?_
      refine b_call (va_runV (As := []) (rest := []) ⟨hx, hb, hml, hown, hts⟩ (c_X8_readersToPrint l D cI cZ cT ta st dy ln n kd dd nt lf hn) (cwV 0 hts gX11_print_X8_readersToPrint rfl rfl rfl (by decide +kernel) ⟨(Nat.le_of_ble_eq_true rfl), (Nat.le_of_ble_eq_true rfl)⟩) (b_pV hK hP [1, 2, 3, 4, 5] rfl 1 rfl rfl) rfl rfl hl.1 rfl (lv_room (Nat.le_of_ble_eq_true rfl)) dX11_print_27 ⟨Nat.zero_le _, Nat.zero_le _⟩).run ?_
      refine lv_topi (fun x3 ex3 => ?_)
      refine lv_istore_n (lv' := [(2, .int x3), (0, .ref nx), (1, .int what)]) hx hb dX11_print_30 rfl hl (by decide) rfl (fun ls hl => ?_)
      subst ex3
      have hl : lv_has ls 3 [(2, .int (rpE ln dd nt n)), (0, .ref nx), (1, .int what)] := hl
      refine lv_iload_n hx hb dX11_print_31 rfl (lv_at hl 2 rfl) ?_
      refine lv_iconst (v := 1) hx hb dX11_print_32 (by decide) ?_
      refine lv_icmp_ne (tgt := 40) hx hb dX11_print_33 (by decide) (fun c4 => ?_) (fun c4 => ?_)
      · refine lv_aload_n hx hb dX11_print_40 rfl (lv_at hl 1 rfl) ?_
        refine va_get (D := D) (ci := 10) (v := .ref (ta 0)) (C := RX11) (T := TX11) (N := 11) hx hb hts u_X11_print_X11 hown hK.1 hP 0 rfl rfl 2 (by decide) (hts (.fieldLink RX11 26 "NoticeWeek" "town" "LNoticeWeek$Town;") (List.mem_of_getElem? (i := 1) rfl)) (fun _ h9 => h9) rfl dX11_print_41 ?_
        refine lv_iload_n hx hb dX11_print_44 rfl (lv_at hl 0 rfl) ?_
        refine b_call (va_runV (As := [.int (rpE ln dd nt n)]) (rest := []) ⟨hx, hb, hml, hown, hts⟩ (c_X8_deedsPrinted l D cI cZ cT ta st dy ln n kd dd nt lf (rpE ln dd nt n) hn) (cwV 1 hts gX11_print_X8_deedsPrinted rfl rfl rfl (by decide +kernel) ⟨(Nat.le_of_ble_eq_true rfl), (Nat.le_of_ble_eq_true rfl)⟩) (b_pV hK hP [1, 2, 3, 4, 5] rfl 1 rfl rfl) rfl rfl hl.1 rfl (lv_room (Nat.le_of_ble_eq_true rfl)) dX11_print_45 ⟨Nat.zero_le _, Nat.zero_le _⟩).run ?_
        exact b_ret hx hb hr (by first | (simp only [x_print, eq_false c1, eq_true c2, eq_false c4, bI, not_true_eq_false, not_false_eq_true, ite_true, ite_false, if_true, if_false, and_self, and_true, true_and, false_and, and_false, or_true, true_or, or_false, false_or, eq_self]; done) | (simp [x_print, eq_false c1, eq_true c2, eq_false c4, bI]; done)) dX11_print_48 hlocks
      · refine lv_iload_n hx hb dX11_print_36 rfl (lv_at hl 0 rfl) ?_
        refine lv_goto (tgt := 48) hx hb dX11_print_37 (by decide) ?_
        exact b_ret hx hb hr (by first | (simp only [x_print, eq_false c1, eq_true c2, eq_true c4, bI, not_true_eq_false, not_false_eq_true, ite_true, ite_false, if_true, if_false, and_self, and_true, true_and, false_and, and_false, or_true, true_or, or_false, false_or, eq_self]; done) | (simp [x_print, eq_false c1, eq_true c2, eq_true c4, bI]; done)) dX11_print_48 hlocks
    · refine lv_ldc (v := (-1000001)) hx hb hown (hts (.constant RX11 71 (-1000001)) (List.mem_of_getElem? (i := 4) rfl)) dX11_print_20 ?_
      exact b_ret hx hb hr (by first | (simp only [x_print, eq_false c1, eq_false c2, bI, not_true_eq_false, not_false_eq_true, ite_true, ite_false, if_true, if_false, and_self, and_true, true_and, false_and, and_false, or_true, true_or, or_false, false_or, eq_self]; done) | (simp [x_print, eq_false c1, eq_false c2, bI]; done)) dX11_print_22 hlocks
  · refine lv_ldc (v := (-1000002)) hx hb hown (hts (.constant RX11 141 (-1000002)) (List.mem_of_getElem? (i := 3) rfl)) dX11_print_10 ?_
    exact b_ret hx hb hr (by first | (simp only [x_print, eq_true c1, bI, not_true_eq_false, not_false_eq_true, ite_true, ite_false, if_true, if_false, and_self, and_true, true_and, false_and, and_false, or_true, true_or, or_false, false_or, eq_self]; done) | (simp [x_print, eq_true c1, bI]; done)) dX11_print_12 hlocks
theorem u_X11_kind_X11 : ∀ w ∈ wsX110, w ∈ wsX11_kind := fun _ h => List.mem_cons_of_mem _ (List.mem_append_left _ (List.mem_append_right _ h))
theorem u_X11_kind_X8 : ∀ w ∈ wsX80, w ∈ wsX11_kind := fun _ h => List.mem_cons_of_mem _ (List.mem_append_right _ h)
set_option maxHeartbeats 1000000 in
set_option maxRecDepth 100000 in
theorem c_X11_kind (l : Launch) (D : va_G) (cI cZ cT : ClassId) (nx : Nat) (ra pa ta da : Nat → Nat) (ia xa : Nat) (fa za : Nat → Nat) (un na fi st dy ln : Int32) (n : Nat) (kd dd nt lf : Nat → Int32) (reader : Int32) (hn : n ≤ 6) : Met l yX11_kind wsX11_kind ({ frames := 1, cells := 0, slots := 0, locals := 21 }) (pR D cI cZ cT [.ref nx, .int reader] (wNW nx ra pa ta da ia xa fa za un na fi ++ wTown cI ta st dy ln (nI n) kd dd nt lf)) (QcRead (x_kind n kd reader)) 0 0 (fun _ => False) := by
  refine Met.ofW (cc := cX11_kind) (maxL := 2) (ret := (some .int)) (by decide) rfl ?_
  intro p e s m args below meth c s₁ B hml hv
  obtain ⟨rfl, hP, hK⟩ := hv
  have hx := B.exec
  have hb := B.bytes
  have hr := B.returns
  have hts := atoms_spec (ws := wsX11_kind) B.pre
  have hown : s.vm.findClass RX11 = some m.cls := findClass_of_methodNamed B.named
  have hlocks := B.notSynchronized
  have hl := lv_entry ([.ref nx, .int reader]) (n := 2) (Nat.le_of_ble_eq_true rfl)
  rw [lg_entry_eq]
  generalize (lg_sl ([.ref nx, .int reader]) ++ List.replicate (2 - (lg_sl ([.ref nx, .int reader])).length) Slot.unset).toArray = ls at hl ⊢
  have hl : lv_has ls 2 [(0, .ref nx), (1, .int reader)] := hl
  refine lv_aload_n hx hb dX11_kind_0 rfl (lv_at hl 0 rfl) ?_
  refine va_get (D := D) (ci := 10) (v := .ref (ta 0)) (C := RX11) (T := TX11) (N := 11) hx hb hts u_X11_kind_X11 hown hK.1 hP 0 rfl rfl 2 (by decide) (hts (.fieldLink RX11 26 "NoticeWeek" "town" "LNoticeWeek$Town;") (List.mem_of_getElem? (i := 1) rfl)) (fun _ h9 => h9) rfl dX11_kind_1 ?_
  refine lv_iload_n hx hb dX11_kind_4 rfl (lv_at hl 1 rfl) ?_
  refine b_call (va_runV (As := [.int reader]) (rest := []) ⟨hx, hb, hml, hown, hts⟩ (c_X8_has l D cI cZ cT ta st dy ln (nI n) kd dd nt lf reader) (cwV 1 hts gX11_kind_X8_has rfl rfl rfl (by decide +kernel) ⟨(Nat.le_of_ble_eq_true rfl), (Nat.le_of_ble_eq_true rfl)⟩) (b_pV hK hP [1, 2, 3, 4, 5] rfl 1 rfl rfl) rfl rfl hl.1 rfl (lv_room (Nat.le_of_ble_eq_true rfl)) dX11_kind_5 ⟨Nat.zero_le _, Nat.zero_le _⟩).run ?_
  refine b_ifeq (tgt := 23) hx hb dX11_kind_8 (by decide) (fun c1 => ?_) (fun c1 => ?_)
  · refine lv_ldc (v := (-1000001)) hx hb hown (hts (.constant RX11 71 (-1000001)) (List.mem_of_getElem? (i := 3) rfl)) dX11_kind_23 ?_
    exact b_ret hx hb hr (by first | (simp only [x_kind, eq_false c1, bI, not_true_eq_false, not_false_eq_true, ite_true, ite_false, if_true, if_false, and_self, and_true, true_and, false_and, and_false, or_true, true_or, or_false, false_or, eq_self]; done) | (simp [x_kind, eq_false c1, bI]; done)) dX11_kind_25 hlocks
  · obtain ⟨r, hh_r, rfl⟩ : ∃ r : Nat, r ≤ 5 ∧ reader = nI r := has_r hn c1
    have hl : lv_has ls 2 [(0, .ref nx), (1, .int (nI (r)))] := hl
    have htr : tn (nI r) = r := tn_nI hh_r
    have hrn : r < n := rd_lt hn hh_r c1
    refine lv_aload_n hx hb dX11_kind_11 rfl (lv_at hl 0 rfl) ?_
    refine va_get (D := D) (ci := 10) (v := .ref (ta 0)) (C := RX11) (T := TX11) (N := 11) hx hb hts u_X11_kind_X11 hown hK.1 hP 0 rfl rfl 2 (by decide) (hts (.fieldLink RX11 26 "NoticeWeek" "town" "LNoticeWeek$Town;") (List.mem_of_getElem? (i := 1) rfl)) (fun _ h9 => h9) rfl dX11_kind_12 ?_
    refine va_get (D := D) (ci := 7) (v := .ref (ta 1)) (C := RX8) (T := TX8) (N := 8) hx hb hts u_X11_kind_X8 hown hK.1 hP 1 rfl rfl 4 (by decide) (hts (.fieldLink RX11 242 "NoticeWeek$Town" "kind" "[I") (List.mem_of_getElem? (i := 2) rfl)) (fun _ h9 => h9) rfl dX11_kind_15 ?_
    refine lv_iload_n hx hb dX11_kind_18 rfl (lv_at hl 1 rfl) ?_
    refine b_ald hx hb hK hP 2 rfl (by omega) (by decide) dX11_kind_19 ?_
    refine lv_goto (tgt := 25) hx hb dX11_kind_20 (by decide) ?_
    exact b_ret hx hb hr (by first | (simp only [x_kind, eq_true c1, htr, bI, not_true_eq_false, not_false_eq_true, ite_true, ite_false, if_true, if_false, and_self, and_true, true_and, false_and, and_false, or_true, true_or, or_false, false_or, eq_self]; done) | (simp [x_kind, eq_true c1, htr, bI]; done)) dX11_kind_25 hlocks
set_option maxHeartbeats 1000000 in
set_option maxRecDepth 100000 in
theorem c_X11_isOfKind_X3 (l : Launch) (D : va_G) (cI cZ cT : ClassId) (xa : Nat) (x : Int32)  : Met l yX11_isOfKind wsX11_isOfKind ({ frames := 0, cells := 0, slots := 0, locals := 0 }) (pR D cI cZ cT [.ref xa, .int x] (wTmp 3 xa)) (QcRead (bI (x = 0 ∨ x = 1))) 0 0 (fun _ => False) := by
  refine Met.ofW (cc := cX11_isOfKind) (maxL := 2) (ret := (some .boolean)) (by decide) rfl ?_
  intro p e s m args below meth c s₁ B hml hv
  obtain ⟨rfl, hP, hK⟩ := hv
  have hx := B.exec
  have hb := B.bytes
  have hr := B.returns
  have hts := atoms_spec (ws := wsX11_isOfKind) B.pre
  have hown : s.vm.findClass RX11 = some m.cls := findClass_of_methodNamed B.named
  have hlocks := B.notSynchronized
  have hl := lv_entry ([.ref xa, .int x]) (n := 2) (Nat.le_of_ble_eq_true rfl)
  rw [lg_entry_eq]
  generalize (lg_sl ([.ref xa, .int x]) ++ List.replicate (2 - (lg_sl ([.ref xa, .int x])).length) Slot.unset).toArray = ls at hl ⊢
  have hl : lv_has ls 2 [(0, .ref xa), (1, .int x)] := hl
  refine lv_iload_n hx hb dX11_isOfKind_0 rfl (lv_at hl 1 rfl) ?_
  by_cases c1 : x = 0
  · refine lv_tableIn (tgt := 40) hx hb dX11_isOfKind_1 (by rw [c1]; decide) (by rw [c1]; decide) (off := 39) (by rw [c1]; decide) (by decide) ?_
    refine lv_iconst (v := 1) hx hb dX11_isOfKind_40 (by decide) ?_
    exact b_zret hx hb hr (by unfold bI; rw [c1]; decide) dX11_isOfKind_41 hlocks
  by_cases c2 : x = 1
  · refine lv_tableIn (tgt := 42) hx hb dX11_isOfKind_1 (by rw [c2]; decide) (by rw [c2]; decide) (off := 41) (by rw [c2]; decide) (by decide) ?_
    refine lv_aload_n hx hb dX11_isOfKind_42 rfl (lv_at hl 0 rfl) ?_
    refine va_instS hx hb hown (hts (.classLink RX11 293 RX3) (List.mem_of_getElem? (i := 1) rfl)) (hK.1.1 3 _ rfl).2 (va_recv hK.1 hP (ci := 3) (q0 := 0) rfl rfl) dX11_isOfKind_43 ?_
    exact b_zret hx hb hr (by unfold bI; rw [c2]; decide) dX11_isOfKind_46 hlocks
  by_cases c3 : x = 2
  · refine lv_tableIn (tgt := 47) hx hb dX11_isOfKind_1 (by rw [c3]; decide) (by rw [c3]; decide) (off := 46) (by rw [c3]; decide) (by decide) ?_
    refine lv_aload_n hx hb dX11_isOfKind_47 rfl (lv_at hl 0 rfl) ?_
    refine va_instNo (C := RX3) hx hb hown (hts (.classLink RX11 295 RX10) (List.mem_of_getElem? (i := 2) rfl)) (hK.2.2.2.2.1 _ (List.mem_of_getElem? (i := 2) rfl)) (va_recv hK.1 hP (ci := 3) (q0 := 0) rfl rfl) dX11_isOfKind_48 ?_
    exact b_zret hx hb hr (by unfold bI; rw [c3]; decide) dX11_isOfKind_51 hlocks
  by_cases c4 : x = 3
  · refine lv_tableIn (tgt := 52) hx hb dX11_isOfKind_1 (by rw [c4]; decide) (by rw [c4]; decide) (off := 51) (by rw [c4]; decide) (by decide) ?_
    refine lv_aload_n hx hb dX11_isOfKind_52 rfl (lv_at hl 0 rfl) ?_
    refine va_instNo (C := RX3) hx hb hown (hts (.classLink RX11 297 RX5) (List.mem_of_getElem? (i := 3) rfl)) (hK.2.2.2.2.1 _ (List.mem_of_getElem? (i := 6) rfl)) (va_recv hK.1 hP (ci := 3) (q0 := 0) rfl rfl) dX11_isOfKind_53 ?_
    exact b_zret hx hb hr (by unfold bI; rw [c4]; decide) dX11_isOfKind_56 hlocks
  by_cases c5 : x = 4
  · refine lv_tableIn (tgt := 57) hx hb dX11_isOfKind_1 (by rw [c5]; decide) (by rw [c5]; decide) (off := 56) (by rw [c5]; decide) (by decide) ?_
    refine lv_aload_n hx hb dX11_isOfKind_57 rfl (lv_at hl 0 rfl) ?_
    refine va_instNo (C := RX3) hx hb hown (hts (.classLink RX11 299 RX1) (List.mem_of_getElem? (i := 4) rfl)) (hK.2.2.2.2.1 _ (List.mem_of_getElem? (i := 10) rfl)) (va_recv hK.1 hP (ci := 3) (q0 := 0) rfl rfl) dX11_isOfKind_58 ?_
    exact b_zret hx hb hr (by unfold bI; rw [c5]; decide) dX11_isOfKind_61 hlocks
  by_cases c6 : x = 5
  · refine lv_tableIn (tgt := 62) hx hb dX11_isOfKind_1 (by rw [c6]; decide) (by rw [c6]; decide) (off := 61) (by rw [c6]; decide) (by decide) ?_
    refine lv_aload_n hx hb dX11_isOfKind_62 rfl (lv_at hl 0 rfl) ?_
    refine va_instNo (C := RX3) hx hb hown (hts (.classLink RX11 301 RX0) (List.mem_of_getElem? (i := 5) rfl)) (hK.2.2.2.2.1 _ (List.mem_of_getElem? (i := 13) rfl)) (va_recv hK.1 hP (ci := 3) (q0 := 0) rfl rfl) dX11_isOfKind_63 ?_
    exact b_zret hx hb hr (by unfold bI; rw [c6]; decide) dX11_isOfKind_66 hlocks
  refine lv_tableOut (tgt := 67) hx hb dX11_isOfKind_1 (sw_out0_5 c1 c2 c3 c4 c5 c6) (by decide) ?_
  refine lv_iconst (v := 0) hx hb dX11_isOfKind_67 (by decide) ?_
  exact b_zret hx hb hr (by unfold bI; rw [if_neg]; simp only [eq_false c1, eq_false c2, eq_false c3, eq_false c4, eq_false c5, eq_false c6, or_self, or_false, false_or, not_false_eq_true]) dX11_isOfKind_68 hlocks
set_option maxHeartbeats 1000000 in
set_option maxRecDepth 100000 in
theorem c_X11_isOfKind_X10 (l : Launch) (D : va_G) (cI cZ cT : ClassId) (xa : Nat) (x : Int32)  : Met l yX11_isOfKind wsX11_isOfKind ({ frames := 0, cells := 0, slots := 0, locals := 0 }) (pR D cI cZ cT [.ref xa, .int x] (wTmp 9 xa)) (QcRead (bI (x = 0 ∨ x = 1 ∨ x = 2))) 0 0 (fun _ => False) := by
  refine Met.ofW (cc := cX11_isOfKind) (maxL := 2) (ret := (some .boolean)) (by decide) rfl ?_
  intro p e s m args below meth c s₁ B hml hv
  obtain ⟨rfl, hP, hK⟩ := hv
  have hx := B.exec
  have hb := B.bytes
  have hr := B.returns
  have hts := atoms_spec (ws := wsX11_isOfKind) B.pre
  have hown : s.vm.findClass RX11 = some m.cls := findClass_of_methodNamed B.named
  have hlocks := B.notSynchronized
  have hl := lv_entry ([.ref xa, .int x]) (n := 2) (Nat.le_of_ble_eq_true rfl)
  rw [lg_entry_eq]
  generalize (lg_sl ([.ref xa, .int x]) ++ List.replicate (2 - (lg_sl ([.ref xa, .int x])).length) Slot.unset).toArray = ls at hl ⊢
  have hl : lv_has ls 2 [(0, .ref xa), (1, .int x)] := hl
  refine lv_iload_n hx hb dX11_isOfKind_0 rfl (lv_at hl 1 rfl) ?_
  by_cases c1 : x = 0
  · refine lv_tableIn (tgt := 40) hx hb dX11_isOfKind_1 (by rw [c1]; decide) (by rw [c1]; decide) (off := 39) (by rw [c1]; decide) (by decide) ?_
    refine lv_iconst (v := 1) hx hb dX11_isOfKind_40 (by decide) ?_
    exact b_zret hx hb hr (by unfold bI; rw [c1]; decide) dX11_isOfKind_41 hlocks
  by_cases c2 : x = 1
  · refine lv_tableIn (tgt := 42) hx hb dX11_isOfKind_1 (by rw [c2]; decide) (by rw [c2]; decide) (off := 41) (by rw [c2]; decide) (by decide) ?_
    refine lv_aload_n hx hb dX11_isOfKind_42 rfl (lv_at hl 0 rfl) ?_
    refine va_instY (C := RX10) hx hb hown (hts (.classLink RX11 293 RX3) (List.mem_of_getElem? (i := 1) rfl)) (hK.2.2.2.1 _ (List.mem_of_getElem? (i := 1) rfl)) (va_recv hK.1 hP (ci := 9) (q0 := 0) rfl rfl) dX11_isOfKind_43 ?_
    exact b_zret hx hb hr (by unfold bI; rw [c2]; decide) dX11_isOfKind_46 hlocks
  by_cases c3 : x = 2
  · refine lv_tableIn (tgt := 47) hx hb dX11_isOfKind_1 (by rw [c3]; decide) (by rw [c3]; decide) (off := 46) (by rw [c3]; decide) (by decide) ?_
    refine lv_aload_n hx hb dX11_isOfKind_47 rfl (lv_at hl 0 rfl) ?_
    refine va_instS hx hb hown (hts (.classLink RX11 295 RX10) (List.mem_of_getElem? (i := 2) rfl)) (hK.1.1 9 _ rfl).2 (va_recv hK.1 hP (ci := 9) (q0 := 0) rfl rfl) dX11_isOfKind_48 ?_
    exact b_zret hx hb hr (by unfold bI; rw [c3]; decide) dX11_isOfKind_51 hlocks
  by_cases c4 : x = 3
  · refine lv_tableIn (tgt := 52) hx hb dX11_isOfKind_1 (by rw [c4]; decide) (by rw [c4]; decide) (off := 51) (by rw [c4]; decide) (by decide) ?_
    refine lv_aload_n hx hb dX11_isOfKind_52 rfl (lv_at hl 0 rfl) ?_
    refine va_instNo (C := RX10) hx hb hown (hts (.classLink RX11 297 RX5) (List.mem_of_getElem? (i := 3) rfl)) (hK.2.2.2.2.1 _ (List.mem_of_getElem? (i := 7) rfl)) (va_recv hK.1 hP (ci := 9) (q0 := 0) rfl rfl) dX11_isOfKind_53 ?_
    exact b_zret hx hb hr (by unfold bI; rw [c4]; decide) dX11_isOfKind_56 hlocks
  by_cases c5 : x = 4
  · refine lv_tableIn (tgt := 57) hx hb dX11_isOfKind_1 (by rw [c5]; decide) (by rw [c5]; decide) (off := 56) (by rw [c5]; decide) (by decide) ?_
    refine lv_aload_n hx hb dX11_isOfKind_57 rfl (lv_at hl 0 rfl) ?_
    refine va_instNo (C := RX10) hx hb hown (hts (.classLink RX11 299 RX1) (List.mem_of_getElem? (i := 4) rfl)) (hK.2.2.2.2.1 _ (List.mem_of_getElem? (i := 11) rfl)) (va_recv hK.1 hP (ci := 9) (q0 := 0) rfl rfl) dX11_isOfKind_58 ?_
    exact b_zret hx hb hr (by unfold bI; rw [c5]; decide) dX11_isOfKind_61 hlocks
  by_cases c6 : x = 5
  · refine lv_tableIn (tgt := 62) hx hb dX11_isOfKind_1 (by rw [c6]; decide) (by rw [c6]; decide) (off := 61) (by rw [c6]; decide) (by decide) ?_
    refine lv_aload_n hx hb dX11_isOfKind_62 rfl (lv_at hl 0 rfl) ?_
    refine va_instNo (C := RX10) hx hb hown (hts (.classLink RX11 301 RX0) (List.mem_of_getElem? (i := 5) rfl)) (hK.2.2.2.2.1 _ (List.mem_of_getElem? (i := 14) rfl)) (va_recv hK.1 hP (ci := 9) (q0 := 0) rfl rfl) dX11_isOfKind_63 ?_
    exact b_zret hx hb hr (by unfold bI; rw [c6]; decide) dX11_isOfKind_66 hlocks
  refine lv_tableOut (tgt := 67) hx hb dX11_isOfKind_1 (sw_out0_5 c1 c2 c3 c4 c5 c6) (by decide) ?_
  refine lv_iconst (v := 0) hx hb dX11_isOfKind_67 (by decide) ?_
  exact b_zret hx hb hr (by unfold bI; rw [if_neg]; simp only [eq_false c1, eq_false c2, eq_false c3, eq_false c4, eq_false c5, eq_false c6, or_self, or_false, false_or, not_false_eq_true]) dX11_isOfKind_68 hlocks
set_option maxHeartbeats 1000000 in
set_option maxRecDepth 100000 in
theorem c_X11_isOfKind_X5 (l : Launch) (D : va_G) (cI cZ cT : ClassId) (xa : Nat) (x : Int32)  : Met l yX11_isOfKind wsX11_isOfKind ({ frames := 0, cells := 0, slots := 0, locals := 0 }) (pR D cI cZ cT [.ref xa, .int x] (wTmp 5 xa)) (QcRead (bI (x = 0 ∨ x = 1 ∨ x = 3))) 0 0 (fun _ => False) := by
  refine Met.ofW (cc := cX11_isOfKind) (maxL := 2) (ret := (some .boolean)) (by decide) rfl ?_
  intro p e s m args below meth c s₁ B hml hv
  obtain ⟨rfl, hP, hK⟩ := hv
  have hx := B.exec
  have hb := B.bytes
  have hr := B.returns
  have hts := atoms_spec (ws := wsX11_isOfKind) B.pre
  have hown : s.vm.findClass RX11 = some m.cls := findClass_of_methodNamed B.named
  have hlocks := B.notSynchronized
  have hl := lv_entry ([.ref xa, .int x]) (n := 2) (Nat.le_of_ble_eq_true rfl)
  rw [lg_entry_eq]
  generalize (lg_sl ([.ref xa, .int x]) ++ List.replicate (2 - (lg_sl ([.ref xa, .int x])).length) Slot.unset).toArray = ls at hl ⊢
  have hl : lv_has ls 2 [(0, .ref xa), (1, .int x)] := hl
  refine lv_iload_n hx hb dX11_isOfKind_0 rfl (lv_at hl 1 rfl) ?_
  by_cases c1 : x = 0
  · refine lv_tableIn (tgt := 40) hx hb dX11_isOfKind_1 (by rw [c1]; decide) (by rw [c1]; decide) (off := 39) (by rw [c1]; decide) (by decide) ?_
    refine lv_iconst (v := 1) hx hb dX11_isOfKind_40 (by decide) ?_
    exact b_zret hx hb hr (by unfold bI; rw [c1]; decide) dX11_isOfKind_41 hlocks
  by_cases c2 : x = 1
  · refine lv_tableIn (tgt := 42) hx hb dX11_isOfKind_1 (by rw [c2]; decide) (by rw [c2]; decide) (off := 41) (by rw [c2]; decide) (by decide) ?_
    refine lv_aload_n hx hb dX11_isOfKind_42 rfl (lv_at hl 0 rfl) ?_
    refine va_instY (C := RX5) hx hb hown (hts (.classLink RX11 293 RX3) (List.mem_of_getElem? (i := 1) rfl)) (hK.2.2.2.1 _ (List.mem_of_getElem? (i := 0) rfl)) (va_recv hK.1 hP (ci := 5) (q0 := 0) rfl rfl) dX11_isOfKind_43 ?_
    exact b_zret hx hb hr (by unfold bI; rw [c2]; decide) dX11_isOfKind_46 hlocks
  by_cases c3 : x = 2
  · refine lv_tableIn (tgt := 47) hx hb dX11_isOfKind_1 (by rw [c3]; decide) (by rw [c3]; decide) (off := 46) (by rw [c3]; decide) (by decide) ?_
    refine lv_aload_n hx hb dX11_isOfKind_47 rfl (lv_at hl 0 rfl) ?_
    refine va_instNo (C := RX5) hx hb hown (hts (.classLink RX11 295 RX10) (List.mem_of_getElem? (i := 2) rfl)) (hK.2.2.2.2.1 _ (List.mem_of_getElem? (i := 3) rfl)) (va_recv hK.1 hP (ci := 5) (q0 := 0) rfl rfl) dX11_isOfKind_48 ?_
    exact b_zret hx hb hr (by unfold bI; rw [c3]; decide) dX11_isOfKind_51 hlocks
  by_cases c4 : x = 3
  · refine lv_tableIn (tgt := 52) hx hb dX11_isOfKind_1 (by rw [c4]; decide) (by rw [c4]; decide) (off := 51) (by rw [c4]; decide) (by decide) ?_
    refine lv_aload_n hx hb dX11_isOfKind_52 rfl (lv_at hl 0 rfl) ?_
    refine va_instS hx hb hown (hts (.classLink RX11 297 RX5) (List.mem_of_getElem? (i := 3) rfl)) (hK.1.1 5 _ rfl).2 (va_recv hK.1 hP (ci := 5) (q0 := 0) rfl rfl) dX11_isOfKind_53 ?_
    exact b_zret hx hb hr (by unfold bI; rw [c4]; decide) dX11_isOfKind_56 hlocks
  by_cases c5 : x = 4
  · refine lv_tableIn (tgt := 57) hx hb dX11_isOfKind_1 (by rw [c5]; decide) (by rw [c5]; decide) (off := 56) (by rw [c5]; decide) (by decide) ?_
    refine lv_aload_n hx hb dX11_isOfKind_57 rfl (lv_at hl 0 rfl) ?_
    refine va_instNo (C := RX5) hx hb hown (hts (.classLink RX11 299 RX1) (List.mem_of_getElem? (i := 4) rfl)) (hK.2.2.2.2.1 _ (List.mem_of_getElem? (i := 12) rfl)) (va_recv hK.1 hP (ci := 5) (q0 := 0) rfl rfl) dX11_isOfKind_58 ?_
    exact b_zret hx hb hr (by unfold bI; rw [c5]; decide) dX11_isOfKind_61 hlocks
  by_cases c6 : x = 5
  · refine lv_tableIn (tgt := 62) hx hb dX11_isOfKind_1 (by rw [c6]; decide) (by rw [c6]; decide) (off := 61) (by rw [c6]; decide) (by decide) ?_
    refine lv_aload_n hx hb dX11_isOfKind_62 rfl (lv_at hl 0 rfl) ?_
    refine va_instNo (C := RX5) hx hb hown (hts (.classLink RX11 301 RX0) (List.mem_of_getElem? (i := 5) rfl)) (hK.2.2.2.2.1 _ (List.mem_of_getElem? (i := 15) rfl)) (va_recv hK.1 hP (ci := 5) (q0 := 0) rfl rfl) dX11_isOfKind_63 ?_
    exact b_zret hx hb hr (by unfold bI; rw [c6]; decide) dX11_isOfKind_66 hlocks
  refine lv_tableOut (tgt := 67) hx hb dX11_isOfKind_1 (sw_out0_5 c1 c2 c3 c4 c5 c6) (by decide) ?_
  refine lv_iconst (v := 0) hx hb dX11_isOfKind_67 (by decide) ?_
  exact b_zret hx hb hr (by unfold bI; rw [if_neg]; simp only [eq_false c1, eq_false c2, eq_false c3, eq_false c4, eq_false c5, eq_false c6, or_self, or_false, false_or, not_false_eq_true]) dX11_isOfKind_68 hlocks
set_option maxHeartbeats 1000000 in
set_option maxRecDepth 100000 in
theorem c_X11_isOfKind_X1 (l : Launch) (D : va_G) (cI cZ cT : ClassId) (xa : Nat) (x : Int32)  : Met l yX11_isOfKind wsX11_isOfKind ({ frames := 0, cells := 0, slots := 0, locals := 0 }) (pR D cI cZ cT [.ref xa, .int x] (wTmp 1 xa)) (QcRead (bI (x = 0 ∨ x = 4))) 0 0 (fun _ => False) := by
  refine Met.ofW (cc := cX11_isOfKind) (maxL := 2) (ret := (some .boolean)) (by decide) rfl ?_
  intro p e s m args below meth c s₁ B hml hv
  obtain ⟨rfl, hP, hK⟩ := hv
  have hx := B.exec
  have hb := B.bytes
  have hr := B.returns
  have hts := atoms_spec (ws := wsX11_isOfKind) B.pre
  have hown : s.vm.findClass RX11 = some m.cls := findClass_of_methodNamed B.named
  have hlocks := B.notSynchronized
  have hl := lv_entry ([.ref xa, .int x]) (n := 2) (Nat.le_of_ble_eq_true rfl)
  rw [lg_entry_eq]
  generalize (lg_sl ([.ref xa, .int x]) ++ List.replicate (2 - (lg_sl ([.ref xa, .int x])).length) Slot.unset).toArray = ls at hl ⊢
  have hl : lv_has ls 2 [(0, .ref xa), (1, .int x)] := hl
  refine lv_iload_n hx hb dX11_isOfKind_0 rfl (lv_at hl 1 rfl) ?_
  by_cases c1 : x = 0
  · refine lv_tableIn (tgt := 40) hx hb dX11_isOfKind_1 (by rw [c1]; decide) (by rw [c1]; decide) (off := 39) (by rw [c1]; decide) (by decide) ?_
    refine lv_iconst (v := 1) hx hb dX11_isOfKind_40 (by decide) ?_
    exact b_zret hx hb hr (by unfold bI; rw [c1]; decide) dX11_isOfKind_41 hlocks
  by_cases c2 : x = 1
  · refine lv_tableIn (tgt := 42) hx hb dX11_isOfKind_1 (by rw [c2]; decide) (by rw [c2]; decide) (off := 41) (by rw [c2]; decide) (by decide) ?_
    refine lv_aload_n hx hb dX11_isOfKind_42 rfl (lv_at hl 0 rfl) ?_
    refine va_instNo (C := RX1) hx hb hown (hts (.classLink RX11 293 RX3) (List.mem_of_getElem? (i := 1) rfl)) (hK.2.2.2.2.1 _ (List.mem_of_getElem? (i := 0) rfl)) (va_recv hK.1 hP (ci := 1) (q0 := 0) rfl rfl) dX11_isOfKind_43 ?_
    exact b_zret hx hb hr (by unfold bI; rw [c2]; decide) dX11_isOfKind_46 hlocks
  by_cases c3 : x = 2
  · refine lv_tableIn (tgt := 47) hx hb dX11_isOfKind_1 (by rw [c3]; decide) (by rw [c3]; decide) (off := 46) (by rw [c3]; decide) (by decide) ?_
    refine lv_aload_n hx hb dX11_isOfKind_47 rfl (lv_at hl 0 rfl) ?_
    refine va_instNo (C := RX1) hx hb hown (hts (.classLink RX11 295 RX10) (List.mem_of_getElem? (i := 2) rfl)) (hK.2.2.2.2.1 _ (List.mem_of_getElem? (i := 4) rfl)) (va_recv hK.1 hP (ci := 1) (q0 := 0) rfl rfl) dX11_isOfKind_48 ?_
    exact b_zret hx hb hr (by unfold bI; rw [c3]; decide) dX11_isOfKind_51 hlocks
  by_cases c4 : x = 3
  · refine lv_tableIn (tgt := 52) hx hb dX11_isOfKind_1 (by rw [c4]; decide) (by rw [c4]; decide) (off := 51) (by rw [c4]; decide) (by decide) ?_
    refine lv_aload_n hx hb dX11_isOfKind_52 rfl (lv_at hl 0 rfl) ?_
    refine va_instNo (C := RX1) hx hb hown (hts (.classLink RX11 297 RX5) (List.mem_of_getElem? (i := 3) rfl)) (hK.2.2.2.2.1 _ (List.mem_of_getElem? (i := 8) rfl)) (va_recv hK.1 hP (ci := 1) (q0 := 0) rfl rfl) dX11_isOfKind_53 ?_
    exact b_zret hx hb hr (by unfold bI; rw [c4]; decide) dX11_isOfKind_56 hlocks
  by_cases c5 : x = 4
  · refine lv_tableIn (tgt := 57) hx hb dX11_isOfKind_1 (by rw [c5]; decide) (by rw [c5]; decide) (off := 56) (by rw [c5]; decide) (by decide) ?_
    refine lv_aload_n hx hb dX11_isOfKind_57 rfl (lv_at hl 0 rfl) ?_
    refine va_instS hx hb hown (hts (.classLink RX11 299 RX1) (List.mem_of_getElem? (i := 4) rfl)) (hK.1.1 1 _ rfl).2 (va_recv hK.1 hP (ci := 1) (q0 := 0) rfl rfl) dX11_isOfKind_58 ?_
    exact b_zret hx hb hr (by unfold bI; rw [c5]; decide) dX11_isOfKind_61 hlocks
  by_cases c6 : x = 5
  · refine lv_tableIn (tgt := 62) hx hb dX11_isOfKind_1 (by rw [c6]; decide) (by rw [c6]; decide) (off := 61) (by rw [c6]; decide) (by decide) ?_
    refine lv_aload_n hx hb dX11_isOfKind_62 rfl (lv_at hl 0 rfl) ?_
    refine va_instNo (C := RX1) hx hb hown (hts (.classLink RX11 301 RX0) (List.mem_of_getElem? (i := 5) rfl)) (hK.2.2.2.2.1 _ (List.mem_of_getElem? (i := 16) rfl)) (va_recv hK.1 hP (ci := 1) (q0 := 0) rfl rfl) dX11_isOfKind_63 ?_
    exact b_zret hx hb hr (by unfold bI; rw [c6]; decide) dX11_isOfKind_66 hlocks
  refine lv_tableOut (tgt := 67) hx hb dX11_isOfKind_1 (sw_out0_5 c1 c2 c3 c4 c5 c6) (by decide) ?_
  refine lv_iconst (v := 0) hx hb dX11_isOfKind_67 (by decide) ?_
  exact b_zret hx hb hr (by unfold bI; rw [if_neg]; simp only [eq_false c1, eq_false c2, eq_false c3, eq_false c4, eq_false c5, eq_false c6, or_self, or_false, false_or, not_false_eq_true]) dX11_isOfKind_68 hlocks
set_option maxHeartbeats 1000000 in
set_option maxRecDepth 100000 in
theorem c_X11_isOfKind_X0 (l : Launch) (D : va_G) (cI cZ cT : ClassId) (xa : Nat) (x : Int32)  : Met l yX11_isOfKind wsX11_isOfKind ({ frames := 0, cells := 0, slots := 0, locals := 0 }) (pR D cI cZ cT [.ref xa, .int x] (wTmp 0 xa)) (QcRead (bI (x = 0 ∨ x = 4 ∨ x = 5))) 0 0 (fun _ => False) := by
  refine Met.ofW (cc := cX11_isOfKind) (maxL := 2) (ret := (some .boolean)) (by decide) rfl ?_
  intro p e s m args below meth c s₁ B hml hv
  obtain ⟨rfl, hP, hK⟩ := hv
  have hx := B.exec
  have hb := B.bytes
  have hr := B.returns
  have hts := atoms_spec (ws := wsX11_isOfKind) B.pre
  have hown : s.vm.findClass RX11 = some m.cls := findClass_of_methodNamed B.named
  have hlocks := B.notSynchronized
  have hl := lv_entry ([.ref xa, .int x]) (n := 2) (Nat.le_of_ble_eq_true rfl)
  rw [lg_entry_eq]
  generalize (lg_sl ([.ref xa, .int x]) ++ List.replicate (2 - (lg_sl ([.ref xa, .int x])).length) Slot.unset).toArray = ls at hl ⊢
  have hl : lv_has ls 2 [(0, .ref xa), (1, .int x)] := hl
  refine lv_iload_n hx hb dX11_isOfKind_0 rfl (lv_at hl 1 rfl) ?_
  by_cases c1 : x = 0
  · refine lv_tableIn (tgt := 40) hx hb dX11_isOfKind_1 (by rw [c1]; decide) (by rw [c1]; decide) (off := 39) (by rw [c1]; decide) (by decide) ?_
    refine lv_iconst (v := 1) hx hb dX11_isOfKind_40 (by decide) ?_
    exact b_zret hx hb hr (by unfold bI; rw [c1]; decide) dX11_isOfKind_41 hlocks
  by_cases c2 : x = 1
  · refine lv_tableIn (tgt := 42) hx hb dX11_isOfKind_1 (by rw [c2]; decide) (by rw [c2]; decide) (off := 41) (by rw [c2]; decide) (by decide) ?_
    refine lv_aload_n hx hb dX11_isOfKind_42 rfl (lv_at hl 0 rfl) ?_
    refine va_instNo (C := RX0) hx hb hown (hts (.classLink RX11 293 RX3) (List.mem_of_getElem? (i := 1) rfl)) (hK.2.2.2.2.1 _ (List.mem_of_getElem? (i := 1) rfl)) (va_recv hK.1 hP (ci := 0) (q0 := 0) rfl rfl) dX11_isOfKind_43 ?_
    exact b_zret hx hb hr (by unfold bI; rw [c2]; decide) dX11_isOfKind_46 hlocks
  by_cases c3 : x = 2
  · refine lv_tableIn (tgt := 47) hx hb dX11_isOfKind_1 (by rw [c3]; decide) (by rw [c3]; decide) (off := 46) (by rw [c3]; decide) (by decide) ?_
    refine lv_aload_n hx hb dX11_isOfKind_47 rfl (lv_at hl 0 rfl) ?_
    refine va_instNo (C := RX0) hx hb hown (hts (.classLink RX11 295 RX10) (List.mem_of_getElem? (i := 2) rfl)) (hK.2.2.2.2.1 _ (List.mem_of_getElem? (i := 5) rfl)) (va_recv hK.1 hP (ci := 0) (q0 := 0) rfl rfl) dX11_isOfKind_48 ?_
    exact b_zret hx hb hr (by unfold bI; rw [c3]; decide) dX11_isOfKind_51 hlocks
  by_cases c4 : x = 3
  · refine lv_tableIn (tgt := 52) hx hb dX11_isOfKind_1 (by rw [c4]; decide) (by rw [c4]; decide) (off := 51) (by rw [c4]; decide) (by decide) ?_
    refine lv_aload_n hx hb dX11_isOfKind_52 rfl (lv_at hl 0 rfl) ?_
    refine va_instNo (C := RX0) hx hb hown (hts (.classLink RX11 297 RX5) (List.mem_of_getElem? (i := 3) rfl)) (hK.2.2.2.2.1 _ (List.mem_of_getElem? (i := 9) rfl)) (va_recv hK.1 hP (ci := 0) (q0 := 0) rfl rfl) dX11_isOfKind_53 ?_
    exact b_zret hx hb hr (by unfold bI; rw [c4]; decide) dX11_isOfKind_56 hlocks
  by_cases c5 : x = 4
  · refine lv_tableIn (tgt := 57) hx hb dX11_isOfKind_1 (by rw [c5]; decide) (by rw [c5]; decide) (off := 56) (by rw [c5]; decide) (by decide) ?_
    refine lv_aload_n hx hb dX11_isOfKind_57 rfl (lv_at hl 0 rfl) ?_
    refine va_instY (C := RX0) hx hb hown (hts (.classLink RX11 299 RX1) (List.mem_of_getElem? (i := 4) rfl)) (hK.2.2.2.1 _ (List.mem_of_getElem? (i := 2) rfl)) (va_recv hK.1 hP (ci := 0) (q0 := 0) rfl rfl) dX11_isOfKind_58 ?_
    exact b_zret hx hb hr (by unfold bI; rw [c5]; decide) dX11_isOfKind_61 hlocks
  by_cases c6 : x = 5
  · refine lv_tableIn (tgt := 62) hx hb dX11_isOfKind_1 (by rw [c6]; decide) (by rw [c6]; decide) (off := 61) (by rw [c6]; decide) (by decide) ?_
    refine lv_aload_n hx hb dX11_isOfKind_62 rfl (lv_at hl 0 rfl) ?_
    refine va_instS hx hb hown (hts (.classLink RX11 301 RX0) (List.mem_of_getElem? (i := 5) rfl)) (hK.1.1 0 _ rfl).2 (va_recv hK.1 hP (ci := 0) (q0 := 0) rfl rfl) dX11_isOfKind_63 ?_
    exact b_zret hx hb hr (by unfold bI; rw [c6]; decide) dX11_isOfKind_66 hlocks
  refine lv_tableOut (tgt := 67) hx hb dX11_isOfKind_1 (sw_out0_5 c1 c2 c3 c4 c5 c6) (by decide) ?_
  refine lv_iconst (v := 0) hx hb dX11_isOfKind_67 (by decide) ?_
  exact b_zret hx hb hr (by unfold bI; rw [if_neg]; simp only [eq_false c1, eq_false c2, eq_false c3, eq_false c4, eq_false c5, eq_false c6, or_self, or_false, false_or, not_false_eq_true]) dX11_isOfKind_68 hlocks
theorem u_X11_as_X11 : ∀ w ∈ wsX110, w ∈ wsX11_as := fun _ h => List.mem_cons_of_mem _ (List.mem_append_left _ (List.mem_append_left _ (List.mem_append_right _ h)))
theorem u_X11_as_X8 : ∀ w ∈ wsX80, w ∈ wsX11_as := fun _ h => List.mem_cons_of_mem _ (List.mem_append_left _ (List.mem_append_right _ h))
set_option maxHeartbeats 1000000 in
set_option maxRecDepth 100000 in
theorem c_X11_as (l : Launch) (D : va_G) (cI cZ cT : ClassId) (nx : Nat) (ra pa ta da : Nat → Nat) (ia xa : Nat) (fa za : Nat → Nat) (un na fi st dy ln : Int32) (n : Nat) (kd dd nt lf co wy : Nat → Int32) (reader x : Int32) (hn : n ≤ 6) (hA : ∀ j, j < n → isK (kd j) ∧ isL (lf j)) : Met l yX11_as wsX11_as ({ frames := 1, cells := 0, slots := 0, locals := 21 }) (pM D cI cZ cT [.ref nx, .int reader, .int x] (wNW nx ra pa ta da ia xa fa za un na fi ++ wTown cI ta st dy ln (nI n) kd dd nt lf ++ wFore cI fa co wy)) (qM D (some (.int ((x_as fi n kd reader x).1))) (wNW nx ra pa ta da ia xa fa za un na ((x_as fi n kd reader x).2) ++ wTown cI ta st dy ln (nI n) kd dd nt lf ++ wFore cI fa co wy) (adr (wNW nx ra pa ta da ia xa fa za un na fi ++ wTown cI ta st dy ln (nI n) kd dd nt lf ++ wFore cI fa co wy))) 0 0 (adr (wNW nx ra pa ta da ia xa fa za un na fi ++ wTown cI ta st dy ln (nI n) kd dd nt lf ++ wFore cI fa co wy)) := by
  refine Met.ofW (cc := cX11_as) (maxL := 3) (ret := (some .int)) (by decide) rfl ?_
  intro p e s m args below meth c s₁ B hml hv
  obtain ⟨rfl, hP, hD0, hK⟩ := hv
  have hx := B.exec
  have hb := B.bytes
  have hr := B.returns
  have hts := atoms_spec (ws := wsX11_as) B.pre
  have hown : s.vm.findClass RX11 = some m.cls := findClass_of_methodNamed B.named
  have hlocks := B.notSynchronized
  have hD := hD0.toAdr
  have hS : va_S (adr (wNW nx ra pa ta da ia xa fa za un na fi ++ wTown cI ta st dy ln (nI n) kd dd nt lf ++ wFore cI fa co wy)) s.heap s.heap [] := va_S.rf
  generalize adr (wNW nx ra pa ta da ia xa fa za un na fi ++ wTown cI ta st dy ln (nI n) kd dd nt lf ++ wFore cI fa co wy) = A at hD hS ⊢
  have hl := lv_entry ([.ref nx, .int reader, .int x]) (n := 3) (Nat.le_of_ble_eq_true rfl)
  rw [lg_entry_eq]
  generalize (lg_sl ([.ref nx, .int reader, .int x]) ++ List.replicate (3 - (lg_sl ([.ref nx, .int reader, .int x])).length) Slot.unset).toArray = ls at hl ⊢
  have hl : lv_has ls 3 [(0, .ref nx), (1, .int reader), (2, .int x)] := hl
  refine lv_aload_n hx hb dX11_as_0 rfl (lv_at hl 0 rfl) ?_
  refine va_get (D := D) (ci := 10) (v := .ref (ta 0)) (C := RX11) (T := TX11) (N := 11) hx hb hts u_X11_as_X11 hown hK.1 hP 0 rfl rfl 2 (by decide) (hts (.fieldLink RX11 26 "NoticeWeek" "town" "LNoticeWeek$Town;") (List.mem_of_getElem? (i := 1) rfl)) (fun _ h9 => h9) rfl dX11_as_1 ?_
  refine lv_iload_n hx hb dX11_as_4 rfl (lv_at hl 1 rfl) ?_
  refine b_call (va_runV (As := [.int reader]) (rest := []) ⟨hx, hb, hml, hown, hts⟩ (c_X8_has l D cI cZ cT ta st dy ln (nI n) kd dd nt lf reader) (cwV 1 hts gX11_as_X8_has rfl rfl rfl (by decide +kernel) ⟨(Nat.le_of_ble_eq_true rfl), (Nat.le_of_ble_eq_true rfl)⟩) (b_pV hK hP [1, 2, 3, 4, 5] rfl 1 rfl rfl) rfl rfl hl.1 rfl (lv_room (Nat.le_of_ble_eq_true rfl)) dX11_as_5 ⟨Nat.zero_le _, Nat.zero_le _⟩).run ?_
  refine b_ifeq (tgt := 20) hx hb dX11_as_8 (by decide) (fun c1 => ?_) (fun c1 => ?_)
  · refine lv_ldc (v := (-1000001)) hx hb hown (hts (.constant RX11 71 (-1000001)) (List.mem_of_getElem? (i := 2) rfl)) dX11_as_20 ?_
    have E : x_as fi n kd reader x = ((-1000001), fi) := (by unfold x_as; rw [if_pos c1])
    rw [E]
    exact b_retM hx hb hr hP hS rfl dX11_as_22 hlocks
  · refine lv_iload_n hx hb dX11_as_11 rfl (lv_at hl 2 rfl) ?_
    refine lv_if_lt (tgt := 20) hx hb dX11_as_12 (by decide) (fun c2 => ?_) (fun c2 => ?_)
    · refine lv_ldc (v := (-1000001)) hx hb hown (hts (.constant RX11 71 (-1000001)) (List.mem_of_getElem? (i := 2) rfl)) dX11_as_20 ?_
      have E : x_as fi n kd reader x = ((-1000001), fi) := (by unfold x_as; rw [if_neg (fun z => z c1), if_pos c2])
      rw [E]
      exact b_retM hx hb hr hP hS rfl dX11_as_22 hlocks
    · refine lv_iload_n hx hb dX11_as_15 rfl (lv_at hl 2 rfl) ?_
      refine lv_iconst (v := 5) hx hb dX11_as_16 (by decide) ?_
      refine lv_icmp_le (tgt := 23) hx hb dX11_as_17 (by decide) (fun c3 => ?_) (fun c3 => ?_)
      · obtain ⟨r, hh_r, rfl⟩ : ∃ r : Nat, r ≤ 5 ∧ reader = nI r := has_r hn c1
        have hl : lv_has ls 3 [(0, .ref nx), (1, .int (nI (r))), (2, .int x)] := hl
        have htr : tn (nI r) = r := tn_nI hh_r
        have hrn : r < n := rd_lt hn hh_r c1
        rcases (hA r hrn).1 with hk9 | hk9 | hk9 | hk9 | hk9
        · refine lv_aload_n hx hb dX11_as_23 rfl (lv_at hl 0 rfl) ?_
          refine va_get (D := D) (ci := 10) (v := .ref (fa 0)) (C := RX11) (T := TX11) (N := 11) hx hb hts u_X11_as_X11 hown hK.1 hP 0 rfl rfl 8 (by decide) (hts (.fieldLink RX11 50 "NoticeWeek" "foresight" "LNoticeWeek$Foresight;") (List.mem_of_getElem? (i := 3) rfl)) (fun _ h9 => h9) rfl dX11_as_24 ?_
          refine lv_aload_n hx hb dX11_as_27 rfl (lv_at hl 0 rfl) ?_
          refine va_get (D := D) (ci := 10) (v := .ref (ta 0)) (C := RX11) (T := TX11) (N := 11) hx hb hts u_X11_as_X11 hown hK.1 hP 0 rfl rfl 2 (by decide) (hts (.fieldLink RX11 26 "NoticeWeek" "town" "LNoticeWeek$Town;") (List.mem_of_getElem? (i := 1) rfl)) (fun _ h9 => h9) rfl dX11_as_28 ?_
          refine va_get (D := D) (ci := 7) (v := .ref (ta 1)) (C := RX8) (T := TX8) (N := 8) hx hb hts u_X11_as_X8 hown hK.1 hP 1 rfl rfl 4 (by decide) (hts (.fieldLink RX11 242 "NoticeWeek$Town" "kind" "[I") (List.mem_of_getElem? (i := 4) rfl)) (fun _ h9 => h9) rfl dX11_as_31 ?_
          refine lv_iload_n hx hb dX11_as_34 rfl (lv_at hl 1 rfl) ?_
          refine b_ald hx hb hK hP 2 rfl (by omega) (by decide) dX11_as_35 ?_
          rw [hk9]
          refine b_callA (va_runV (As := [.int 1]) (rest := []) ⟨hx, hb, hml, hown, hts⟩ (c_X2_temperOf_1 l D cI cZ cT fa co wy) (cwV 1 hts gX11_as_X2_temperOf rfl rfl rfl (by decide +kernel) ⟨(Nat.le_of_ble_eq_true rfl), (Nat.le_of_ble_eq_true rfl)⟩) (b_pV hK hP [6, 7, 8, 9, 10, 11, 12, 13] rfl 6 rfl rfl) rfl rfl hl.1 rfl (lv_room (Nat.le_of_ble_eq_true rfl)) dX11_as_36 ⟨Nat.zero_le _, Nat.zero_le _⟩).run ?_
          refine lv_iload_n hx hb dX11_as_39 rfl (lv_at hl 2 rfl) ?_
          refine b_call (va_runS (As := [.ref (fa 1), .int x]) (rest := []) ⟨hx, hb, hml, hown, hts⟩ (c_X11_isOfKind_X3 l D cI cZ cT (fa 1) x) (va_cwS 2 hts gX11_as_X11_isOfKind rfl rfl rfl (by decide +kernel) ⟨(Nat.le_of_ble_eq_true rfl), (Nat.le_of_ble_eq_true rfl)⟩) (b_pS hK hP [7] rfl) rfl rfl hl.1 rfl (lv_room (Nat.le_of_ble_eq_true rfl)) dX11_as_40 ⟨Nat.zero_le _, Nat.zero_le _⟩).run ?_
          refine b_ifne (tgt := 52) hx hb dX11_as_43 (by decide) (fun c4 => ?_) (fun c4 => ?_)
          · refine lv_aload_n hx hb dX11_as_52 rfl (lv_at hl 0 rfl) ?_
            refine lv_iload_n hx hb dX11_as_53 rfl (lv_at hl 1 rfl) ?_
            refine b_callM [0] (va_runV (As := [.int (nI (r))]) (rest := []) ⟨hx, hb, hml, hown, hts⟩ (c_X11_well l D cI cZ cT nx ra pa ta da ia xa fa za un na fi (nI (r))) (cwV 1 hts gX11_as_X11_well rfl rfl rfl (by decide +kernel) ⟨(Nat.le_of_ble_eq_true rfl), (Nat.le_of_ble_eq_true rfl)⟩) (b_pVM hK hP hD [0] (by decide) rfl rfl 0 rfl rfl) rfl rfl hl.1 rfl (lv_room (Nat.le_of_ble_eq_true rfl)) dX11_as_54 ⟨Nat.zero_le _, Nat.zero_le _⟩).run hP hD hS rfl (Nat.le_of_ble_eq_true rfl) (fun H locs hP hS => ?_)
            have hP : va_P D vwCl (wNW nx ra pa ta da ia xa fa za un na 0 ++ wTown cI ta st dy ln (nI n) kd dd nt lf ++ wFore cI fa co wy) H := hP
            have hD : va_D A (wNW nx ra pa ta da ia xa fa za un na 0 ++ wTown cI ta st dy ln (nI n) kd dd nt lf ++ wFore cI fa co wy) := hD.sameA [nx, (ta 0), (ta 1), (ta 2), (ta 3), (ta 4), (fa 0), (fa 1), (fa 2), (fa 3), (fa 4), (fa 5), (fa 6), (fa 7)] rfl rfl
            have E : x_as fi n kd (nI r) x = ((nI (r)), 0) := (by unfold x_as; rw [if_neg (fun z => z c1), if_neg c2, if_neg (fun z => z c3), htr, hk9, if_pos ((as_1 x).mpr c4)])
            rw [E]
            exact b_retM hx hb hr hP hS rfl dX11_as_57 hlocks
          · refine lv_aload_n hx hb dX11_as_46 rfl (lv_at hl 0 rfl) ?_
            refine lv_iconst (v := 3) hx hb dX11_as_47 (by decide) ?_
            refine b_callM [0] (va_runV (As := [.int 3]) (rest := []) ⟨hx, hb, hml, hown, hts⟩ (c_X11_found l D cI cZ cT nx ra pa ta da ia xa fa za un na fi 3) (cwV 1 hts gX11_as_X11_found rfl rfl rfl (by decide +kernel) ⟨(Nat.le_of_ble_eq_true rfl), (Nat.le_of_ble_eq_true rfl)⟩) (b_pVM hK hP hD [0] (by decide) rfl rfl 0 rfl rfl) rfl rfl hl.1 rfl (lv_room (Nat.le_of_ble_eq_true rfl)) dX11_as_48 ⟨Nat.zero_le _, Nat.zero_le _⟩).run hP hD hS rfl (Nat.le_of_ble_eq_true rfl) (fun H locs hP hS => ?_)
            have hP : va_P D vwCl (wNW nx ra pa ta da ia xa fa za un na 3 ++ wTown cI ta st dy ln (nI n) kd dd nt lf ++ wFore cI fa co wy) H := hP
            have hD : va_D A (wNW nx ra pa ta da ia xa fa za un na 3 ++ wTown cI ta st dy ln (nI n) kd dd nt lf ++ wFore cI fa co wy) := hD.sameA [nx, (ta 0), (ta 1), (ta 2), (ta 3), (ta 4), (fa 0), (fa 1), (fa 2), (fa 3), (fa 4), (fa 5), (fa 6), (fa 7)] rfl rfl
            have E : x_as fi n kd (nI r) x = ((-1000010) - 3, 3) := (by unfold x_as; rw [if_neg (fun z => z c1), if_neg c2, if_neg (fun z => z c3), htr, hk9, if_neg (fun z => c4 ((as_1 x).mp z))])
            rw [E]
            exact b_retM hx hb hr hP hS rfl dX11_as_51 hlocks
        · refine lv_aload_n hx hb dX11_as_23 rfl (lv_at hl 0 rfl) ?_
          refine va_get (D := D) (ci := 10) (v := .ref (fa 0)) (C := RX11) (T := TX11) (N := 11) hx hb hts u_X11_as_X11 hown hK.1 hP 0 rfl rfl 8 (by decide) (hts (.fieldLink RX11 50 "NoticeWeek" "foresight" "LNoticeWeek$Foresight;") (List.mem_of_getElem? (i := 3) rfl)) (fun _ h9 => h9) rfl dX11_as_24 ?_
          refine lv_aload_n hx hb dX11_as_27 rfl (lv_at hl 0 rfl) ?_
          refine va_get (D := D) (ci := 10) (v := .ref (ta 0)) (C := RX11) (T := TX11) (N := 11) hx hb hts u_X11_as_X11 hown hK.1 hP 0 rfl rfl 2 (by decide) (hts (.fieldLink RX11 26 "NoticeWeek" "town" "LNoticeWeek$Town;") (List.mem_of_getElem? (i := 1) rfl)) (fun _ h9 => h9) rfl dX11_as_28 ?_
          refine va_get (D := D) (ci := 7) (v := .ref (ta 1)) (C := RX8) (T := TX8) (N := 8) hx hb hts u_X11_as_X8 hown hK.1 hP 1 rfl rfl 4 (by decide) (hts (.fieldLink RX11 242 "NoticeWeek$Town" "kind" "[I") (List.mem_of_getElem? (i := 4) rfl)) (fun _ h9 => h9) rfl dX11_as_31 ?_
          refine lv_iload_n hx hb dX11_as_34 rfl (lv_at hl 1 rfl) ?_
          refine b_ald hx hb hK hP 2 rfl (by omega) (by decide) dX11_as_35 ?_
          rw [hk9]
          refine b_callA (va_runV (As := [.int 2]) (rest := []) ⟨hx, hb, hml, hown, hts⟩ (c_X2_temperOf_2 l D cI cZ cT fa co wy) (cwV 1 hts gX11_as_X2_temperOf rfl rfl rfl (by decide +kernel) ⟨(Nat.le_of_ble_eq_true rfl), (Nat.le_of_ble_eq_true rfl)⟩) (b_pV hK hP [6, 7, 8, 9, 10, 11, 12, 13] rfl 6 rfl rfl) rfl rfl hl.1 rfl (lv_room (Nat.le_of_ble_eq_true rfl)) dX11_as_36 ⟨Nat.zero_le _, Nat.zero_le _⟩).run ?_
          refine lv_iload_n hx hb dX11_as_39 rfl (lv_at hl 2 rfl) ?_
          refine b_call (va_runS (As := [.ref (fa 2), .int x]) (rest := []) ⟨hx, hb, hml, hown, hts⟩ (c_X11_isOfKind_X10 l D cI cZ cT (fa 2) x) (va_cwS 2 hts gX11_as_X11_isOfKind rfl rfl rfl (by decide +kernel) ⟨(Nat.le_of_ble_eq_true rfl), (Nat.le_of_ble_eq_true rfl)⟩) (b_pS hK hP [8] rfl) rfl rfl hl.1 rfl (lv_room (Nat.le_of_ble_eq_true rfl)) dX11_as_40 ⟨Nat.zero_le _, Nat.zero_le _⟩).run ?_
          refine b_ifne (tgt := 52) hx hb dX11_as_43 (by decide) (fun c5 => ?_) (fun c5 => ?_)
          · refine lv_aload_n hx hb dX11_as_52 rfl (lv_at hl 0 rfl) ?_
            refine lv_iload_n hx hb dX11_as_53 rfl (lv_at hl 1 rfl) ?_
            refine b_callM [0] (va_runV (As := [.int (nI (r))]) (rest := []) ⟨hx, hb, hml, hown, hts⟩ (c_X11_well l D cI cZ cT nx ra pa ta da ia xa fa za un na fi (nI (r))) (cwV 1 hts gX11_as_X11_well rfl rfl rfl (by decide +kernel) ⟨(Nat.le_of_ble_eq_true rfl), (Nat.le_of_ble_eq_true rfl)⟩) (b_pVM hK hP hD [0] (by decide) rfl rfl 0 rfl rfl) rfl rfl hl.1 rfl (lv_room (Nat.le_of_ble_eq_true rfl)) dX11_as_54 ⟨Nat.zero_le _, Nat.zero_le _⟩).run hP hD hS rfl (Nat.le_of_ble_eq_true rfl) (fun H locs hP hS => ?_)
            have hP : va_P D vwCl (wNW nx ra pa ta da ia xa fa za un na 0 ++ wTown cI ta st dy ln (nI n) kd dd nt lf ++ wFore cI fa co wy) H := hP
            have hD : va_D A (wNW nx ra pa ta da ia xa fa za un na 0 ++ wTown cI ta st dy ln (nI n) kd dd nt lf ++ wFore cI fa co wy) := hD.sameA [nx, (ta 0), (ta 1), (ta 2), (ta 3), (ta 4), (fa 0), (fa 1), (fa 2), (fa 3), (fa 4), (fa 5), (fa 6), (fa 7)] rfl rfl
            have E : x_as fi n kd (nI r) x = ((nI (r)), 0) := (by unfold x_as; rw [if_neg (fun z => z c1), if_neg c2, if_neg (fun z => z c3), htr, hk9, if_pos ((as_2 x).mpr c5)])
            rw [E]
            exact b_retM hx hb hr hP hS rfl dX11_as_57 hlocks
          · refine lv_aload_n hx hb dX11_as_46 rfl (lv_at hl 0 rfl) ?_
            refine lv_iconst (v := 3) hx hb dX11_as_47 (by decide) ?_
            refine b_callM [0] (va_runV (As := [.int 3]) (rest := []) ⟨hx, hb, hml, hown, hts⟩ (c_X11_found l D cI cZ cT nx ra pa ta da ia xa fa za un na fi 3) (cwV 1 hts gX11_as_X11_found rfl rfl rfl (by decide +kernel) ⟨(Nat.le_of_ble_eq_true rfl), (Nat.le_of_ble_eq_true rfl)⟩) (b_pVM hK hP hD [0] (by decide) rfl rfl 0 rfl rfl) rfl rfl hl.1 rfl (lv_room (Nat.le_of_ble_eq_true rfl)) dX11_as_48 ⟨Nat.zero_le _, Nat.zero_le _⟩).run hP hD hS rfl (Nat.le_of_ble_eq_true rfl) (fun H locs hP hS => ?_)
            have hP : va_P D vwCl (wNW nx ra pa ta da ia xa fa za un na 3 ++ wTown cI ta st dy ln (nI n) kd dd nt lf ++ wFore cI fa co wy) H := hP
            have hD : va_D A (wNW nx ra pa ta da ia xa fa za un na 3 ++ wTown cI ta st dy ln (nI n) kd dd nt lf ++ wFore cI fa co wy) := hD.sameA [nx, (ta 0), (ta 1), (ta 2), (ta 3), (ta 4), (fa 0), (fa 1), (fa 2), (fa 3), (fa 4), (fa 5), (fa 6), (fa 7)] rfl rfl
            have E : x_as fi n kd (nI r) x = ((-1000010) - 3, 3) := (by unfold x_as; rw [if_neg (fun z => z c1), if_neg c2, if_neg (fun z => z c3), htr, hk9, if_neg (fun z => c5 ((as_2 x).mp z))])
            rw [E]
            exact b_retM hx hb hr hP hS rfl dX11_as_51 hlocks
        · refine lv_aload_n hx hb dX11_as_23 rfl (lv_at hl 0 rfl) ?_
          refine va_get (D := D) (ci := 10) (v := .ref (fa 0)) (C := RX11) (T := TX11) (N := 11) hx hb hts u_X11_as_X11 hown hK.1 hP 0 rfl rfl 8 (by decide) (hts (.fieldLink RX11 50 "NoticeWeek" "foresight" "LNoticeWeek$Foresight;") (List.mem_of_getElem? (i := 3) rfl)) (fun _ h9 => h9) rfl dX11_as_24 ?_
          refine lv_aload_n hx hb dX11_as_27 rfl (lv_at hl 0 rfl) ?_
          refine va_get (D := D) (ci := 10) (v := .ref (ta 0)) (C := RX11) (T := TX11) (N := 11) hx hb hts u_X11_as_X11 hown hK.1 hP 0 rfl rfl 2 (by decide) (hts (.fieldLink RX11 26 "NoticeWeek" "town" "LNoticeWeek$Town;") (List.mem_of_getElem? (i := 1) rfl)) (fun _ h9 => h9) rfl dX11_as_28 ?_
          refine va_get (D := D) (ci := 7) (v := .ref (ta 1)) (C := RX8) (T := TX8) (N := 8) hx hb hts u_X11_as_X8 hown hK.1 hP 1 rfl rfl 4 (by decide) (hts (.fieldLink RX11 242 "NoticeWeek$Town" "kind" "[I") (List.mem_of_getElem? (i := 4) rfl)) (fun _ h9 => h9) rfl dX11_as_31 ?_
          refine lv_iload_n hx hb dX11_as_34 rfl (lv_at hl 1 rfl) ?_
          refine b_ald hx hb hK hP 2 rfl (by omega) (by decide) dX11_as_35 ?_
          rw [hk9]
          refine b_callA (va_runV (As := [.int 3]) (rest := []) ⟨hx, hb, hml, hown, hts⟩ (c_X2_temperOf_3 l D cI cZ cT fa co wy) (cwV 1 hts gX11_as_X2_temperOf rfl rfl rfl (by decide +kernel) ⟨(Nat.le_of_ble_eq_true rfl), (Nat.le_of_ble_eq_true rfl)⟩) (b_pV hK hP [6, 7, 8, 9, 10, 11, 12, 13] rfl 6 rfl rfl) rfl rfl hl.1 rfl (lv_room (Nat.le_of_ble_eq_true rfl)) dX11_as_36 ⟨Nat.zero_le _, Nat.zero_le _⟩).run ?_
          refine lv_iload_n hx hb dX11_as_39 rfl (lv_at hl 2 rfl) ?_
          refine b_call (va_runS (As := [.ref (fa 3), .int x]) (rest := []) ⟨hx, hb, hml, hown, hts⟩ (c_X11_isOfKind_X5 l D cI cZ cT (fa 3) x) (va_cwS 2 hts gX11_as_X11_isOfKind rfl rfl rfl (by decide +kernel) ⟨(Nat.le_of_ble_eq_true rfl), (Nat.le_of_ble_eq_true rfl)⟩) (b_pS hK hP [9] rfl) rfl rfl hl.1 rfl (lv_room (Nat.le_of_ble_eq_true rfl)) dX11_as_40 ⟨Nat.zero_le _, Nat.zero_le _⟩).run ?_
          refine b_ifne (tgt := 52) hx hb dX11_as_43 (by decide) (fun c6 => ?_) (fun c6 => ?_)
          · refine lv_aload_n hx hb dX11_as_52 rfl (lv_at hl 0 rfl) ?_
            refine lv_iload_n hx hb dX11_as_53 rfl (lv_at hl 1 rfl) ?_
            refine b_callM [0] (va_runV (As := [.int (nI (r))]) (rest := []) ⟨hx, hb, hml, hown, hts⟩ (c_X11_well l D cI cZ cT nx ra pa ta da ia xa fa za un na fi (nI (r))) (cwV 1 hts gX11_as_X11_well rfl rfl rfl (by decide +kernel) ⟨(Nat.le_of_ble_eq_true rfl), (Nat.le_of_ble_eq_true rfl)⟩) (b_pVM hK hP hD [0] (by decide) rfl rfl 0 rfl rfl) rfl rfl hl.1 rfl (lv_room (Nat.le_of_ble_eq_true rfl)) dX11_as_54 ⟨Nat.zero_le _, Nat.zero_le _⟩).run hP hD hS rfl (Nat.le_of_ble_eq_true rfl) (fun H locs hP hS => ?_)
            have hP : va_P D vwCl (wNW nx ra pa ta da ia xa fa za un na 0 ++ wTown cI ta st dy ln (nI n) kd dd nt lf ++ wFore cI fa co wy) H := hP
            have hD : va_D A (wNW nx ra pa ta da ia xa fa za un na 0 ++ wTown cI ta st dy ln (nI n) kd dd nt lf ++ wFore cI fa co wy) := hD.sameA [nx, (ta 0), (ta 1), (ta 2), (ta 3), (ta 4), (fa 0), (fa 1), (fa 2), (fa 3), (fa 4), (fa 5), (fa 6), (fa 7)] rfl rfl
            have E : x_as fi n kd (nI r) x = ((nI (r)), 0) := (by unfold x_as; rw [if_neg (fun z => z c1), if_neg c2, if_neg (fun z => z c3), htr, hk9, if_pos ((as_3 x).mpr c6)])
            rw [E]
            exact b_retM hx hb hr hP hS rfl dX11_as_57 hlocks
          · refine lv_aload_n hx hb dX11_as_46 rfl (lv_at hl 0 rfl) ?_
            refine lv_iconst (v := 3) hx hb dX11_as_47 (by decide) ?_
            refine b_callM [0] (va_runV (As := [.int 3]) (rest := []) ⟨hx, hb, hml, hown, hts⟩ (c_X11_found l D cI cZ cT nx ra pa ta da ia xa fa za un na fi 3) (cwV 1 hts gX11_as_X11_found rfl rfl rfl (by decide +kernel) ⟨(Nat.le_of_ble_eq_true rfl), (Nat.le_of_ble_eq_true rfl)⟩) (b_pVM hK hP hD [0] (by decide) rfl rfl 0 rfl rfl) rfl rfl hl.1 rfl (lv_room (Nat.le_of_ble_eq_true rfl)) dX11_as_48 ⟨Nat.zero_le _, Nat.zero_le _⟩).run hP hD hS rfl (Nat.le_of_ble_eq_true rfl) (fun H locs hP hS => ?_)
            have hP : va_P D vwCl (wNW nx ra pa ta da ia xa fa za un na 3 ++ wTown cI ta st dy ln (nI n) kd dd nt lf ++ wFore cI fa co wy) H := hP
            have hD : va_D A (wNW nx ra pa ta da ia xa fa za un na 3 ++ wTown cI ta st dy ln (nI n) kd dd nt lf ++ wFore cI fa co wy) := hD.sameA [nx, (ta 0), (ta 1), (ta 2), (ta 3), (ta 4), (fa 0), (fa 1), (fa 2), (fa 3), (fa 4), (fa 5), (fa 6), (fa 7)] rfl rfl
            have E : x_as fi n kd (nI r) x = ((-1000010) - 3, 3) := (by unfold x_as; rw [if_neg (fun z => z c1), if_neg c2, if_neg (fun z => z c3), htr, hk9, if_neg (fun z => c6 ((as_3 x).mp z))])
            rw [E]
            exact b_retM hx hb hr hP hS rfl dX11_as_51 hlocks
        · refine lv_aload_n hx hb dX11_as_23 rfl (lv_at hl 0 rfl) ?_
          refine va_get (D := D) (ci := 10) (v := .ref (fa 0)) (C := RX11) (T := TX11) (N := 11) hx hb hts u_X11_as_X11 hown hK.1 hP 0 rfl rfl 8 (by decide) (hts (.fieldLink RX11 50 "NoticeWeek" "foresight" "LNoticeWeek$Foresight;") (List.mem_of_getElem? (i := 3) rfl)) (fun _ h9 => h9) rfl dX11_as_24 ?_
          refine lv_aload_n hx hb dX11_as_27 rfl (lv_at hl 0 rfl) ?_
          refine va_get (D := D) (ci := 10) (v := .ref (ta 0)) (C := RX11) (T := TX11) (N := 11) hx hb hts u_X11_as_X11 hown hK.1 hP 0 rfl rfl 2 (by decide) (hts (.fieldLink RX11 26 "NoticeWeek" "town" "LNoticeWeek$Town;") (List.mem_of_getElem? (i := 1) rfl)) (fun _ h9 => h9) rfl dX11_as_28 ?_
          refine va_get (D := D) (ci := 7) (v := .ref (ta 1)) (C := RX8) (T := TX8) (N := 8) hx hb hts u_X11_as_X8 hown hK.1 hP 1 rfl rfl 4 (by decide) (hts (.fieldLink RX11 242 "NoticeWeek$Town" "kind" "[I") (List.mem_of_getElem? (i := 4) rfl)) (fun _ h9 => h9) rfl dX11_as_31 ?_
          refine lv_iload_n hx hb dX11_as_34 rfl (lv_at hl 1 rfl) ?_
          refine b_ald hx hb hK hP 2 rfl (by omega) (by decide) dX11_as_35 ?_
          rw [hk9]
          refine b_callA (va_runV (As := [.int 4]) (rest := []) ⟨hx, hb, hml, hown, hts⟩ (c_X2_temperOf_4 l D cI cZ cT fa co wy) (cwV 1 hts gX11_as_X2_temperOf rfl rfl rfl (by decide +kernel) ⟨(Nat.le_of_ble_eq_true rfl), (Nat.le_of_ble_eq_true rfl)⟩) (b_pV hK hP [6, 7, 8, 9, 10, 11, 12, 13] rfl 6 rfl rfl) rfl rfl hl.1 rfl (lv_room (Nat.le_of_ble_eq_true rfl)) dX11_as_36 ⟨Nat.zero_le _, Nat.zero_le _⟩).run ?_
          refine lv_iload_n hx hb dX11_as_39 rfl (lv_at hl 2 rfl) ?_
          refine b_call (va_runS (As := [.ref (fa 4), .int x]) (rest := []) ⟨hx, hb, hml, hown, hts⟩ (c_X11_isOfKind_X1 l D cI cZ cT (fa 4) x) (va_cwS 2 hts gX11_as_X11_isOfKind rfl rfl rfl (by decide +kernel) ⟨(Nat.le_of_ble_eq_true rfl), (Nat.le_of_ble_eq_true rfl)⟩) (b_pS hK hP [10] rfl) rfl rfl hl.1 rfl (lv_room (Nat.le_of_ble_eq_true rfl)) dX11_as_40 ⟨Nat.zero_le _, Nat.zero_le _⟩).run ?_
          refine b_ifne (tgt := 52) hx hb dX11_as_43 (by decide) (fun c7 => ?_) (fun c7 => ?_)
          · refine lv_aload_n hx hb dX11_as_52 rfl (lv_at hl 0 rfl) ?_
            refine lv_iload_n hx hb dX11_as_53 rfl (lv_at hl 1 rfl) ?_
            refine b_callM [0] (va_runV (As := [.int (nI (r))]) (rest := []) ⟨hx, hb, hml, hown, hts⟩ (c_X11_well l D cI cZ cT nx ra pa ta da ia xa fa za un na fi (nI (r))) (cwV 1 hts gX11_as_X11_well rfl rfl rfl (by decide +kernel) ⟨(Nat.le_of_ble_eq_true rfl), (Nat.le_of_ble_eq_true rfl)⟩) (b_pVM hK hP hD [0] (by decide) rfl rfl 0 rfl rfl) rfl rfl hl.1 rfl (lv_room (Nat.le_of_ble_eq_true rfl)) dX11_as_54 ⟨Nat.zero_le _, Nat.zero_le _⟩).run hP hD hS rfl (Nat.le_of_ble_eq_true rfl) (fun H locs hP hS => ?_)
            have hP : va_P D vwCl (wNW nx ra pa ta da ia xa fa za un na 0 ++ wTown cI ta st dy ln (nI n) kd dd nt lf ++ wFore cI fa co wy) H := hP
            have hD : va_D A (wNW nx ra pa ta da ia xa fa za un na 0 ++ wTown cI ta st dy ln (nI n) kd dd nt lf ++ wFore cI fa co wy) := hD.sameA [nx, (ta 0), (ta 1), (ta 2), (ta 3), (ta 4), (fa 0), (fa 1), (fa 2), (fa 3), (fa 4), (fa 5), (fa 6), (fa 7)] rfl rfl
            have E : x_as fi n kd (nI r) x = ((nI (r)), 0) := (by unfold x_as; rw [if_neg (fun z => z c1), if_neg c2, if_neg (fun z => z c3), htr, hk9, if_pos ((as_4 x).mpr c7)])
            rw [E]
            exact b_retM hx hb hr hP hS rfl dX11_as_57 hlocks
          · refine lv_aload_n hx hb dX11_as_46 rfl (lv_at hl 0 rfl) ?_
            refine lv_iconst (v := 3) hx hb dX11_as_47 (by decide) ?_
            refine b_callM [0] (va_runV (As := [.int 3]) (rest := []) ⟨hx, hb, hml, hown, hts⟩ (c_X11_found l D cI cZ cT nx ra pa ta da ia xa fa za un na fi 3) (cwV 1 hts gX11_as_X11_found rfl rfl rfl (by decide +kernel) ⟨(Nat.le_of_ble_eq_true rfl), (Nat.le_of_ble_eq_true rfl)⟩) (b_pVM hK hP hD [0] (by decide) rfl rfl 0 rfl rfl) rfl rfl hl.1 rfl (lv_room (Nat.le_of_ble_eq_true rfl)) dX11_as_48 ⟨Nat.zero_le _, Nat.zero_le _⟩).run hP hD hS rfl (Nat.le_of_ble_eq_true rfl) (fun H locs hP hS => ?_)
            have hP : va_P D vwCl (wNW nx ra pa ta da ia xa fa za un na 3 ++ wTown cI ta st dy ln (nI n) kd dd nt lf ++ wFore cI fa co wy) H := hP
            have hD : va_D A (wNW nx ra pa ta da ia xa fa za un na 3 ++ wTown cI ta st dy ln (nI n) kd dd nt lf ++ wFore cI fa co wy) := hD.sameA [nx, (ta 0), (ta 1), (ta 2), (ta 3), (ta 4), (fa 0), (fa 1), (fa 2), (fa 3), (fa 4), (fa 5), (fa 6), (fa 7)] rfl rfl
            have E : x_as fi n kd (nI r) x = ((-1000010) - 3, 3) := (by unfold x_as; rw [if_neg (fun z => z c1), if_neg c2, if_neg (fun z => z c3), htr, hk9, if_neg (fun z => c7 ((as_4 x).mp z))])
            rw [E]
            exact b_retM hx hb hr hP hS rfl dX11_as_51 hlocks
        · refine lv_aload_n hx hb dX11_as_23 rfl (lv_at hl 0 rfl) ?_
          refine va_get (D := D) (ci := 10) (v := .ref (fa 0)) (C := RX11) (T := TX11) (N := 11) hx hb hts u_X11_as_X11 hown hK.1 hP 0 rfl rfl 8 (by decide) (hts (.fieldLink RX11 50 "NoticeWeek" "foresight" "LNoticeWeek$Foresight;") (List.mem_of_getElem? (i := 3) rfl)) (fun _ h9 => h9) rfl dX11_as_24 ?_
          refine lv_aload_n hx hb dX11_as_27 rfl (lv_at hl 0 rfl) ?_
          refine va_get (D := D) (ci := 10) (v := .ref (ta 0)) (C := RX11) (T := TX11) (N := 11) hx hb hts u_X11_as_X11 hown hK.1 hP 0 rfl rfl 2 (by decide) (hts (.fieldLink RX11 26 "NoticeWeek" "town" "LNoticeWeek$Town;") (List.mem_of_getElem? (i := 1) rfl)) (fun _ h9 => h9) rfl dX11_as_28 ?_
          refine va_get (D := D) (ci := 7) (v := .ref (ta 1)) (C := RX8) (T := TX8) (N := 8) hx hb hts u_X11_as_X8 hown hK.1 hP 1 rfl rfl 4 (by decide) (hts (.fieldLink RX11 242 "NoticeWeek$Town" "kind" "[I") (List.mem_of_getElem? (i := 4) rfl)) (fun _ h9 => h9) rfl dX11_as_31 ?_
          refine lv_iload_n hx hb dX11_as_34 rfl (lv_at hl 1 rfl) ?_
          refine b_ald hx hb hK hP 2 rfl (by omega) (by decide) dX11_as_35 ?_
          rw [hk9]
          refine b_callA (va_runV (As := [.int 5]) (rest := []) ⟨hx, hb, hml, hown, hts⟩ (c_X2_temperOf_5 l D cI cZ cT fa co wy) (cwV 1 hts gX11_as_X2_temperOf rfl rfl rfl (by decide +kernel) ⟨(Nat.le_of_ble_eq_true rfl), (Nat.le_of_ble_eq_true rfl)⟩) (b_pV hK hP [6, 7, 8, 9, 10, 11, 12, 13] rfl 6 rfl rfl) rfl rfl hl.1 rfl (lv_room (Nat.le_of_ble_eq_true rfl)) dX11_as_36 ⟨Nat.zero_le _, Nat.zero_le _⟩).run ?_
          refine lv_iload_n hx hb dX11_as_39 rfl (lv_at hl 2 rfl) ?_
          refine b_call (va_runS (As := [.ref (fa 5), .int x]) (rest := []) ⟨hx, hb, hml, hown, hts⟩ (c_X11_isOfKind_X0 l D cI cZ cT (fa 5) x) (va_cwS 2 hts gX11_as_X11_isOfKind rfl rfl rfl (by decide +kernel) ⟨(Nat.le_of_ble_eq_true rfl), (Nat.le_of_ble_eq_true rfl)⟩) (b_pS hK hP [11] rfl) rfl rfl hl.1 rfl (lv_room (Nat.le_of_ble_eq_true rfl)) dX11_as_40 ⟨Nat.zero_le _, Nat.zero_le _⟩).run ?_
          refine b_ifne (tgt := 52) hx hb dX11_as_43 (by decide) (fun c8 => ?_) (fun c8 => ?_)
          · refine lv_aload_n hx hb dX11_as_52 rfl (lv_at hl 0 rfl) ?_
            refine lv_iload_n hx hb dX11_as_53 rfl (lv_at hl 1 rfl) ?_
            refine b_callM [0] (va_runV (As := [.int (nI (r))]) (rest := []) ⟨hx, hb, hml, hown, hts⟩ (c_X11_well l D cI cZ cT nx ra pa ta da ia xa fa za un na fi (nI (r))) (cwV 1 hts gX11_as_X11_well rfl rfl rfl (by decide +kernel) ⟨(Nat.le_of_ble_eq_true rfl), (Nat.le_of_ble_eq_true rfl)⟩) (b_pVM hK hP hD [0] (by decide) rfl rfl 0 rfl rfl) rfl rfl hl.1 rfl (lv_room (Nat.le_of_ble_eq_true rfl)) dX11_as_54 ⟨Nat.zero_le _, Nat.zero_le _⟩).run hP hD hS rfl (Nat.le_of_ble_eq_true rfl) (fun H locs hP hS => ?_)
            have hP : va_P D vwCl (wNW nx ra pa ta da ia xa fa za un na 0 ++ wTown cI ta st dy ln (nI n) kd dd nt lf ++ wFore cI fa co wy) H := hP
            have hD : va_D A (wNW nx ra pa ta da ia xa fa za un na 0 ++ wTown cI ta st dy ln (nI n) kd dd nt lf ++ wFore cI fa co wy) := hD.sameA [nx, (ta 0), (ta 1), (ta 2), (ta 3), (ta 4), (fa 0), (fa 1), (fa 2), (fa 3), (fa 4), (fa 5), (fa 6), (fa 7)] rfl rfl
            have E : x_as fi n kd (nI r) x = ((nI (r)), 0) := (by unfold x_as; rw [if_neg (fun z => z c1), if_neg c2, if_neg (fun z => z c3), htr, hk9, if_pos ((as_5 x).mpr c8)])
            rw [E]
            exact b_retM hx hb hr hP hS rfl dX11_as_57 hlocks
          · refine lv_aload_n hx hb dX11_as_46 rfl (lv_at hl 0 rfl) ?_
            refine lv_iconst (v := 3) hx hb dX11_as_47 (by decide) ?_
            refine b_callM [0] (va_runV (As := [.int 3]) (rest := []) ⟨hx, hb, hml, hown, hts⟩ (c_X11_found l D cI cZ cT nx ra pa ta da ia xa fa za un na fi 3) (cwV 1 hts gX11_as_X11_found rfl rfl rfl (by decide +kernel) ⟨(Nat.le_of_ble_eq_true rfl), (Nat.le_of_ble_eq_true rfl)⟩) (b_pVM hK hP hD [0] (by decide) rfl rfl 0 rfl rfl) rfl rfl hl.1 rfl (lv_room (Nat.le_of_ble_eq_true rfl)) dX11_as_48 ⟨Nat.zero_le _, Nat.zero_le _⟩).run hP hD hS rfl (Nat.le_of_ble_eq_true rfl) (fun H locs hP hS => ?_)
            have hP : va_P D vwCl (wNW nx ra pa ta da ia xa fa za un na 3 ++ wTown cI ta st dy ln (nI n) kd dd nt lf ++ wFore cI fa co wy) H := hP
            have hD : va_D A (wNW nx ra pa ta da ia xa fa za un na 3 ++ wTown cI ta st dy ln (nI n) kd dd nt lf ++ wFore cI fa co wy) := hD.sameA [nx, (ta 0), (ta 1), (ta 2), (ta 3), (ta 4), (fa 0), (fa 1), (fa 2), (fa 3), (fa 4), (fa 5), (fa 6), (fa 7)] rfl rfl
            have E : x_as fi n kd (nI r) x = ((-1000010) - 3, 3) := (by unfold x_as; rw [if_neg (fun z => z c1), if_neg c2, if_neg (fun z => z c3), htr, hk9, if_neg (fun z => c8 ((as_5 x).mp z))])
            rw [E]
            exact b_retM hx hb hr hP hS rfl dX11_as_51 hlocks
      · refine lv_ldc (v := (-1000001)) hx hb hown (hts (.constant RX11 71 (-1000001)) (List.mem_of_getElem? (i := 2) rfl)) dX11_as_20 ?_
        have E : x_as fi n kd reader x = ((-1000001), fi) := (by unfold x_as; rw [if_neg (fun z => z c1), if_neg c2, if_pos c3])
        rw [E]
        exact b_retM hx hb hr hP hS rfl dX11_as_22 hlocks
theorem u_X11_ask_X11 : ∀ w ∈ wsX110, w ∈ wsX11_ask := fun _ h => List.mem_cons_of_mem _ (List.mem_append_left _ (List.mem_append_left _ (List.mem_append_left _ (List.mem_append_right _ h))))
theorem u_X11_ask_X8 : ∀ w ∈ wsX80, w ∈ wsX11_ask := fun _ h => List.mem_cons_of_mem _ (List.mem_append_left _ (List.mem_append_left _ (List.mem_append_right _ h)))
set_option maxHeartbeats 1000000 in
set_option maxRecDepth 100000 in
theorem c_X11_ask (l : Launch) (D : va_G) (cI cZ cT : ClassId) (nx : Nat) (ra pa ta da : Nat → Nat) (ia xa : Nat) (fa za : Nat → Nat) (un na fi st dy ln : Int32) (n : Nat) (kd dd nt lf co wy : Nat → Int32) (σ : Nat × (Nat → Int32)) (reader what : Int32) (hn : n ≤ 6) (hA : ∀ j, j < n → isK (kd j) ∧ isL (lf j)) (hz : σ.1 ≤ 16) : Met l yX11_ask wsX11_ask ({ frames := 6, cells := 0, slots := 0, locals := 136 }) (pM D cI cZ cT [.ref nx, .int reader, .int what] (wNW nx ra pa ta da ia xa fa za un na fi ++ wTown cI ta st dy ln (nI n) kd dd nt lf ++ wFore cI fa co wy ++ wTrace cI za (nI σ.1) σ.2)) (qM D (some (.int ((x_ask n kd dd nt σ reader what).1))) (wNW nx ra pa ta da ia xa fa za un na fi ++ wTown cI ta st dy ln (nI n) kd dd nt lf ++ wFore cI fa co wy ++ wTrace cI za (nI (x_ask n kd dd nt σ reader what).2.1) ((x_ask n kd dd nt σ reader what).2.2)) (adr (wNW nx ra pa ta da ia xa fa za un na fi ++ wTown cI ta st dy ln (nI n) kd dd nt lf ++ wFore cI fa co wy ++ wTrace cI za (nI σ.1) σ.2))) 0 0 (adr (wNW nx ra pa ta da ia xa fa za un na fi ++ wTown cI ta st dy ln (nI n) kd dd nt lf ++ wFore cI fa co wy ++ wTrace cI za (nI σ.1) σ.2)) := by
  refine Met.ofW (cc := cX11_ask) (maxL := 4) (ret := (some .int)) (by decide) rfl ?_
  intro p e s m args below meth c s₁ B hml hv
  obtain ⟨rfl, hP, hD0, hK⟩ := hv
  have hx := B.exec
  have hb := B.bytes
  have hr := B.returns
  have hts := atoms_spec (ws := wsX11_ask) B.pre
  have hown : s.vm.findClass RX11 = some m.cls := findClass_of_methodNamed B.named
  have hlocks := B.notSynchronized
  have hD := hD0.toAdr
  have hS : va_S (adr (wNW nx ra pa ta da ia xa fa za un na fi ++ wTown cI ta st dy ln (nI n) kd dd nt lf ++ wFore cI fa co wy ++ wTrace cI za (nI σ.1) σ.2)) s.heap s.heap [] := va_S.rf
  generalize adr (wNW nx ra pa ta da ia xa fa za un na fi ++ wTown cI ta st dy ln (nI n) kd dd nt lf ++ wFore cI fa co wy ++ wTrace cI za (nI σ.1) σ.2) = A at hD hS ⊢
  have hl := lv_entry ([.ref nx, .int reader, .int what]) (n := 4) (Nat.le_of_ble_eq_true rfl)
  rw [lg_entry_eq]
  generalize (lg_sl ([.ref nx, .int reader, .int what]) ++ List.replicate (4 - (lg_sl ([.ref nx, .int reader, .int what])).length) Slot.unset).toArray = ls at hl ⊢
  have hl : lv_has ls 4 [(0, .ref nx), (1, .int reader), (2, .int what)] := hl
  refine lv_aload_n hx hb dX11_ask_0 rfl (lv_at hl 0 rfl) ?_
  refine va_get (D := D) (ci := 10) (v := .ref (ta 0)) (C := RX11) (T := TX11) (N := 11) hx hb hts u_X11_ask_X11 hown hK.1 hP 0 rfl rfl 2 (by decide) (hts (.fieldLink RX11 26 "NoticeWeek" "town" "LNoticeWeek$Town;") (List.mem_of_getElem? (i := 1) rfl)) (fun _ h9 => h9) rfl dX11_ask_1 ?_
  refine lv_iload_n hx hb dX11_ask_4 rfl (lv_at hl 1 rfl) ?_
  refine b_call (va_runV (As := [.int reader]) (rest := []) ⟨hx, hb, hml, hown, hts⟩ (c_X8_has l D cI cZ cT ta st dy ln (nI n) kd dd nt lf reader) (cwV 1 hts gX11_ask_X8_has rfl rfl rfl (by decide +kernel) ⟨(Nat.le_of_ble_eq_true rfl), (Nat.le_of_ble_eq_true rfl)⟩) (b_pV hK hP [1, 2, 3, 4, 5] rfl 1 rfl rfl) rfl rfl hl.1 rfl (lv_room (Nat.le_of_ble_eq_true rfl)) dX11_ask_5 ⟨Nat.zero_le _, Nat.zero_le _⟩).run ?_
  refine b_ifeq (tgt := 18) hx hb dX11_ask_8 (by decide) (fun c1 => ?_) (fun c1 => ?_)
  · refine lv_ldc (v := (-1000001)) hx hb hown (hts (.constant RX11 71 (-1000001)) (List.mem_of_getElem? (i := 2) rfl)) dX11_ask_18 ?_
    have E : x_ask n kd dd nt σ reader what = ((-1000001), σ) := (by first | (simp only [x_ask, eq_false c1, bI, not_true_eq_false, not_false_eq_true, ite_true, ite_false, if_true, if_false, and_self, and_true, true_and, false_and, and_false, or_true, true_or, or_false, false_or, eq_self]; done) | (simp [x_ask, eq_false c1, bI]; done))
    rw [E]
    exact b_retM hx hb hr hP hS rfl dX11_ask_20 hlocks
  · refine lv_iload_n hx hb dX11_ask_11 rfl (lv_at hl 2 rfl) ?_
    refine b_call (va_runS (As := [.int what]) (rest := []) ⟨hx, hb, hml, hown, hts⟩ (c_X11_isChoice l D cI cZ cT what) (va_cwS 1 hts gX11_ask_X11_isChoice rfl rfl rfl (by decide +kernel) ⟨(Nat.le_of_ble_eq_true rfl), (Nat.le_of_ble_eq_true rfl)⟩) (b_pS0 hK) rfl rfl hl.1 rfl (lv_room (Nat.le_of_ble_eq_true rfl)) dX11_ask_12 ⟨Nat.zero_le _, Nat.zero_le _⟩).run ?_
    refine b_ifne (tgt := 21) hx hb dX11_ask_15 (by decide) (fun c2 => ?_) (fun c2 => ?_)
    · obtain ⟨r, hh_r, rfl⟩ : ∃ r : Nat, r ≤ 5 ∧ reader = nI r := has_r hn c1
      have hl : lv_has ls 4 [(0, .ref nx), (1, .int (nI (r))), (2, .int what)] := hl
      have htr : tn (nI r) = r := tn_nI hh_r
      have hrn : r < n := rd_lt hn hh_r c1
      rcases (hA r hrn).1 with hk9 | hk9 | hk9 | hk9 | hk9
      · refine lv_aload_n hx hb dX11_ask_21 rfl (lv_at hl 0 rfl) ?_
        refine va_get (D := D) (ci := 10) (v := .ref (za 0)) (C := RX11) (T := TX11) (N := 11) hx hb hts u_X11_ask_X11 hown hK.1 hP 0 rfl rfl 9 (by decide) (hts (.fieldLink RX11 57 "NoticeWeek" "trace" "LNoticeWeek$Trace;") (List.mem_of_getElem? (i := 3) rfl)) (fun _ h9 => h9) rfl dX11_ask_22 ?_
        refine b_callM [14, 15] (va_runV (As := []) (rest := []) ⟨hx, hb, hml, hown, hts⟩ (c_X9_clear l D cI cZ cT za (nI σ.1) σ.2) (cwV 0 hts gX11_ask_X9_clear rfl rfl rfl (by decide +kernel) ⟨(Nat.le_of_ble_eq_true rfl), (Nat.le_of_ble_eq_true rfl)⟩) (b_pVM hK hP hD [14, 15] (by decide) rfl rfl 14 rfl rfl) rfl rfl hl.1 rfl (lv_room (Nat.le_of_ble_eq_true rfl)) dX11_ask_25 ⟨Nat.zero_le _, Nat.zero_le _⟩).run hP hD hS rfl (Nat.le_of_ble_eq_true rfl) (fun H locs hP hS => ?_)
        have hP : va_P D vwCl (wNW nx ra pa ta da ia xa fa za un na fi ++ wTown cI ta st dy ln (nI n) kd dd nt lf ++ wFore cI fa co wy ++ wTrace cI za (nI 0) σ.2) H := hP
        have hD : va_D A (wNW nx ra pa ta da ia xa fa za un na fi ++ wTown cI ta st dy ln (nI n) kd dd nt lf ++ wFore cI fa co wy ++ wTrace cI za (nI 0) σ.2) := hD.sameA [nx, (ta 0), (ta 1), (ta 2), (ta 3), (ta 4), (fa 0), (fa 1), (fa 2), (fa 3), (fa 4), (fa 5), (fa 6), (fa 7), (za 0), (za 1)] rfl rfl
        refine lv_aload_n hx hb dX11_ask_28 rfl (lv_at hl 0 rfl) ?_
        refine va_get (D := D) (ci := 10) (v := .ref (fa 0)) (C := RX11) (T := TX11) (N := 11) hx hb hts u_X11_ask_X11 hown hK.1 hP 0 rfl rfl 8 (by decide) (hts (.fieldLink RX11 50 "NoticeWeek" "foresight" "LNoticeWeek$Foresight;") (List.mem_of_getElem? (i := 4) rfl)) (fun _ h9 => h9) rfl dX11_ask_29 ?_
        refine lv_aload_n hx hb dX11_ask_32 rfl (lv_at hl 0 rfl) ?_
        refine va_get (D := D) (ci := 10) (v := .ref (ta 0)) (C := RX11) (T := TX11) (N := 11) hx hb hts u_X11_ask_X11 hown hK.1 hP 0 rfl rfl 2 (by decide) (hts (.fieldLink RX11 26 "NoticeWeek" "town" "LNoticeWeek$Town;") (List.mem_of_getElem? (i := 1) rfl)) (fun _ h9 => h9) rfl dX11_ask_33 ?_
        refine va_get (D := D) (ci := 7) (v := .ref (ta 1)) (C := RX8) (T := TX8) (N := 8) hx hb hts u_X11_ask_X8 hown hK.1 hP 1 rfl rfl 4 (by decide) (hts (.fieldLink RX11 242 "NoticeWeek$Town" "kind" "[I") (List.mem_of_getElem? (i := 5) rfl)) (fun _ h9 => h9) rfl dX11_ask_36 ?_
        refine lv_iload_n hx hb dX11_ask_39 rfl (lv_at hl 1 rfl) ?_
        refine b_ald hx hb hK hP 2 rfl (by omega) (by decide) dX11_ask_40 ?_
        rw [hk9]
        refine b_callA (va_runV (As := [.int 1]) (rest := []) ⟨hx, hb, hml, hown, hts⟩ (c_X2_temperOf_1 l D cI cZ cT fa co wy) (cwV 1 hts gX11_ask_X2_temperOf rfl rfl rfl (by decide +kernel) ⟨(Nat.le_of_ble_eq_true rfl), (Nat.le_of_ble_eq_true rfl)⟩) (b_pV hK hP [6, 7, 8, 9, 10, 11, 12, 13] rfl 6 rfl rfl) rfl rfl hl.1 rfl (lv_room (Nat.le_of_ble_eq_true rfl)) dX11_ask_41 ⟨Nat.zero_le _, Nat.zero_le _⟩).run ?_
        refine lv_astore_n (lv' := [(3, .ref (fa 1)), (0, .ref nx), (1, .int (nI (r))), (2, .int what)]) hx hb dX11_ask_44 rfl hl (by decide) rfl (fun ls hl => ?_)
        refine lv_iload_n hx hb dX11_ask_45 rfl (lv_at hl 3 rfl) ?_
        refine lv_if_ne (tgt := 65) hx hb dX11_ask_46 (by decide) (fun c3 => ?_) (fun c3 => ?_)
        · refine lv_aload_n hx hb dX11_ask_65 rfl (lv_at hl 0 rfl) ?_
          refine lv_aload_n hx hb dX11_ask_66 rfl (lv_at hl 1 rfl) ?_
          refine va_get (D := D) (ci := 10) (v := .ref (ta 0)) (C := RX11) (T := TX11) (N := 11) hx hb hts u_X11_ask_X11 hown hK.1 hP 0 rfl rfl 2 (by decide) (hts (.fieldLink RX11 26 "NoticeWeek" "town" "LNoticeWeek$Town;") (List.mem_of_getElem? (i := 1) rfl)) (fun _ h9 => h9) rfl dX11_ask_67 ?_
          refine lv_iload_n hx hb dX11_ask_70 rfl (lv_at hl 2 rfl) ?_
          refine lv_aload_n hx hb dX11_ask_71 rfl (lv_at hl 1 rfl) ?_
          refine va_get (D := D) (ci := 10) (v := .ref (za 0)) (C := RX11) (T := TX11) (N := 11) hx hb hts u_X11_ask_X11 hown hK.1 hP 0 rfl rfl 9 (by decide) (hts (.fieldLink RX11 57 "NoticeWeek" "trace" "LNoticeWeek$Trace;") (List.mem_of_getElem? (i := 3) rfl)) (fun _ h9 => h9) rfl dX11_ask_72 ?_
          refine b_callM [1, 2, 3, 4, 5, 14, 15, 7] (va_runU (As := [.ref (ta 0), .int (nI (r)), .ref (za 0)]) (rest := []) ⟨hx, hb, hml, hown, hts⟩ (c_X3_mark_X3 l D cI cZ cT ta st dy ln (nI n) kd dd nt lf za (fa 1) (0, σ.2) r (by omega) (by omega)) (va_cwO 3 hts gX11_ask_X3_mark_u274X3 rfl rfl rfl (b0 := cX7_mark) (m0 := 4) (r0 := (some .int)) (List.mem_of_getElem? (i := 81) rfl) (by decide +kernel) ⟨(Nat.le_of_ble_eq_true rfl), (Nat.le_of_ble_eq_true rfl)⟩) (b_pVM hK hP hD [1, 2, 3, 4, 5, 14, 15, 7] (by decide) rfl rfl 7 rfl rfl) rfl rfl hl.1 rfl (lv_room (Nat.le_of_ble_eq_true rfl)) dX11_ask_75 ⟨Nat.zero_le _, Nat.zero_le _⟩).run hP hD hS rfl (Nat.le_of_ble_eq_true rfl) (fun H locs hP hS => ?_)
          have hP : va_P D vwCl (wNW nx ra pa ta da ia xa fa za un na fi ++ wTown cI ta st dy ln (nI n) kd dd nt lf ++ wFore cI fa co wy ++ wTrace cI za (nI (m_beg (m_beg (0, σ.2) 21) 20).1) ((m_beg (m_beg (0, σ.2) 21) 20).2)) H := hP
          generalize eq75 : m_beg (m_beg (0, σ.2) 21) 20 = q75 at hP ⊢
          have hP : va_P D vwCl (wNW nx ra pa ta da ia xa fa za un na fi ++ wTown cI ta st dy ln (nI n) kd dd nt lf ++ wFore cI fa co wy ++ wTrace cI za (nI q75.1) q75.2) H := hP
          have hD : va_D A (wNW nx ra pa ta da ia xa fa za un na fi ++ wTown cI ta st dy ln (nI n) kd dd nt lf ++ wFore cI fa co wy ++ wTrace cI za (nI q75.1) q75.2) := hD.sameA [nx, (ta 0), (ta 1), (ta 2), (ta 3), (ta 4), (fa 0), (fa 1), (fa 2), (fa 3), (fa 4), (fa 5), (fa 6), (fa 7), (za 0), (za 1)] rfl rfl
          have E : x_ask n kd dd nt σ (nI r) what = (nI r + bc32 (dd r), q75) := (by unfold x_ask; rw [if_neg (fun z => z c1), if_neg (fun z => z c2), if_neg c3, htr, hk9]; unfold aMk; rw [if_pos rfl, eq75])
          rw [E]
          exact b_retM hx hb hr hP hS rfl dX11_ask_78 hlocks
        · refine lv_aload_n hx hb dX11_ask_49 rfl (lv_at hl 0 rfl) ?_
          refine lv_aload_n hx hb dX11_ask_50 rfl (lv_at hl 1 rfl) ?_
          refine va_get (D := D) (ci := 10) (v := .ref (ta 0)) (C := RX11) (T := TX11) (N := 11) hx hb hts u_X11_ask_X11 hown hK.1 hP 0 rfl rfl 2 (by decide) (hts (.fieldLink RX11 26 "NoticeWeek" "town" "LNoticeWeek$Town;") (List.mem_of_getElem? (i := 1) rfl)) (fun _ h9 => h9) rfl dX11_ask_51 ?_
          refine lv_iload_n hx hb dX11_ask_54 rfl (lv_at hl 2 rfl) ?_
          refine lv_aload_n hx hb dX11_ask_55 rfl (lv_at hl 1 rfl) ?_
          refine va_get (D := D) (ci := 10) (v := .ref (za 0)) (C := RX11) (T := TX11) (N := 11) hx hb hts u_X11_ask_X11 hown hK.1 hP 0 rfl rfl 9 (by decide) (hts (.fieldLink RX11 57 "NoticeWeek" "trace" "LNoticeWeek$Trace;") (List.mem_of_getElem? (i := 3) rfl)) (fun _ h9 => h9) rfl dX11_ask_56 ?_
          refine b_callM [1, 2, 3, 4, 5, 14, 15, 7] (va_runU (As := [.ref (ta 0), .int (nI (r)), .ref (za 0)]) (rest := []) ⟨hx, hb, hml, hown, hts⟩ (c_X3_size_X3 l D cI cZ cT ta st dy ln (nI n) kd dd nt lf za (fa 1) (0, σ.2) r (by omega) (by omega)) (va_cwO 3 hts gX11_ask_X3_size_u268X3 rfl rfl rfl (b0 := cX7_size) (m0 := 4) (r0 := (some .int)) (List.mem_of_getElem? (i := 55) rfl) (by decide +kernel) ⟨(Nat.le_of_ble_eq_true rfl), (Nat.le_of_ble_eq_true rfl)⟩) (b_pVM hK hP hD [1, 2, 3, 4, 5, 14, 15, 7] (by decide) rfl rfl 7 rfl rfl) rfl rfl hl.1 rfl (lv_room (Nat.le_of_ble_eq_true rfl)) dX11_ask_59 ⟨Nat.zero_le _, Nat.zero_le _⟩).run hP hD hS rfl (Nat.le_of_ble_eq_true rfl) (fun H locs hP hS => ?_)
          have hP : va_P D vwCl (wNW nx ra pa ta da ia xa fa za un na fi ++ wTown cI ta st dy ln (nI n) kd dd nt lf ++ wFore cI fa co wy ++ wTrace cI za (nI (m_beg (m_beg (m_beg (m_beg (0, σ.2) 11) 10) 21) 20).1) ((m_beg (m_beg (m_beg (m_beg (0, σ.2) 11) 10) 21) 20).2)) H := hP
          generalize eq59 : m_beg (m_beg (m_beg (m_beg (0, σ.2) 11) 10) 21) 20 = q59 at hP ⊢
          have hP : va_P D vwCl (wNW nx ra pa ta da ia xa fa za un na fi ++ wTown cI ta st dy ln (nI n) kd dd nt lf ++ wFore cI fa co wy ++ wTrace cI za (nI q59.1) q59.2) H := hP
          have hD : va_D A (wNW nx ra pa ta da ia xa fa za un na fi ++ wTown cI ta st dy ln (nI n) kd dd nt lf ++ wFore cI fa co wy ++ wTrace cI za (nI q59.1) q59.2) := hD.sameA [nx, (ta 0), (ta 1), (ta 2), (ta 3), (ta 4), (fa 0), (fa 1), (fa 2), (fa 3), (fa 4), (fa 5), (fa 6), (fa 7), (za 0), (za 1)] rfl rfl
          refine lv_goto (tgt := 78) hx hb dX11_ask_62 (by decide) ?_
          have E : x_ask n kd dd nt σ (nI r) what = (bc32 (nt r) + (nI r + bc32 (dd r)), q59) := (by unfold x_ask; rw [if_neg (fun z => z c1), if_neg (fun z => z c2), if_pos c3, htr, hk9]; unfold aSz; rw [if_pos rfl, eq59])
          rw [E]
          exact b_retM hx hb hr hP hS rfl dX11_ask_78 hlocks
      · refine lv_aload_n hx hb dX11_ask_21 rfl (lv_at hl 0 rfl) ?_
        refine va_get (D := D) (ci := 10) (v := .ref (za 0)) (C := RX11) (T := TX11) (N := 11) hx hb hts u_X11_ask_X11 hown hK.1 hP 0 rfl rfl 9 (by decide) (hts (.fieldLink RX11 57 "NoticeWeek" "trace" "LNoticeWeek$Trace;") (List.mem_of_getElem? (i := 3) rfl)) (fun _ h9 => h9) rfl dX11_ask_22 ?_
        refine b_callM [14, 15] (va_runV (As := []) (rest := []) ⟨hx, hb, hml, hown, hts⟩ (c_X9_clear l D cI cZ cT za (nI σ.1) σ.2) (cwV 0 hts gX11_ask_X9_clear rfl rfl rfl (by decide +kernel) ⟨(Nat.le_of_ble_eq_true rfl), (Nat.le_of_ble_eq_true rfl)⟩) (b_pVM hK hP hD [14, 15] (by decide) rfl rfl 14 rfl rfl) rfl rfl hl.1 rfl (lv_room (Nat.le_of_ble_eq_true rfl)) dX11_ask_25 ⟨Nat.zero_le _, Nat.zero_le _⟩).run hP hD hS rfl (Nat.le_of_ble_eq_true rfl) (fun H locs hP hS => ?_)
        have hP : va_P D vwCl (wNW nx ra pa ta da ia xa fa za un na fi ++ wTown cI ta st dy ln (nI n) kd dd nt lf ++ wFore cI fa co wy ++ wTrace cI za (nI 0) σ.2) H := hP
        have hD : va_D A (wNW nx ra pa ta da ia xa fa za un na fi ++ wTown cI ta st dy ln (nI n) kd dd nt lf ++ wFore cI fa co wy ++ wTrace cI za (nI 0) σ.2) := hD.sameA [nx, (ta 0), (ta 1), (ta 2), (ta 3), (ta 4), (fa 0), (fa 1), (fa 2), (fa 3), (fa 4), (fa 5), (fa 6), (fa 7), (za 0), (za 1)] rfl rfl
        refine lv_aload_n hx hb dX11_ask_28 rfl (lv_at hl 0 rfl) ?_
        refine va_get (D := D) (ci := 10) (v := .ref (fa 0)) (C := RX11) (T := TX11) (N := 11) hx hb hts u_X11_ask_X11 hown hK.1 hP 0 rfl rfl 8 (by decide) (hts (.fieldLink RX11 50 "NoticeWeek" "foresight" "LNoticeWeek$Foresight;") (List.mem_of_getElem? (i := 4) rfl)) (fun _ h9 => h9) rfl dX11_ask_29 ?_
        refine lv_aload_n hx hb dX11_ask_32 rfl (lv_at hl 0 rfl) ?_
        refine va_get (D := D) (ci := 10) (v := .ref (ta 0)) (C := RX11) (T := TX11) (N := 11) hx hb hts u_X11_ask_X11 hown hK.1 hP 0 rfl rfl 2 (by decide) (hts (.fieldLink RX11 26 "NoticeWeek" "town" "LNoticeWeek$Town;") (List.mem_of_getElem? (i := 1) rfl)) (fun _ h9 => h9) rfl dX11_ask_33 ?_
        refine va_get (D := D) (ci := 7) (v := .ref (ta 1)) (C := RX8) (T := TX8) (N := 8) hx hb hts u_X11_ask_X8 hown hK.1 hP 1 rfl rfl 4 (by decide) (hts (.fieldLink RX11 242 "NoticeWeek$Town" "kind" "[I") (List.mem_of_getElem? (i := 5) rfl)) (fun _ h9 => h9) rfl dX11_ask_36 ?_
        refine lv_iload_n hx hb dX11_ask_39 rfl (lv_at hl 1 rfl) ?_
        refine b_ald hx hb hK hP 2 rfl (by omega) (by decide) dX11_ask_40 ?_
        rw [hk9]
        refine b_callA (va_runV (As := [.int 2]) (rest := []) ⟨hx, hb, hml, hown, hts⟩ (c_X2_temperOf_2 l D cI cZ cT fa co wy) (cwV 1 hts gX11_ask_X2_temperOf rfl rfl rfl (by decide +kernel) ⟨(Nat.le_of_ble_eq_true rfl), (Nat.le_of_ble_eq_true rfl)⟩) (b_pV hK hP [6, 7, 8, 9, 10, 11, 12, 13] rfl 6 rfl rfl) rfl rfl hl.1 rfl (lv_room (Nat.le_of_ble_eq_true rfl)) dX11_ask_41 ⟨Nat.zero_le _, Nat.zero_le _⟩).run ?_
        refine lv_astore_n (lv' := [(3, .ref (fa 2)), (0, .ref nx), (1, .int (nI (r))), (2, .int what)]) hx hb dX11_ask_44 rfl hl (by decide) rfl (fun ls hl => ?_)
        refine lv_iload_n hx hb dX11_ask_45 rfl (lv_at hl 3 rfl) ?_
        refine lv_if_ne (tgt := 65) hx hb dX11_ask_46 (by decide) (fun c4 => ?_) (fun c4 => ?_)
        · refine lv_aload_n hx hb dX11_ask_65 rfl (lv_at hl 0 rfl) ?_
          refine lv_aload_n hx hb dX11_ask_66 rfl (lv_at hl 1 rfl) ?_
          refine va_get (D := D) (ci := 10) (v := .ref (ta 0)) (C := RX11) (T := TX11) (N := 11) hx hb hts u_X11_ask_X11 hown hK.1 hP 0 rfl rfl 2 (by decide) (hts (.fieldLink RX11 26 "NoticeWeek" "town" "LNoticeWeek$Town;") (List.mem_of_getElem? (i := 1) rfl)) (fun _ h9 => h9) rfl dX11_ask_67 ?_
          refine lv_iload_n hx hb dX11_ask_70 rfl (lv_at hl 2 rfl) ?_
          refine lv_aload_n hx hb dX11_ask_71 rfl (lv_at hl 1 rfl) ?_
          refine va_get (D := D) (ci := 10) (v := .ref (za 0)) (C := RX11) (T := TX11) (N := 11) hx hb hts u_X11_ask_X11 hown hK.1 hP 0 rfl rfl 9 (by decide) (hts (.fieldLink RX11 57 "NoticeWeek" "trace" "LNoticeWeek$Trace;") (List.mem_of_getElem? (i := 3) rfl)) (fun _ h9 => h9) rfl dX11_ask_72 ?_
          refine b_callM [1, 2, 3, 4, 5, 14, 15, 8] (va_runU (As := [.ref (ta 0), .int (nI (r)), .ref (za 0)]) (rest := []) ⟨hx, hb, hml, hown, hts⟩ (c_X10_mark_X10 l D cI cZ cT ta st dy ln (nI n) kd dd nt lf za (fa 2) (0, σ.2) r (by omega) (by omega)) (va_cwO 3 hts gX11_ask_X10_mark_u274X10 rfl rfl rfl (b0 := cX7_mark) (m0 := 4) (r0 := (some .int)) (List.mem_of_getElem? (i := 81) rfl) (by decide +kernel) ⟨(Nat.le_of_ble_eq_true rfl), (Nat.le_of_ble_eq_true rfl)⟩) (b_pVM hK hP hD [1, 2, 3, 4, 5, 14, 15, 8] (by decide) rfl rfl 8 rfl rfl) rfl rfl hl.1 rfl (lv_room (Nat.le_of_ble_eq_true rfl)) dX11_ask_75 ⟨Nat.zero_le _, Nat.zero_le _⟩).run hP hD hS rfl (Nat.le_of_ble_eq_true rfl) (fun H locs hP hS => ?_)
          have hP : va_P D vwCl (wNW nx ra pa ta da ia xa fa za un na fi ++ wTown cI ta st dy ln (nI n) kd dd nt lf ++ wFore cI fa co wy ++ wTrace cI za (nI (m_beg (m_beg (m_beg (0, σ.2) 24) 21) 20).1) ((m_beg (m_beg (m_beg (0, σ.2) 24) 21) 20).2)) H := hP
          generalize eq75 : m_beg (m_beg (m_beg (0, σ.2) 24) 21) 20 = q75 at hP ⊢
          have hP : va_P D vwCl (wNW nx ra pa ta da ia xa fa za un na fi ++ wTown cI ta st dy ln (nI n) kd dd nt lf ++ wFore cI fa co wy ++ wTrace cI za (nI q75.1) q75.2) H := hP
          have hD : va_D A (wNW nx ra pa ta da ia xa fa za un na fi ++ wTown cI ta st dy ln (nI n) kd dd nt lf ++ wFore cI fa co wy ++ wTrace cI za (nI q75.1) q75.2) := hD.sameA [nx, (ta 0), (ta 1), (ta 2), (ta 3), (ta 4), (fa 0), (fa 1), (fa 2), (fa 3), (fa 4), (fa 5), (fa 6), (fa 7), (za 0), (za 1)] rfl rfl
          have E : x_ask n kd dd nt σ (nI r) what = (2 * (nI r + bc32 (dd r)), q75) := (by unfold x_ask; rw [if_neg (fun z => z c1), if_neg (fun z => z c2), if_neg c4, htr, hk9]; unfold aMk; rw [if_neg (show ¬ (2 : Int32) = 1 by decide), if_pos rfl, eq75])
          rw [E]
          exact b_retM hx hb hr hP hS rfl dX11_ask_78 hlocks
        · refine lv_aload_n hx hb dX11_ask_49 rfl (lv_at hl 0 rfl) ?_
          refine lv_aload_n hx hb dX11_ask_50 rfl (lv_at hl 1 rfl) ?_
          refine va_get (D := D) (ci := 10) (v := .ref (ta 0)) (C := RX11) (T := TX11) (N := 11) hx hb hts u_X11_ask_X11 hown hK.1 hP 0 rfl rfl 2 (by decide) (hts (.fieldLink RX11 26 "NoticeWeek" "town" "LNoticeWeek$Town;") (List.mem_of_getElem? (i := 1) rfl)) (fun _ h9 => h9) rfl dX11_ask_51 ?_
          refine lv_iload_n hx hb dX11_ask_54 rfl (lv_at hl 2 rfl) ?_
          refine lv_aload_n hx hb dX11_ask_55 rfl (lv_at hl 1 rfl) ?_
          refine va_get (D := D) (ci := 10) (v := .ref (za 0)) (C := RX11) (T := TX11) (N := 11) hx hb hts u_X11_ask_X11 hown hK.1 hP 0 rfl rfl 9 (by decide) (hts (.fieldLink RX11 57 "NoticeWeek" "trace" "LNoticeWeek$Trace;") (List.mem_of_getElem? (i := 3) rfl)) (fun _ h9 => h9) rfl dX11_ask_56 ?_
          refine b_callM [1, 2, 3, 4, 5, 14, 15, 8] (va_runU (As := [.ref (ta 0), .int (nI (r)), .ref (za 0)]) (rest := []) ⟨hx, hb, hml, hown, hts⟩ (c_X10_size_X10 l D cI cZ cT ta st dy ln (nI n) kd dd nt lf za (fa 2) (0, σ.2) r (by omega) (by omega)) (va_cwO 3 hts gX11_ask_X10_size_u268X10 rfl rfl rfl (b0 := cX7_size) (m0 := 4) (r0 := (some .int)) (List.mem_of_getElem? (i := 55) rfl) (by decide +kernel) ⟨(Nat.le_of_ble_eq_true rfl), (Nat.le_of_ble_eq_true rfl)⟩) (b_pVM hK hP hD [1, 2, 3, 4, 5, 14, 15, 8] (by decide) rfl rfl 8 rfl rfl) rfl rfl hl.1 rfl (lv_room (Nat.le_of_ble_eq_true rfl)) dX11_ask_59 ⟨Nat.zero_le _, Nat.zero_le _⟩).run hP hD hS rfl (Nat.le_of_ble_eq_true rfl) (fun H locs hP hS => ?_)
          have hP : va_P D vwCl (wNW nx ra pa ta da ia xa fa za un na fi ++ wTown cI ta st dy ln (nI n) kd dd nt lf ++ wFore cI fa co wy ++ wTrace cI za (nI (m_beg (m_beg (m_beg (m_beg (m_beg (m_beg (0, σ.2) 12) 11) 10) 24) 21) 20).1) ((m_beg (m_beg (m_beg (m_beg (m_beg (m_beg (0, σ.2) 12) 11) 10) 24) 21) 20).2)) H := hP
          generalize eq59 : m_beg (m_beg (m_beg (m_beg (m_beg (m_beg (0, σ.2) 12) 11) 10) 24) 21) 20 = q59 at hP ⊢
          have hP : va_P D vwCl (wNW nx ra pa ta da ia xa fa za un na fi ++ wTown cI ta st dy ln (nI n) kd dd nt lf ++ wFore cI fa co wy ++ wTrace cI za (nI q59.1) q59.2) H := hP
          have hD : va_D A (wNW nx ra pa ta da ia xa fa za un na fi ++ wTown cI ta st dy ln (nI n) kd dd nt lf ++ wFore cI fa co wy ++ wTrace cI za (nI q59.1) q59.2) := hD.sameA [nx, (ta 0), (ta 1), (ta 2), (ta 3), (ta 4), (fa 0), (fa 1), (fa 2), (fa 3), (fa 4), (fa 5), (fa 6), (fa 7), (za 0), (za 1)] rfl rfl
          refine lv_goto (tgt := 78) hx hb dX11_ask_62 (by decide) ?_
          have E : x_ask n kd dd nt σ (nI r) what = (-(bc32 (nt r) + 2 * (nI r + bc32 (dd r))), q59) := (by unfold x_ask; rw [if_neg (fun z => z c1), if_neg (fun z => z c2), if_pos c4, htr, hk9]; unfold aSz; rw [if_neg (show ¬ (2 : Int32) = 1 by decide), if_pos rfl, eq59])
          rw [E]
          exact b_retM hx hb hr hP hS rfl dX11_ask_78 hlocks
      · refine lv_aload_n hx hb dX11_ask_21 rfl (lv_at hl 0 rfl) ?_
        refine va_get (D := D) (ci := 10) (v := .ref (za 0)) (C := RX11) (T := TX11) (N := 11) hx hb hts u_X11_ask_X11 hown hK.1 hP 0 rfl rfl 9 (by decide) (hts (.fieldLink RX11 57 "NoticeWeek" "trace" "LNoticeWeek$Trace;") (List.mem_of_getElem? (i := 3) rfl)) (fun _ h9 => h9) rfl dX11_ask_22 ?_
        refine b_callM [14, 15] (va_runV (As := []) (rest := []) ⟨hx, hb, hml, hown, hts⟩ (c_X9_clear l D cI cZ cT za (nI σ.1) σ.2) (cwV 0 hts gX11_ask_X9_clear rfl rfl rfl (by decide +kernel) ⟨(Nat.le_of_ble_eq_true rfl), (Nat.le_of_ble_eq_true rfl)⟩) (b_pVM hK hP hD [14, 15] (by decide) rfl rfl 14 rfl rfl) rfl rfl hl.1 rfl (lv_room (Nat.le_of_ble_eq_true rfl)) dX11_ask_25 ⟨Nat.zero_le _, Nat.zero_le _⟩).run hP hD hS rfl (Nat.le_of_ble_eq_true rfl) (fun H locs hP hS => ?_)
        have hP : va_P D vwCl (wNW nx ra pa ta da ia xa fa za un na fi ++ wTown cI ta st dy ln (nI n) kd dd nt lf ++ wFore cI fa co wy ++ wTrace cI za (nI 0) σ.2) H := hP
        have hD : va_D A (wNW nx ra pa ta da ia xa fa za un na fi ++ wTown cI ta st dy ln (nI n) kd dd nt lf ++ wFore cI fa co wy ++ wTrace cI za (nI 0) σ.2) := hD.sameA [nx, (ta 0), (ta 1), (ta 2), (ta 3), (ta 4), (fa 0), (fa 1), (fa 2), (fa 3), (fa 4), (fa 5), (fa 6), (fa 7), (za 0), (za 1)] rfl rfl
        refine lv_aload_n hx hb dX11_ask_28 rfl (lv_at hl 0 rfl) ?_
        refine va_get (D := D) (ci := 10) (v := .ref (fa 0)) (C := RX11) (T := TX11) (N := 11) hx hb hts u_X11_ask_X11 hown hK.1 hP 0 rfl rfl 8 (by decide) (hts (.fieldLink RX11 50 "NoticeWeek" "foresight" "LNoticeWeek$Foresight;") (List.mem_of_getElem? (i := 4) rfl)) (fun _ h9 => h9) rfl dX11_ask_29 ?_
        refine lv_aload_n hx hb dX11_ask_32 rfl (lv_at hl 0 rfl) ?_
        refine va_get (D := D) (ci := 10) (v := .ref (ta 0)) (C := RX11) (T := TX11) (N := 11) hx hb hts u_X11_ask_X11 hown hK.1 hP 0 rfl rfl 2 (by decide) (hts (.fieldLink RX11 26 "NoticeWeek" "town" "LNoticeWeek$Town;") (List.mem_of_getElem? (i := 1) rfl)) (fun _ h9 => h9) rfl dX11_ask_33 ?_
        refine va_get (D := D) (ci := 7) (v := .ref (ta 1)) (C := RX8) (T := TX8) (N := 8) hx hb hts u_X11_ask_X8 hown hK.1 hP 1 rfl rfl 4 (by decide) (hts (.fieldLink RX11 242 "NoticeWeek$Town" "kind" "[I") (List.mem_of_getElem? (i := 5) rfl)) (fun _ h9 => h9) rfl dX11_ask_36 ?_
        refine lv_iload_n hx hb dX11_ask_39 rfl (lv_at hl 1 rfl) ?_
        refine b_ald hx hb hK hP 2 rfl (by omega) (by decide) dX11_ask_40 ?_
        rw [hk9]
        refine b_callA (va_runV (As := [.int 3]) (rest := []) ⟨hx, hb, hml, hown, hts⟩ (c_X2_temperOf_3 l D cI cZ cT fa co wy) (cwV 1 hts gX11_ask_X2_temperOf rfl rfl rfl (by decide +kernel) ⟨(Nat.le_of_ble_eq_true rfl), (Nat.le_of_ble_eq_true rfl)⟩) (b_pV hK hP [6, 7, 8, 9, 10, 11, 12, 13] rfl 6 rfl rfl) rfl rfl hl.1 rfl (lv_room (Nat.le_of_ble_eq_true rfl)) dX11_ask_41 ⟨Nat.zero_le _, Nat.zero_le _⟩).run ?_
        refine lv_astore_n (lv' := [(3, .ref (fa 3)), (0, .ref nx), (1, .int (nI (r))), (2, .int what)]) hx hb dX11_ask_44 rfl hl (by decide) rfl (fun ls hl => ?_)
        refine lv_iload_n hx hb dX11_ask_45 rfl (lv_at hl 3 rfl) ?_
        refine lv_if_ne (tgt := 65) hx hb dX11_ask_46 (by decide) (fun c5 => ?_) (fun c5 => ?_)
        · refine lv_aload_n hx hb dX11_ask_65 rfl (lv_at hl 0 rfl) ?_
          refine lv_aload_n hx hb dX11_ask_66 rfl (lv_at hl 1 rfl) ?_
          refine va_get (D := D) (ci := 10) (v := .ref (ta 0)) (C := RX11) (T := TX11) (N := 11) hx hb hts u_X11_ask_X11 hown hK.1 hP 0 rfl rfl 2 (by decide) (hts (.fieldLink RX11 26 "NoticeWeek" "town" "LNoticeWeek$Town;") (List.mem_of_getElem? (i := 1) rfl)) (fun _ h9 => h9) rfl dX11_ask_67 ?_
          refine lv_iload_n hx hb dX11_ask_70 rfl (lv_at hl 2 rfl) ?_
          refine lv_aload_n hx hb dX11_ask_71 rfl (lv_at hl 1 rfl) ?_
          refine va_get (D := D) (ci := 10) (v := .ref (za 0)) (C := RX11) (T := TX11) (N := 11) hx hb hts u_X11_ask_X11 hown hK.1 hP 0 rfl rfl 9 (by decide) (hts (.fieldLink RX11 57 "NoticeWeek" "trace" "LNoticeWeek$Trace;") (List.mem_of_getElem? (i := 3) rfl)) (fun _ h9 => h9) rfl dX11_ask_72 ?_
          refine b_callM [1, 2, 3, 4, 5, 14, 15, 9] (va_runU (As := [.ref (ta 0), .int (nI (r)), .ref (za 0)]) (rest := []) ⟨hx, hb, hml, hown, hts⟩ (c_X5_mark_X5 l D cI cZ cT ta st dy ln (nI n) kd dd nt lf za (fa 3) (0, σ.2) r (by omega) (by omega)) (va_cwO 3 hts gX11_ask_X5_mark_u274X5 rfl rfl rfl (b0 := cX7_mark) (m0 := 4) (r0 := (some .int)) (List.mem_of_getElem? (i := 81) rfl) (by decide +kernel) ⟨(Nat.le_of_ble_eq_true rfl), (Nat.le_of_ble_eq_true rfl)⟩) (b_pVM hK hP hD [1, 2, 3, 4, 5, 14, 15, 9] (by decide) rfl rfl 9 rfl rfl) rfl rfl hl.1 rfl (lv_room (Nat.le_of_ble_eq_true rfl)) dX11_ask_75 ⟨Nat.zero_le _, Nat.zero_le _⟩).run hP hD hS rfl (Nat.le_of_ble_eq_true rfl) (fun H locs hP hS => ?_)
          have hP : va_P D vwCl (wNW nx ra pa ta da ia xa fa za un na fi ++ wTown cI ta st dy ln (nI n) kd dd nt lf ++ wFore cI fa co wy ++ wTrace cI za (nI (m_beg (m_beg (m_beg (0, σ.2) 22) 21) 20).1) ((m_beg (m_beg (m_beg (0, σ.2) 22) 21) 20).2)) H := hP
          generalize eq75 : m_beg (m_beg (m_beg (0, σ.2) 22) 21) 20 = q75 at hP ⊢
          have hP : va_P D vwCl (wNW nx ra pa ta da ia xa fa za un na fi ++ wTown cI ta st dy ln (nI n) kd dd nt lf ++ wFore cI fa co wy ++ wTrace cI za (nI q75.1) q75.2) H := hP
          have hD : va_D A (wNW nx ra pa ta da ia xa fa za un na fi ++ wTown cI ta st dy ln (nI n) kd dd nt lf ++ wFore cI fa co wy ++ wTrace cI za (nI q75.1) q75.2) := hD.sameA [nx, (ta 0), (ta 1), (ta 2), (ta 3), (ta 4), (fa 0), (fa 1), (fa 2), (fa 3), (fa 4), (fa 5), (fa 6), (fa 7), (za 0), (za 1)] rfl rfl
          have E : x_ask n kd dd nt σ (nI r) what = (nI r + bc32 (dd r) - 1000, q75) := (by unfold x_ask; rw [if_neg (fun z => z c1), if_neg (fun z => z c2), if_neg c5, htr, hk9]; unfold aMk; rw [if_neg (show ¬ (3 : Int32) = 1 by decide), if_neg (show ¬ (3 : Int32) = 2 by decide), if_pos rfl, eq75])
          rw [E]
          exact b_retM hx hb hr hP hS rfl dX11_ask_78 hlocks
        · refine lv_aload_n hx hb dX11_ask_49 rfl (lv_at hl 0 rfl) ?_
          refine lv_aload_n hx hb dX11_ask_50 rfl (lv_at hl 1 rfl) ?_
          refine va_get (D := D) (ci := 10) (v := .ref (ta 0)) (C := RX11) (T := TX11) (N := 11) hx hb hts u_X11_ask_X11 hown hK.1 hP 0 rfl rfl 2 (by decide) (hts (.fieldLink RX11 26 "NoticeWeek" "town" "LNoticeWeek$Town;") (List.mem_of_getElem? (i := 1) rfl)) (fun _ h9 => h9) rfl dX11_ask_51 ?_
          refine lv_iload_n hx hb dX11_ask_54 rfl (lv_at hl 2 rfl) ?_
          refine lv_aload_n hx hb dX11_ask_55 rfl (lv_at hl 1 rfl) ?_
          refine va_get (D := D) (ci := 10) (v := .ref (za 0)) (C := RX11) (T := TX11) (N := 11) hx hb hts u_X11_ask_X11 hown hK.1 hP 0 rfl rfl 9 (by decide) (hts (.fieldLink RX11 57 "NoticeWeek" "trace" "LNoticeWeek$Trace;") (List.mem_of_getElem? (i := 3) rfl)) (fun _ h9 => h9) rfl dX11_ask_56 ?_
          refine b_callM [1, 2, 3, 4, 5, 14, 15, 9] (va_runU (As := [.ref (ta 0), .int (nI (r)), .ref (za 0)]) (rest := []) ⟨hx, hb, hml, hown, hts⟩ (c_X3_size_X5 l D cI cZ cT ta st dy ln (nI n) kd dd nt lf za (fa 3) (0, σ.2) r (by omega) (by omega)) (va_cwO 3 hts gX11_ask_X3_size_u268X5 rfl rfl rfl (b0 := cX7_size) (m0 := 4) (r0 := (some .int)) (List.mem_of_getElem? (i := 55) rfl) (by decide +kernel) ⟨(Nat.le_of_ble_eq_true rfl), (Nat.le_of_ble_eq_true rfl)⟩) (b_pVM hK hP hD [1, 2, 3, 4, 5, 14, 15, 9] (by decide) rfl rfl 9 rfl rfl) rfl rfl hl.1 rfl (lv_room (Nat.le_of_ble_eq_true rfl)) dX11_ask_59 ⟨Nat.zero_le _, Nat.zero_le _⟩).run hP hD hS rfl (Nat.le_of_ble_eq_true rfl) (fun H locs hP hS => ?_)
          have hP : va_P D vwCl (wNW nx ra pa ta da ia xa fa za un na fi ++ wTown cI ta st dy ln (nI n) kd dd nt lf ++ wFore cI fa co wy ++ wTrace cI za (nI (m_beg (m_beg (m_beg (m_beg (m_beg (0, σ.2) 11) 10) 22) 21) 20).1) ((m_beg (m_beg (m_beg (m_beg (m_beg (0, σ.2) 11) 10) 22) 21) 20).2)) H := hP
          generalize eq59 : m_beg (m_beg (m_beg (m_beg (m_beg (0, σ.2) 11) 10) 22) 21) 20 = q59 at hP ⊢
          have hP : va_P D vwCl (wNW nx ra pa ta da ia xa fa za un na fi ++ wTown cI ta st dy ln (nI n) kd dd nt lf ++ wFore cI fa co wy ++ wTrace cI za (nI q59.1) q59.2) H := hP
          have hD : va_D A (wNW nx ra pa ta da ia xa fa za un na fi ++ wTown cI ta st dy ln (nI n) kd dd nt lf ++ wFore cI fa co wy ++ wTrace cI za (nI q59.1) q59.2) := hD.sameA [nx, (ta 0), (ta 1), (ta 2), (ta 3), (ta 4), (fa 0), (fa 1), (fa 2), (fa 3), (fa 4), (fa 5), (fa 6), (fa 7), (za 0), (za 1)] rfl rfl
          refine lv_goto (tgt := 78) hx hb dX11_ask_62 (by decide) ?_
          have E : x_ask n kd dd nt σ (nI r) what = (bc32 (nt r) + (nI r + bc32 (dd r) - 1000), q59) := (by unfold x_ask; rw [if_neg (fun z => z c1), if_neg (fun z => z c2), if_pos c5, htr, hk9]; unfold aSz; rw [if_neg (show ¬ (3 : Int32) = 1 by decide), if_neg (show ¬ (3 : Int32) = 2 by decide), if_pos rfl, eq59])
          rw [E]
          exact b_retM hx hb hr hP hS rfl dX11_ask_78 hlocks
      · refine lv_aload_n hx hb dX11_ask_21 rfl (lv_at hl 0 rfl) ?_
        refine va_get (D := D) (ci := 10) (v := .ref (za 0)) (C := RX11) (T := TX11) (N := 11) hx hb hts u_X11_ask_X11 hown hK.1 hP 0 rfl rfl 9 (by decide) (hts (.fieldLink RX11 57 "NoticeWeek" "trace" "LNoticeWeek$Trace;") (List.mem_of_getElem? (i := 3) rfl)) (fun _ h9 => h9) rfl dX11_ask_22 ?_
        refine b_callM [14, 15] (va_runV (As := []) (rest := []) ⟨hx, hb, hml, hown, hts⟩ (c_X9_clear l D cI cZ cT za (nI σ.1) σ.2) (cwV 0 hts gX11_ask_X9_clear rfl rfl rfl (by decide +kernel) ⟨(Nat.le_of_ble_eq_true rfl), (Nat.le_of_ble_eq_true rfl)⟩) (b_pVM hK hP hD [14, 15] (by decide) rfl rfl 14 rfl rfl) rfl rfl hl.1 rfl (lv_room (Nat.le_of_ble_eq_true rfl)) dX11_ask_25 ⟨Nat.zero_le _, Nat.zero_le _⟩).run hP hD hS rfl (Nat.le_of_ble_eq_true rfl) (fun H locs hP hS => ?_)
        have hP : va_P D vwCl (wNW nx ra pa ta da ia xa fa za un na fi ++ wTown cI ta st dy ln (nI n) kd dd nt lf ++ wFore cI fa co wy ++ wTrace cI za (nI 0) σ.2) H := hP
        have hD : va_D A (wNW nx ra pa ta da ia xa fa za un na fi ++ wTown cI ta st dy ln (nI n) kd dd nt lf ++ wFore cI fa co wy ++ wTrace cI za (nI 0) σ.2) := hD.sameA [nx, (ta 0), (ta 1), (ta 2), (ta 3), (ta 4), (fa 0), (fa 1), (fa 2), (fa 3), (fa 4), (fa 5), (fa 6), (fa 7), (za 0), (za 1)] rfl rfl
        refine lv_aload_n hx hb dX11_ask_28 rfl (lv_at hl 0 rfl) ?_
        refine va_get (D := D) (ci := 10) (v := .ref (fa 0)) (C := RX11) (T := TX11) (N := 11) hx hb hts u_X11_ask_X11 hown hK.1 hP 0 rfl rfl 8 (by decide) (hts (.fieldLink RX11 50 "NoticeWeek" "foresight" "LNoticeWeek$Foresight;") (List.mem_of_getElem? (i := 4) rfl)) (fun _ h9 => h9) rfl dX11_ask_29 ?_
        refine lv_aload_n hx hb dX11_ask_32 rfl (lv_at hl 0 rfl) ?_
        refine va_get (D := D) (ci := 10) (v := .ref (ta 0)) (C := RX11) (T := TX11) (N := 11) hx hb hts u_X11_ask_X11 hown hK.1 hP 0 rfl rfl 2 (by decide) (hts (.fieldLink RX11 26 "NoticeWeek" "town" "LNoticeWeek$Town;") (List.mem_of_getElem? (i := 1) rfl)) (fun _ h9 => h9) rfl dX11_ask_33 ?_
        refine va_get (D := D) (ci := 7) (v := .ref (ta 1)) (C := RX8) (T := TX8) (N := 8) hx hb hts u_X11_ask_X8 hown hK.1 hP 1 rfl rfl 4 (by decide) (hts (.fieldLink RX11 242 "NoticeWeek$Town" "kind" "[I") (List.mem_of_getElem? (i := 5) rfl)) (fun _ h9 => h9) rfl dX11_ask_36 ?_
        refine lv_iload_n hx hb dX11_ask_39 rfl (lv_at hl 1 rfl) ?_
        refine b_ald hx hb hK hP 2 rfl (by omega) (by decide) dX11_ask_40 ?_
        rw [hk9]
        refine b_callA (va_runV (As := [.int 4]) (rest := []) ⟨hx, hb, hml, hown, hts⟩ (c_X2_temperOf_4 l D cI cZ cT fa co wy) (cwV 1 hts gX11_ask_X2_temperOf rfl rfl rfl (by decide +kernel) ⟨(Nat.le_of_ble_eq_true rfl), (Nat.le_of_ble_eq_true rfl)⟩) (b_pV hK hP [6, 7, 8, 9, 10, 11, 12, 13] rfl 6 rfl rfl) rfl rfl hl.1 rfl (lv_room (Nat.le_of_ble_eq_true rfl)) dX11_ask_41 ⟨Nat.zero_le _, Nat.zero_le _⟩).run ?_
        refine lv_astore_n (lv' := [(3, .ref (fa 4)), (0, .ref nx), (1, .int (nI (r))), (2, .int what)]) hx hb dX11_ask_44 rfl hl (by decide) rfl (fun ls hl => ?_)
        refine lv_iload_n hx hb dX11_ask_45 rfl (lv_at hl 3 rfl) ?_
        refine lv_if_ne (tgt := 65) hx hb dX11_ask_46 (by decide) (fun c6 => ?_) (fun c6 => ?_)
        · refine lv_aload_n hx hb dX11_ask_65 rfl (lv_at hl 0 rfl) ?_
          refine lv_aload_n hx hb dX11_ask_66 rfl (lv_at hl 1 rfl) ?_
          refine va_get (D := D) (ci := 10) (v := .ref (ta 0)) (C := RX11) (T := TX11) (N := 11) hx hb hts u_X11_ask_X11 hown hK.1 hP 0 rfl rfl 2 (by decide) (hts (.fieldLink RX11 26 "NoticeWeek" "town" "LNoticeWeek$Town;") (List.mem_of_getElem? (i := 1) rfl)) (fun _ h9 => h9) rfl dX11_ask_67 ?_
          refine lv_iload_n hx hb dX11_ask_70 rfl (lv_at hl 2 rfl) ?_
          refine lv_aload_n hx hb dX11_ask_71 rfl (lv_at hl 1 rfl) ?_
          refine va_get (D := D) (ci := 10) (v := .ref (za 0)) (C := RX11) (T := TX11) (N := 11) hx hb hts u_X11_ask_X11 hown hK.1 hP 0 rfl rfl 9 (by decide) (hts (.fieldLink RX11 57 "NoticeWeek" "trace" "LNoticeWeek$Trace;") (List.mem_of_getElem? (i := 3) rfl)) (fun _ h9 => h9) rfl dX11_ask_72 ?_
          refine b_callM [1, 2, 3, 4, 5, 14, 15, 10] (va_runU (As := [.ref (ta 0), .int (nI (r)), .ref (za 0)]) (rest := []) ⟨hx, hb, hml, hown, hts⟩ (c_X1_mark_X1 l D cI cZ cT ta st dy ln (nI n) kd dd nt lf za (fa 4) (0, σ.2) r (by omega) (by omega)) (va_cwO 3 hts gX11_ask_X1_mark_u274X1 rfl rfl rfl (b0 := cX7_mark) (m0 := 4) (r0 := (some .int)) (List.mem_of_getElem? (i := 81) rfl) (by decide +kernel) ⟨(Nat.le_of_ble_eq_true rfl), (Nat.le_of_ble_eq_true rfl)⟩) (b_pVM hK hP hD [1, 2, 3, 4, 5, 14, 15, 10] (by decide) rfl rfl 10 rfl rfl) rfl rfl hl.1 rfl (lv_room (Nat.le_of_ble_eq_true rfl)) dX11_ask_75 ⟨Nat.zero_le _, Nat.zero_le _⟩).run hP hD hS rfl (Nat.le_of_ble_eq_true rfl) (fun H locs hP hS => ?_)
          have hP : va_P D vwCl (wNW nx ra pa ta da ia xa fa za un na fi ++ wTown cI ta st dy ln (nI n) kd dd nt lf ++ wFore cI fa co wy ++ wTrace cI za (nI (m_beg (m_beg (m_beg (m_beg (0, σ.2) 23) 20) 13) 10).1) ((m_beg (m_beg (m_beg (m_beg (0, σ.2) 23) 20) 13) 10).2)) H := hP
          generalize eq75 : m_beg (m_beg (m_beg (m_beg (0, σ.2) 23) 20) 13) 10 = q75 at hP ⊢
          have hP : va_P D vwCl (wNW nx ra pa ta da ia xa fa za un na fi ++ wTown cI ta st dy ln (nI n) kd dd nt lf ++ wFore cI fa co wy ++ wTrace cI za (nI q75.1) q75.2) H := hP
          have hD : va_D A (wNW nx ra pa ta da ia xa fa za un na fi ++ wTown cI ta st dy ln (nI n) kd dd nt lf ++ wFore cI fa co wy ++ wTrace cI za (nI q75.1) q75.2) := hD.sameA [nx, (ta 0), (ta 1), (ta 2), (ta 3), (ta 4), (fa 0), (fa 1), (fa 2), (fa 3), (fa 4), (fa 5), (fa 6), (fa 7), (za 0), (za 1)] rfl rfl
          have E : x_ask n kd dd nt σ (nI r) what = (nI r - (bc32 (nt r) - 100), q75) := (by unfold x_ask; rw [if_neg (fun z => z c1), if_neg (fun z => z c2), if_neg c6, htr, hk9]; unfold aMk; rw [if_neg (show ¬ (4 : Int32) = 1 by decide), if_neg (show ¬ (4 : Int32) = 2 by decide), if_neg (show ¬ (4 : Int32) = 3 by decide), if_pos rfl, eq75])
          rw [E]
          exact b_retM hx hb hr hP hS rfl dX11_ask_78 hlocks
        · refine lv_aload_n hx hb dX11_ask_49 rfl (lv_at hl 0 rfl) ?_
          refine lv_aload_n hx hb dX11_ask_50 rfl (lv_at hl 1 rfl) ?_
          refine va_get (D := D) (ci := 10) (v := .ref (ta 0)) (C := RX11) (T := TX11) (N := 11) hx hb hts u_X11_ask_X11 hown hK.1 hP 0 rfl rfl 2 (by decide) (hts (.fieldLink RX11 26 "NoticeWeek" "town" "LNoticeWeek$Town;") (List.mem_of_getElem? (i := 1) rfl)) (fun _ h9 => h9) rfl dX11_ask_51 ?_
          refine lv_iload_n hx hb dX11_ask_54 rfl (lv_at hl 2 rfl) ?_
          refine lv_aload_n hx hb dX11_ask_55 rfl (lv_at hl 1 rfl) ?_
          refine va_get (D := D) (ci := 10) (v := .ref (za 0)) (C := RX11) (T := TX11) (N := 11) hx hb hts u_X11_ask_X11 hown hK.1 hP 0 rfl rfl 9 (by decide) (hts (.fieldLink RX11 57 "NoticeWeek" "trace" "LNoticeWeek$Trace;") (List.mem_of_getElem? (i := 3) rfl)) (fun _ h9 => h9) rfl dX11_ask_56 ?_
          refine b_callM [1, 2, 3, 4, 5, 14, 15, 10] (va_runU (As := [.ref (ta 0), .int (nI (r)), .ref (za 0)]) (rest := []) ⟨hx, hb, hml, hown, hts⟩ (c_X1_size_X1 l D cI cZ cT ta st dy ln (nI n) kd dd nt lf za (fa 4) (0, σ.2) r (by omega) (by omega)) (va_cwO 3 hts gX11_ask_X1_size_u268X1 rfl rfl rfl (b0 := cX7_size) (m0 := 4) (r0 := (some .int)) (List.mem_of_getElem? (i := 55) rfl) (by decide +kernel) ⟨(Nat.le_of_ble_eq_true rfl), (Nat.le_of_ble_eq_true rfl)⟩) (b_pVM hK hP hD [1, 2, 3, 4, 5, 14, 15, 10] (by decide) rfl rfl 10 rfl rfl) rfl rfl hl.1 rfl (lv_room (Nat.le_of_ble_eq_true rfl)) dX11_ask_59 ⟨Nat.zero_le _, Nat.zero_le _⟩).run hP hD hS rfl (Nat.le_of_ble_eq_true rfl) (fun H locs hP hS => ?_)
          have hP : va_P D vwCl (wNW nx ra pa ta da ia xa fa za un na fi ++ wTown cI ta st dy ln (nI n) kd dd nt lf ++ wFore cI fa co wy ++ wTrace cI za (nI (m_beg (m_beg (0, σ.2) 13) 10).1) ((m_beg (m_beg (0, σ.2) 13) 10).2)) H := hP
          generalize eq59 : m_beg (m_beg (0, σ.2) 13) 10 = q59 at hP ⊢
          have hP : va_P D vwCl (wNW nx ra pa ta da ia xa fa za un na fi ++ wTown cI ta st dy ln (nI n) kd dd nt lf ++ wFore cI fa co wy ++ wTrace cI za (nI q59.1) q59.2) H := hP
          have hD : va_D A (wNW nx ra pa ta da ia xa fa za un na fi ++ wTown cI ta st dy ln (nI n) kd dd nt lf ++ wFore cI fa co wy ++ wTrace cI za (nI q59.1) q59.2) := hD.sameA [nx, (ta 0), (ta 1), (ta 2), (ta 3), (ta 4), (fa 0), (fa 1), (fa 2), (fa 3), (fa 4), (fa 5), (fa 6), (fa 7), (za 0), (za 1)] rfl rfl
          refine lv_goto (tgt := 78) hx hb dX11_ask_62 (by decide) ?_
          have E : x_ask n kd dd nt σ (nI r) what = (bc32 (nt r) - 100, q59) := (by unfold x_ask; rw [if_neg (fun z => z c1), if_neg (fun z => z c2), if_pos c6, htr, hk9]; unfold aSz; rw [if_neg (show ¬ (4 : Int32) = 1 by decide), if_neg (show ¬ (4 : Int32) = 2 by decide), if_neg (show ¬ (4 : Int32) = 3 by decide), if_pos rfl, eq59])
          rw [E]
          exact b_retM hx hb hr hP hS rfl dX11_ask_78 hlocks
      · refine lv_aload_n hx hb dX11_ask_21 rfl (lv_at hl 0 rfl) ?_
        refine va_get (D := D) (ci := 10) (v := .ref (za 0)) (C := RX11) (T := TX11) (N := 11) hx hb hts u_X11_ask_X11 hown hK.1 hP 0 rfl rfl 9 (by decide) (hts (.fieldLink RX11 57 "NoticeWeek" "trace" "LNoticeWeek$Trace;") (List.mem_of_getElem? (i := 3) rfl)) (fun _ h9 => h9) rfl dX11_ask_22 ?_
        refine b_callM [14, 15] (va_runV (As := []) (rest := []) ⟨hx, hb, hml, hown, hts⟩ (c_X9_clear l D cI cZ cT za (nI σ.1) σ.2) (cwV 0 hts gX11_ask_X9_clear rfl rfl rfl (by decide +kernel) ⟨(Nat.le_of_ble_eq_true rfl), (Nat.le_of_ble_eq_true rfl)⟩) (b_pVM hK hP hD [14, 15] (by decide) rfl rfl 14 rfl rfl) rfl rfl hl.1 rfl (lv_room (Nat.le_of_ble_eq_true rfl)) dX11_ask_25 ⟨Nat.zero_le _, Nat.zero_le _⟩).run hP hD hS rfl (Nat.le_of_ble_eq_true rfl) (fun H locs hP hS => ?_)
        have hP : va_P D vwCl (wNW nx ra pa ta da ia xa fa za un na fi ++ wTown cI ta st dy ln (nI n) kd dd nt lf ++ wFore cI fa co wy ++ wTrace cI za (nI 0) σ.2) H := hP
        have hD : va_D A (wNW nx ra pa ta da ia xa fa za un na fi ++ wTown cI ta st dy ln (nI n) kd dd nt lf ++ wFore cI fa co wy ++ wTrace cI za (nI 0) σ.2) := hD.sameA [nx, (ta 0), (ta 1), (ta 2), (ta 3), (ta 4), (fa 0), (fa 1), (fa 2), (fa 3), (fa 4), (fa 5), (fa 6), (fa 7), (za 0), (za 1)] rfl rfl
        refine lv_aload_n hx hb dX11_ask_28 rfl (lv_at hl 0 rfl) ?_
        refine va_get (D := D) (ci := 10) (v := .ref (fa 0)) (C := RX11) (T := TX11) (N := 11) hx hb hts u_X11_ask_X11 hown hK.1 hP 0 rfl rfl 8 (by decide) (hts (.fieldLink RX11 50 "NoticeWeek" "foresight" "LNoticeWeek$Foresight;") (List.mem_of_getElem? (i := 4) rfl)) (fun _ h9 => h9) rfl dX11_ask_29 ?_
        refine lv_aload_n hx hb dX11_ask_32 rfl (lv_at hl 0 rfl) ?_
        refine va_get (D := D) (ci := 10) (v := .ref (ta 0)) (C := RX11) (T := TX11) (N := 11) hx hb hts u_X11_ask_X11 hown hK.1 hP 0 rfl rfl 2 (by decide) (hts (.fieldLink RX11 26 "NoticeWeek" "town" "LNoticeWeek$Town;") (List.mem_of_getElem? (i := 1) rfl)) (fun _ h9 => h9) rfl dX11_ask_33 ?_
        refine va_get (D := D) (ci := 7) (v := .ref (ta 1)) (C := RX8) (T := TX8) (N := 8) hx hb hts u_X11_ask_X8 hown hK.1 hP 1 rfl rfl 4 (by decide) (hts (.fieldLink RX11 242 "NoticeWeek$Town" "kind" "[I") (List.mem_of_getElem? (i := 5) rfl)) (fun _ h9 => h9) rfl dX11_ask_36 ?_
        refine lv_iload_n hx hb dX11_ask_39 rfl (lv_at hl 1 rfl) ?_
        refine b_ald hx hb hK hP 2 rfl (by omega) (by decide) dX11_ask_40 ?_
        rw [hk9]
        refine b_callA (va_runV (As := [.int 5]) (rest := []) ⟨hx, hb, hml, hown, hts⟩ (c_X2_temperOf_5 l D cI cZ cT fa co wy) (cwV 1 hts gX11_ask_X2_temperOf rfl rfl rfl (by decide +kernel) ⟨(Nat.le_of_ble_eq_true rfl), (Nat.le_of_ble_eq_true rfl)⟩) (b_pV hK hP [6, 7, 8, 9, 10, 11, 12, 13] rfl 6 rfl rfl) rfl rfl hl.1 rfl (lv_room (Nat.le_of_ble_eq_true rfl)) dX11_ask_41 ⟨Nat.zero_le _, Nat.zero_le _⟩).run ?_
        refine lv_astore_n (lv' := [(3, .ref (fa 5)), (0, .ref nx), (1, .int (nI (r))), (2, .int what)]) hx hb dX11_ask_44 rfl hl (by decide) rfl (fun ls hl => ?_)
        refine lv_iload_n hx hb dX11_ask_45 rfl (lv_at hl 3 rfl) ?_
        refine lv_if_ne (tgt := 65) hx hb dX11_ask_46 (by decide) (fun c7 => ?_) (fun c7 => ?_)
        · refine lv_aload_n hx hb dX11_ask_65 rfl (lv_at hl 0 rfl) ?_
          refine lv_aload_n hx hb dX11_ask_66 rfl (lv_at hl 1 rfl) ?_
          refine va_get (D := D) (ci := 10) (v := .ref (ta 0)) (C := RX11) (T := TX11) (N := 11) hx hb hts u_X11_ask_X11 hown hK.1 hP 0 rfl rfl 2 (by decide) (hts (.fieldLink RX11 26 "NoticeWeek" "town" "LNoticeWeek$Town;") (List.mem_of_getElem? (i := 1) rfl)) (fun _ h9 => h9) rfl dX11_ask_67 ?_
          refine lv_iload_n hx hb dX11_ask_70 rfl (lv_at hl 2 rfl) ?_
          refine lv_aload_n hx hb dX11_ask_71 rfl (lv_at hl 1 rfl) ?_
          refine va_get (D := D) (ci := 10) (v := .ref (za 0)) (C := RX11) (T := TX11) (N := 11) hx hb hts u_X11_ask_X11 hown hK.1 hP 0 rfl rfl 9 (by decide) (hts (.fieldLink RX11 57 "NoticeWeek" "trace" "LNoticeWeek$Trace;") (List.mem_of_getElem? (i := 3) rfl)) (fun _ h9 => h9) rfl dX11_ask_72 ?_
          refine b_callM [1, 2, 3, 4, 5, 14, 15, 11] (va_runU (As := [.ref (ta 0), .int (nI (r)), .ref (za 0)]) (rest := []) ⟨hx, hb, hml, hown, hts⟩ (c_X1_mark_X0 l D cI cZ cT ta st dy ln (nI n) kd dd nt lf za (fa 5) (0, σ.2) r (by omega) (by omega)) (va_cwO 3 hts gX11_ask_X1_mark_u274X0 rfl rfl rfl (b0 := cX7_mark) (m0 := 4) (r0 := (some .int)) (List.mem_of_getElem? (i := 81) rfl) (by decide +kernel) ⟨(Nat.le_of_ble_eq_true rfl), (Nat.le_of_ble_eq_true rfl)⟩) (b_pVM hK hP hD [1, 2, 3, 4, 5, 14, 15, 11] (by decide) rfl rfl 11 rfl rfl) rfl rfl hl.1 rfl (lv_room (Nat.le_of_ble_eq_true rfl)) dX11_ask_75 ⟨Nat.zero_le _, Nat.zero_le _⟩).run hP hD hS rfl (Nat.le_of_ble_eq_true rfl) (fun H locs hP hS => ?_)
          have hP : va_P D vwCl (wNW nx ra pa ta da ia xa fa za un na fi ++ wTown cI ta st dy ln (nI n) kd dd nt lf ++ wFore cI fa co wy ++ wTrace cI za (nI (m_beg (m_beg (m_beg (m_beg (m_beg (0, σ.2) 23) 20) 14) 13) 10).1) ((m_beg (m_beg (m_beg (m_beg (m_beg (0, σ.2) 23) 20) 14) 13) 10).2)) H := hP
          generalize eq75 : m_beg (m_beg (m_beg (m_beg (m_beg (0, σ.2) 23) 20) 14) 13) 10 = q75 at hP ⊢
          have hP : va_P D vwCl (wNW nx ra pa ta da ia xa fa za un na fi ++ wTown cI ta st dy ln (nI n) kd dd nt lf ++ wFore cI fa co wy ++ wTrace cI za (nI q75.1) q75.2) H := hP
          have hD : va_D A (wNW nx ra pa ta da ia xa fa za un na fi ++ wTown cI ta st dy ln (nI n) kd dd nt lf ++ wFore cI fa co wy ++ wTrace cI za (nI q75.1) q75.2) := hD.sameA [nx, (ta 0), (ta 1), (ta 2), (ta 3), (ta 4), (fa 0), (fa 1), (fa 2), (fa 3), (fa 4), (fa 5), (fa 6), (fa 7), (za 0), (za 1)] rfl rfl
          have E : x_ask n kd dd nt σ (nI r) what = (nI r - 2 * (bc32 (nt r) - 100), q75) := (by unfold x_ask; rw [if_neg (fun z => z c1), if_neg (fun z => z c2), if_neg c7, htr, hk9]; unfold aMk; rw [if_neg (show ¬ (5 : Int32) = 1 by decide), if_neg (show ¬ (5 : Int32) = 2 by decide), if_neg (show ¬ (5 : Int32) = 3 by decide), if_neg (show ¬ (5 : Int32) = 4 by decide), eq75])
          rw [E]
          exact b_retM hx hb hr hP hS rfl dX11_ask_78 hlocks
        · refine lv_aload_n hx hb dX11_ask_49 rfl (lv_at hl 0 rfl) ?_
          refine lv_aload_n hx hb dX11_ask_50 rfl (lv_at hl 1 rfl) ?_
          refine va_get (D := D) (ci := 10) (v := .ref (ta 0)) (C := RX11) (T := TX11) (N := 11) hx hb hts u_X11_ask_X11 hown hK.1 hP 0 rfl rfl 2 (by decide) (hts (.fieldLink RX11 26 "NoticeWeek" "town" "LNoticeWeek$Town;") (List.mem_of_getElem? (i := 1) rfl)) (fun _ h9 => h9) rfl dX11_ask_51 ?_
          refine lv_iload_n hx hb dX11_ask_54 rfl (lv_at hl 2 rfl) ?_
          refine lv_aload_n hx hb dX11_ask_55 rfl (lv_at hl 1 rfl) ?_
          refine va_get (D := D) (ci := 10) (v := .ref (za 0)) (C := RX11) (T := TX11) (N := 11) hx hb hts u_X11_ask_X11 hown hK.1 hP 0 rfl rfl 9 (by decide) (hts (.fieldLink RX11 57 "NoticeWeek" "trace" "LNoticeWeek$Trace;") (List.mem_of_getElem? (i := 3) rfl)) (fun _ h9 => h9) rfl dX11_ask_56 ?_
          refine b_callM [1, 2, 3, 4, 5, 14, 15, 11] (va_runU (As := [.ref (ta 0), .int (nI (r)), .ref (za 0)]) (rest := []) ⟨hx, hb, hml, hown, hts⟩ (c_X0_size_X0 l D cI cZ cT ta st dy ln (nI n) kd dd nt lf za (fa 5) (0, σ.2) r (by omega) (by omega)) (va_cwO 3 hts gX11_ask_X0_size_u268X0 rfl rfl rfl (b0 := cX7_size) (m0 := 4) (r0 := (some .int)) (List.mem_of_getElem? (i := 55) rfl) (by decide +kernel) ⟨(Nat.le_of_ble_eq_true rfl), (Nat.le_of_ble_eq_true rfl)⟩) (b_pVM hK hP hD [1, 2, 3, 4, 5, 14, 15, 11] (by decide) rfl rfl 11 rfl rfl) rfl rfl hl.1 rfl (lv_room (Nat.le_of_ble_eq_true rfl)) dX11_ask_59 ⟨Nat.zero_le _, Nat.zero_le _⟩).run hP hD hS rfl (Nat.le_of_ble_eq_true rfl) (fun H locs hP hS => ?_)
          have hP : va_P D vwCl (wNW nx ra pa ta da ia xa fa za un na fi ++ wTown cI ta st dy ln (nI n) kd dd nt lf ++ wFore cI fa co wy ++ wTrace cI za (nI (m_beg (m_beg (m_beg (0, σ.2) 14) 13) 10).1) ((m_beg (m_beg (m_beg (0, σ.2) 14) 13) 10).2)) H := hP
          generalize eq59 : m_beg (m_beg (m_beg (0, σ.2) 14) 13) 10 = q59 at hP ⊢
          have hP : va_P D vwCl (wNW nx ra pa ta da ia xa fa za un na fi ++ wTown cI ta st dy ln (nI n) kd dd nt lf ++ wFore cI fa co wy ++ wTrace cI za (nI q59.1) q59.2) H := hP
          have hD : va_D A (wNW nx ra pa ta da ia xa fa za un na fi ++ wTown cI ta st dy ln (nI n) kd dd nt lf ++ wFore cI fa co wy ++ wTrace cI za (nI q59.1) q59.2) := hD.sameA [nx, (ta 0), (ta 1), (ta 2), (ta 3), (ta 4), (fa 0), (fa 1), (fa 2), (fa 3), (fa 4), (fa 5), (fa 6), (fa 7), (za 0), (za 1)] rfl rfl
          refine lv_goto (tgt := 78) hx hb dX11_ask_62 (by decide) ?_
          have E : x_ask n kd dd nt σ (nI r) what = (2 * (bc32 (nt r) - 100), q59) := (by unfold x_ask; rw [if_neg (fun z => z c1), if_neg (fun z => z c2), if_pos c7, htr, hk9]; unfold aSz; rw [if_neg (show ¬ (5 : Int32) = 1 by decide), if_neg (show ¬ (5 : Int32) = 2 by decide), if_neg (show ¬ (5 : Int32) = 3 by decide), if_neg (show ¬ (5 : Int32) = 4 by decide), eq59])
          rw [E]
          exact b_retM hx hb hr hP hS rfl dX11_ask_78 hlocks
    · refine lv_ldc (v := (-1000001)) hx hb hown (hts (.constant RX11 71 (-1000001)) (List.mem_of_getElem? (i := 2) rfl)) dX11_ask_18 ?_
      have E : x_ask n kd dd nt σ reader what = ((-1000001), σ) := (by first | (simp only [x_ask, eq_true c1, eq_false c2, bI, not_true_eq_false, not_false_eq_true, ite_true, ite_false, if_true, if_false, and_self, and_true, true_and, false_and, and_false, or_true, true_or, or_false, false_or, eq_self]; done) | (simp [x_ask, eq_true c1, eq_false c2, bI]; done))
      rw [E]
      exact b_retM hx hb hr hP hS rfl dX11_ask_20 hlocks
theorem u_X11_trace_X11 : ∀ w ∈ wsX110, w ∈ wsX11_trace := fun _ h => List.mem_cons_of_mem _ (List.mem_append_left _ (List.mem_append_right _ h))
set_option maxHeartbeats 1000000 in
set_option maxRecDepth 100000 in
theorem c_X11_trace (l : Launch) (D : va_G) (cI cZ cT : ClassId) (nx : Nat) (ra pa ta da : Nat → Nat) (ia xa : Nat) (fa za : Nat → Nat) (un na fi : Int32) (zr : Nat) (zn : Nat → Int32) (i : Int32) (hz : zr ≤ 16) : Met l yX11_trace wsX11_trace ({ frames := 1, cells := 0, slots := 0, locals := 21 }) (pR D cI cZ cT [.ref nx, .int i] (wNW nx ra pa ta da ia xa fa za un na fi ++ wTrace cI za (nI zr) zn)) (QcRead (t_num zr zn i)) 0 0 (fun _ => False) := by
  refine Met.ofW (cc := cX11_trace) (maxL := 2) (ret := (some .int)) (by decide) rfl ?_
  intro p e s m args below meth c s₁ B hml hv
  obtain ⟨rfl, hP, hK⟩ := hv
  have hx := B.exec
  have hb := B.bytes
  have hr := B.returns
  have hts := atoms_spec (ws := wsX11_trace) B.pre
  have hown : s.vm.findClass RX11 = some m.cls := findClass_of_methodNamed B.named
  have hlocks := B.notSynchronized
  have hl := lv_entry ([.ref nx, .int i]) (n := 2) (Nat.le_of_ble_eq_true rfl)
  rw [lg_entry_eq]
  generalize (lg_sl ([.ref nx, .int i]) ++ List.replicate (2 - (lg_sl ([.ref nx, .int i])).length) Slot.unset).toArray = ls at hl ⊢
  have hl : lv_has ls 2 [(0, .ref nx), (1, .int i)] := hl
  refine lv_aload_n hx hb dX11_trace_0 rfl (lv_at hl 0 rfl) ?_
  refine va_get (D := D) (ci := 10) (v := .ref (za 0)) (C := RX11) (T := TX11) (N := 11) hx hb hts u_X11_trace_X11 hown hK.1 hP 0 rfl rfl 9 (by decide) (hts (.fieldLink RX11 57 "NoticeWeek" "trace" "LNoticeWeek$Trace;") (List.mem_of_getElem? (i := 1) rfl)) (fun _ h9 => h9) rfl dX11_trace_1 ?_
  refine lv_iload_n hx hb dX11_trace_4 rfl (lv_at hl 1 rfl) ?_
  refine b_call (va_runV (As := [.int i]) (rest := []) ⟨hx, hb, hml, hown, hts⟩ (c_X9_numberAt l D cI cZ cT za zr zn i hz) (cwV 1 hts gX11_trace_X9_numberAt rfl rfl rfl (by decide +kernel) ⟨(Nat.le_of_ble_eq_true rfl), (Nat.le_of_ble_eq_true rfl)⟩) (b_pV hK hP [1, 2] rfl 1 rfl rfl) rfl rfl hl.1 rfl (lv_room (Nat.le_of_ble_eq_true rfl)) dX11_trace_5 ⟨Nat.zero_le _, Nat.zero_le _⟩).run ?_
  exact b_ret hx hb hr (by first | with_reducible rfl | (simp only [bI, not_true_eq_false, not_false_eq_true, ite_true, ite_false, if_true, if_false, and_self, and_true, true_and, false_and, and_false, or_true, true_or, or_false, false_or]; done) | (simp [bI]; done) | omega) dX11_trace_8 hlocks
theorem u_X11_count_X11 : ∀ w ∈ wsX110, w ∈ wsX11_count := fun _ h => List.mem_cons_of_mem _ (List.mem_append_left _ (List.mem_append_left _ (List.mem_append_left _ (List.mem_append_right _ h))))
theorem u_X11_count_X6 : ∀ w ∈ wsX60, w ∈ wsX11_count := fun _ h => List.mem_cons_of_mem _ (List.mem_append_left _ (List.mem_append_right _ h))
theorem u_X11_count_X8 : ∀ w ∈ wsX80, w ∈ wsX11_count := fun _ h => List.mem_cons_of_mem _ (List.mem_append_left _ (List.mem_append_left _ (List.mem_append_right _ h)))
set_option maxHeartbeats 1000000 in
set_option maxRecDepth 100000 in
theorem c_X11_count (l : Launch) (D : va_G) (cI cZ cT : ClassId) (nx : Nat) (ra pa ta da : Nat → Nat) (ia xa : Nat) (fa za : Nat → Nat) (un na fi : Int32) (it la sz : Nat → Int32) (t : Nat) (tf tat tw : Int32) (bt : Nat → Int32) (st dy ln : Int32) (n : Nat) (kd dd nt lf : Nat → Int32) (what : Int32) (hn : n ≤ 6) : Met l yX11_count wsX11_count ({ frames := 4, cells := 0, slots := 0, locals := 84 }) (pR D cI cZ cT [.ref nx, .int what] (wNW nx ra pa ta da ia xa fa za un na fi ++ wRows cI ra it la sz ++ wTape cI pa (nI t) tf tat tw bt ++ wTown cI ta st dy ln (nI n) kd dd nt lf)) (QcRead (x_count la dy ln n dd nt lf un t what)) 0 0 (fun _ => False) := by
  refine Met.ofW (cc := cX11_count) (maxL := 2) (ret := (some .int)) (by decide) rfl ?_
  intro p e s m args below meth c s₁ B hml hv
  obtain ⟨rfl, hP, hK⟩ := hv
  have hx := B.exec
  have hb := B.bytes
  have hr := B.returns
  have hts := atoms_spec (ws := wsX11_count) B.pre
  have hown : s.vm.findClass RX11 = some m.cls := findClass_of_methodNamed B.named
  have hlocks := B.notSynchronized
  have hl := lv_entry ([.ref nx, .int what]) (n := 2) (Nat.le_of_ble_eq_true rfl)
  rw [lg_entry_eq]
  generalize (lg_sl ([.ref nx, .int what]) ++ List.replicate (2 - (lg_sl ([.ref nx, .int what])).length) Slot.unset).toArray = ls at hl ⊢
  have hl : lv_has ls 2 [(0, .ref nx), (1, .int what)] := hl
  refine lv_iload_n hx hb dX11_count_0 rfl (lv_at hl 1 rfl) ?_
  by_cases c1 : what = 0
  · refine lv_tableIn (tgt := 48) hx hb dX11_count_1 (by rw [c1]; decide) (by rw [c1]; decide) (off := 47) (by rw [c1]; decide) (by decide) ?_
    refine lv_aload_n hx hb dX11_count_48 rfl (lv_at hl 0 rfl) ?_
    refine va_get (D := D) (ci := 10) (v := .ref (ra 0)) (C := RX11) (T := TX11) (N := 11) hx hb hts u_X11_count_X11 hown hK.1 hP 0 rfl rfl 0 (by decide) (hts (.fieldLink RX11 12 "NoticeWeek" "rows" "LNoticeWeek$Rows;") (List.mem_of_getElem? (i := 1) rfl)) (fun _ h9 => h9) rfl dX11_count_49 ?_
    refine b_call (va_runV (As := []) (rest := []) ⟨hx, hb, hml, hown, hts⟩ (c_X4_present l D cI cZ cT ra it la sz) (cwV 0 hts gX11_count_X4_present rfl rfl rfl (by decide +kernel) ⟨(Nat.le_of_ble_eq_true rfl), (Nat.le_of_ble_eq_true rfl)⟩) (b_pV hK hP [1, 2, 3, 4] rfl 1 rfl rfl) rfl rfl hl.1 rfl (lv_room (Nat.le_of_ble_eq_true rfl)) dX11_count_52 ⟨Nat.zero_le _, Nat.zero_le _⟩).run ?_
    exact b_ret hx hb hr (by first | (simp only [x_count, eq_true c1, bI, not_true_eq_false, not_false_eq_true, ite_true, ite_false, if_true, if_false, and_self, and_true, true_and, false_and, and_false, or_true, true_or, or_false, false_or, eq_self]; done) | (simp [x_count, eq_true c1, bI]; done)) dX11_count_55 hlocks
  by_cases c2 : what = 1
  · refine lv_tableIn (tgt := 56) hx hb dX11_count_1 (by rw [c2]; decide) (by rw [c2]; decide) (off := 55) (by rw [c2]; decide) (by decide) ?_
    refine lv_aload_n hx hb dX11_count_56 rfl (lv_at hl 0 rfl) ?_
    refine va_get (D := D) (ci := 10) (v := .ref (ta 0)) (C := RX11) (T := TX11) (N := 11) hx hb hts u_X11_count_X11 hown hK.1 hP 0 rfl rfl 2 (by decide) (hts (.fieldLink RX11 26 "NoticeWeek" "town" "LNoticeWeek$Town;") (List.mem_of_getElem? (i := 2) rfl)) (fun _ h9 => h9) rfl dX11_count_57 ?_
    refine va_get (D := D) (ci := 7) (v := .int (nI (n))) (C := RX8) (T := TX8) (N := 8) hx hb hts u_X11_count_X8 hown hK.1 hP 7 rfl rfl 3 (by decide) (hts (.fieldLink RX11 131 "NoticeWeek$Town" "readers" "I") (List.mem_of_getElem? (i := 3) rfl)) (fun _ h9 => h9) rfl dX11_count_60 ?_
    exact b_ret hx hb hr (by first | (simp only [x_count, eq_false c1, eq_true c2, bI, not_true_eq_false, not_false_eq_true, ite_true, ite_false, if_true, if_false, and_self, and_true, true_and, false_and, and_false, or_true, true_or, or_false, false_or, eq_self]; done) | (simp [x_count, eq_false c1, eq_true c2, bI]; done)) dX11_count_63 hlocks
  by_cases c3 : what = 2
  · refine lv_tableIn (tgt := 64) hx hb dX11_count_1 (by rw [c3]; decide) (by rw [c3]; decide) (off := 63) (by rw [c3]; decide) (by decide) ?_
    refine lv_aload_n hx hb dX11_count_64 rfl (lv_at hl 0 rfl) ?_
    refine va_get (D := D) (ci := 10) (v := .ref (ta 0)) (C := RX11) (T := TX11) (N := 11) hx hb hts u_X11_count_X11 hown hK.1 hP 0 rfl rfl 2 (by decide) (hts (.fieldLink RX11 26 "NoticeWeek" "town" "LNoticeWeek$Town;") (List.mem_of_getElem? (i := 2) rfl)) (fun _ h9 => h9) rfl dX11_count_65 ?_
    refine b_call (va_runV (As := []) (rest := []) ⟨hx, hb, hml, hown, hts⟩ (c_X8_living l D cI cZ cT ta st dy ln n kd dd nt lf hn) (cwV 0 hts gX11_count_X8_living rfl rfl rfl (by decide +kernel) ⟨(Nat.le_of_ble_eq_true rfl), (Nat.le_of_ble_eq_true rfl)⟩) (b_pV hK hP [7, 8, 9, 10, 11] rfl 7 rfl rfl) rfl rfl hl.1 rfl (lv_room (Nat.le_of_ble_eq_true rfl)) dX11_count_68 ⟨Nat.zero_le _, Nat.zero_le _⟩).run ?_
    refine b_call (va_runS (As := [.int (lvT lf n)]) (rest := []) ⟨hx, hb, hml, hown, hts⟩ (c_J6_bitCount_0f7a4 l D cI cZ cT (lvT lf n)) (va_cwS 1 hts gX11_count_J6_bitCount_0f7a4 rfl rfl rfl (by decide +kernel) ⟨(Nat.le_of_ble_eq_true rfl), (Nat.le_of_ble_eq_true rfl)⟩) (b_pS0 hK) rfl rfl hl.1 rfl (lv_room (Nat.le_of_ble_eq_true rfl)) dX11_count_71 ⟨Nat.zero_le _, Nat.zero_le _⟩).run ?_
    exact b_ret hx hb hr (by first | (simp only [x_count, eq_false c1, eq_false c2, eq_true c3, bI, not_true_eq_false, not_false_eq_true, ite_true, ite_false, if_true, if_false, and_self, and_true, true_and, false_and, and_false, or_true, true_or, or_false, false_or, eq_self]; done) | (simp [x_count, eq_false c1, eq_false c2, eq_true c3, bI]; done)) dX11_count_74 hlocks
  by_cases c4 : what = 3
  · refine lv_tableIn (tgt := 75) hx hb dX11_count_1 (by rw [c4]; decide) (by rw [c4]; decide) (off := 74) (by rw [c4]; decide) (by decide) ?_
    refine lv_aload_n hx hb dX11_count_75 rfl (lv_at hl 0 rfl) ?_
    refine va_get (D := D) (ci := 10) (v := .ref (ta 0)) (C := RX11) (T := TX11) (N := 11) hx hb hts u_X11_count_X11 hown hK.1 hP 0 rfl rfl 2 (by decide) (hts (.fieldLink RX11 26 "NoticeWeek" "town" "LNoticeWeek$Town;") (List.mem_of_getElem? (i := 2) rfl)) (fun _ h9 => h9) rfl dX11_count_76 ?_
    refine va_get (D := D) (ci := 7) (v := .int dy) (C := RX8) (T := TX8) (N := 8) hx hb hts u_X11_count_X8 hown hK.1 hP 7 rfl rfl 1 (by decide) (hts (.fieldLink RX11 142 "NoticeWeek$Town" "day" "I") (List.mem_of_getElem? (i := 4) rfl)) (fun _ h9 => h9) rfl dX11_count_79 ?_
    exact b_ret hx hb hr (by first | (simp only [x_count, eq_false c1, eq_false c2, eq_false c3, eq_true c4, bI, not_true_eq_false, not_false_eq_true, ite_true, ite_false, if_true, if_false, and_self, and_true, true_and, false_and, and_false, or_true, true_or, or_false, false_or, eq_self]; done) | (simp [x_count, eq_false c1, eq_false c2, eq_false c3, eq_true c4, bI]; done)) dX11_count_82 hlocks
  by_cases c5 : what = 4
  · refine lv_tableIn (tgt := 83) hx hb dX11_count_1 (by rw [c5]; decide) (by rw [c5]; decide) (off := 82) (by rw [c5]; decide) (by decide) ?_
    refine lv_aload_n hx hb dX11_count_83 rfl (lv_at hl 0 rfl) ?_
    refine va_get (D := D) (ci := 10) (v := .ref (ta 0)) (C := RX11) (T := TX11) (N := 11) hx hb hts u_X11_count_X11 hown hK.1 hP 0 rfl rfl 2 (by decide) (hts (.fieldLink RX11 26 "NoticeWeek" "town" "LNoticeWeek$Town;") (List.mem_of_getElem? (i := 2) rfl)) (fun _ h9 => h9) rfl dX11_count_84 ?_
    refine va_get (D := D) (ci := 7) (v := .int ln) (C := RX8) (T := TX8) (N := 8) hx hb hts u_X11_count_X8 hown hK.1 hP 7 rfl rfl 2 (by decide) (hts (.fieldLink RX11 283 "NoticeWeek$Town" "lines" "I") (List.mem_of_getElem? (i := 5) rfl)) (fun _ h9 => h9) rfl dX11_count_87 ?_
    exact b_ret hx hb hr (by first | (simp only [x_count, eq_false c1, eq_false c2, eq_false c3, eq_false c4, eq_true c5, bI, not_true_eq_false, not_false_eq_true, ite_true, ite_false, if_true, if_false, and_self, and_true, true_and, false_and, and_false, or_true, true_or, or_false, false_or, eq_self]; done) | (simp [x_count, eq_false c1, eq_false c2, eq_false c3, eq_false c4, eq_true c5, bI]; done)) dX11_count_90 hlocks
  by_cases c6 : what = 5
  · refine lv_tableIn (tgt := 91) hx hb dX11_count_1 (by rw [c6]; decide) (by rw [c6]; decide) (off := 90) (by rw [c6]; decide) (by decide) ?_
    refine lv_aload_n hx hb dX11_count_91 rfl (lv_at hl 0 rfl) ?_
    refine va_get (D := D) (ci := 10) (v := .ref (ta 0)) (C := RX11) (T := TX11) (N := 11) hx hb hts u_X11_count_X11 hown hK.1 hP 0 rfl rfl 2 (by decide) (hts (.fieldLink RX11 26 "NoticeWeek" "town" "LNoticeWeek$Town;") (List.mem_of_getElem? (i := 2) rfl)) (fun _ h9 => h9) rfl dX11_count_92 ?_
    refine b_call (va_runV (As := []) (rest := []) ⟨hx, hb, hml, hown, hts⟩ (c_X8_trueNow l D cI cZ cT ta st dy ln n kd dd nt lf hn) (cwV 0 hts gX11_count_X8_trueNow rfl rfl rfl (by decide +kernel) ⟨(Nat.le_of_ble_eq_true rfl), (Nat.le_of_ble_eq_true rfl)⟩) (b_pV hK hP [7, 8, 9, 10, 11] rfl 7 rfl rfl) rfl rfl hl.1 rfl (lv_room (Nat.le_of_ble_eq_true rfl)) dX11_count_95 ⟨Nat.zero_le _, Nat.zero_le _⟩).run ?_
    exact b_ret hx hb hr (by first | (simp only [x_count, eq_false c1, eq_false c2, eq_false c3, eq_false c4, eq_false c5, eq_true c6, bI, not_true_eq_false, not_false_eq_true, ite_true, ite_false, if_true, if_false, and_self, and_true, true_and, false_and, and_false, or_true, true_or, or_false, false_or, eq_self]; done) | (simp [x_count, eq_false c1, eq_false c2, eq_false c3, eq_false c4, eq_false c5, eq_true c6, bI]; done)) dX11_count_98 hlocks
  by_cases c7 : what = 6
  · refine lv_tableIn (tgt := 99) hx hb dX11_count_1 (by rw [c7]; decide) (by rw [c7]; decide) (off := 98) (by rw [c7]; decide) (by decide) ?_
    refine lv_aload_n hx hb dX11_count_99 rfl (lv_at hl 0 rfl) ?_
    refine va_get (D := D) (ci := 10) (v := .int un) (C := RX11) (T := TX11) (N := 11) hx hb hts u_X11_count_X11 hown hK.1 hP 0 rfl rfl 6 (by decide) (hts (.fieldLink RX11 40 "NoticeWeek" "undoable" "I") (List.mem_of_getElem? (i := 6) rfl)) (fun _ h9 => h9) rfl dX11_count_100 ?_
    exact b_ret hx hb hr (by first | (simp only [x_count, eq_false c1, eq_false c2, eq_false c3, eq_false c4, eq_false c5, eq_false c6, eq_true c7, bI, not_true_eq_false, not_false_eq_true, ite_true, ite_false, if_true, if_false, and_self, and_true, true_and, false_and, and_false, or_true, true_or, or_false, false_or, eq_self]; done) | (simp [x_count, eq_false c1, eq_false c2, eq_false c3, eq_false c4, eq_false c5, eq_false c6, eq_true c7, bI]; done)) dX11_count_103 hlocks
  by_cases c8 : what = 7
  · refine lv_tableIn (tgt := 104) hx hb dX11_count_1 (by rw [c8]; decide) (by rw [c8]; decide) (off := 103) (by rw [c8]; decide) (by decide) ?_
    refine lv_aload_n hx hb dX11_count_104 rfl (lv_at hl 0 rfl) ?_
    refine va_get (D := D) (ci := 10) (v := .ref (pa 0)) (C := RX11) (T := TX11) (N := 11) hx hb hts u_X11_count_X11 hown hK.1 hP 0 rfl rfl 1 (by decide) (hts (.fieldLink RX11 19 "NoticeWeek" "tape" "LNoticeWeek$Tape;") (List.mem_of_getElem? (i := 7) rfl)) (fun _ h9 => h9) rfl dX11_count_105 ?_
    refine va_get (D := D) (ci := 6) (v := .int (nI (t))) (C := RX6) (T := TX6) (N := 5) hx hb hts u_X11_count_X6 hown hK.1 hP 5 rfl rfl 1 (by decide) (hts (.fieldLink RX11 289 "NoticeWeek$Tape" "length" "I") (List.mem_of_getElem? (i := 8) rfl)) (fun _ h9 => h9) rfl dX11_count_108 ?_
    exact b_ret hx hb hr (by first | (simp only [x_count, eq_false c1, eq_false c2, eq_false c3, eq_false c4, eq_false c5, eq_false c6, eq_false c7, eq_true c8, bI, not_true_eq_false, not_false_eq_true, ite_true, ite_false, if_true, if_false, and_self, and_true, true_and, false_and, and_false, or_true, true_or, or_false, false_or, eq_self]; done) | (simp [x_count, eq_false c1, eq_false c2, eq_false c3, eq_false c4, eq_false c5, eq_false c6, eq_false c7, eq_true c8, bI]; done)) dX11_count_111 hlocks
  refine lv_tableOut (tgt := 112) hx hb dX11_count_1 (sw_out0_7 c1 c2 c3 c4 c5 c6 c7 c8) (by decide) ?_
  refine lv_ldc (v := (-1000001)) hx hb hown (hts (.constant RX11 71 (-1000001)) (List.mem_of_getElem? (i := 9) rfl)) dX11_count_112 ?_
  exact b_ret hx hb hr (by first | (simp only [x_count, eq_false c1, eq_false c2, eq_false c3, eq_false c4, eq_false c5, eq_false c6, eq_false c7, eq_false c8, bI, not_true_eq_false, not_false_eq_true, ite_true, ite_false, if_true, if_false, and_self, and_true, true_and, false_and, and_false, or_true, true_or, or_false, false_or, eq_self]; done) | (simp [x_count, eq_false c1, eq_false c2, eq_false c3, eq_false c4, eq_false c5, eq_false c6, eq_false c7, eq_false c8, bI]; done)) dX11_count_114 hlocks
