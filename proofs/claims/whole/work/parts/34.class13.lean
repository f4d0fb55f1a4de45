/-! CLASS: acts, days, images -/
theorem rem24 {a : Nat} (h : a < 2147483648) : nI a - nI a / 24 * 24 = nI (a % 24) := pk_rem h (by decide) (by decide)
theorem mnI24 {b : Nat} (hb : b ≤ 900) : (if nI b < 24 then nI b else 24) = nI (min 24 b) := mnI (a := 24) (by omega) hb
/-- a town that was y becomes x -/
abbrev kpT (x y : TS) : TS := (x.1, x.2.1, x.2.2.1, x.2.2.2.1, cp6 x.2.2.2.2.1 y.2.2.2.2.1 6, cp6 x.2.2.2.2.2.1 y.2.2.2.2.2.1 6, cp6 x.2.2.2.2.2.2.1 y.2.2.2.2.2.2.1 6, cp6 x.2.2.2.2.2.2.2 y.2.2.2.2.2.2.2 6)
def kpG (gs : Nat → TS) (i : Nat) (y : TS) : Nat → TS := va_up gs i (kpT y (gs i))
def pdS (dy : Int32) (kd nt : Nat → Int32) (r : Nat) (S : (Nat → Int32) × (Nat → Int32)) : (Nat → Int32) × (Nat → Int32) := if ¬ S.2 r ≤ 0 then (upd S.1 r (S.1 r ||| tDo (kd r) dy (S.1 r) (nt r)), upd S.2 r (S.2 r - 1)) else S
def pdF (dy : Int32) (kd nt dd lf : Nat → Int32) (k : Nat) : (Nat → Int32) × (Nat → Int32) := itr (fun r S => pdS dy kd nt r S) k (dd, lf)
theorem pdF_s (dy : Int32) (kd nt dd lf : Nat → Int32) (k : Nat) : pdF dy kd nt dd lf (k + 1) = pdS dy kd nt k (pdF dy kd nt dd lf k) := rfl
abbrev DS : Type := Nat × Nat × (Nat → TS) × Int32 × (Nat → Int32) × (Nat → Int32)
def dsS (st ln : Int32) (n : Nat) (kd nt : Nat → Int32) (S : DS) : DS := (min 24 (S.1 + 1), (S.2.1 + 1) % 24, kpG S.2.2.1 S.2.1 (st, S.2.2.2.1, ln, nI n, kd, S.2.2.2.2.1, nt, S.2.2.2.2.2), S.2.2.2.1 + 1, (pdF S.2.2.2.1 kd nt S.2.2.2.2.1 S.2.2.2.2.2 n).1, (pdF S.2.2.2.1 kd nt S.2.2.2.2.1 S.2.2.2.2.2 n).2)
def dsL (st ln : Int32) (n : Nat) (kd nt : Nat → Int32) (S : DS) (k : Nat) : DS := itr (fun _ S => dsS st ln n kd nt S) k S
theorem dsL_s (st ln : Int32) (n : Nat) (kd nt : Nat → Int32) (S : DS) (k : Nat) : dsL st ln n kd nt S (k + 1) = dsS st ln n kd nt (dsL st ln n kd nt S k) := rfl
theorem dsS_le {st ln : Int32} {n : Nat} {kd nt : Nat → Int32} {S : DS} : (dsS st ln n kd nt S).1 ≤ 24 ∧ (dsS st ln n kd nt S).2.1 ≤ 23 := by
  refine ⟨?_, ?_⟩
  · show min 24 (S.1 + 1) ≤ 24; omega
  · show (S.2.1 + 1) % 24 ≤ 23; omega
def x_days (st dy ln : Int32) (n : Nat) (kd dd nt lf : Nat → Int32) (u w : Nat) (gs : Nat → TS) (x : Int32) : Int32 × DS :=
  if st = 0 then (-1000002, u, w, gs, dy, dd, lf)
  else if x < 1 then (-1000001, u, w, gs, dy, dd, lf)
  else if ¬ x ≤ 20 then (-1000001, u, w, gs, dy, dd, lf)
  else if ¬ dy + x ≤ 999 then (-1000003, u, w, gs, dy, dd, lf)
  else (lvT (dsL st ln n kd nt (u, w, gs, dy, dd, lf) (tn x)).2.2.2.2.2 n, dsL st ln n kd nt (u, w, gs, dy, dd, lf) (tn x))
abbrev hasN (n : Nat) (x : Int32) : Prop := ¬ x < 0 ∧ ¬ nI n ≤ x
theorem has_r {n : Nat} {x : Int32} (hn : n ≤ 6) (h : hasN n x) : ∃ r : Nat, r ≤ 5 ∧ x = nI r := i_ltN (by omega) (by omega) h.1 h.2
theorem rd_lt {r n : Nat} (hn : n ≤ 6) (hr : r ≤ 5) (h : hasN n (nI r)) : r < n := by
  have h2 := h.2
  rw [i_le, nI_toInt (by omega), nI_toInt (by omega)] at h2
  omega
def x_write (st dy ln : Int32) (n : Nat) (kd dd nt lf : Nat → Int32) (u w : Nat) (gs : Nat → TS) (reader notice : Int32) : Int32 × Nat × Nat × (Nat → TS) × (Nat → Int32) :=
  if ¬ hasN n reader then (-1000001, u, w, gs, nt)
  else if ¬ (¬ notice < 0 ∧ ¬ 63 < notice) then (-1000001, u, w, gs, nt)
  else if ¬ ¬ lf (tn reader) ≤ 0 then (-1000002, u, w, gs, nt)
  else (nt (tn reader), min 24 (u + 1), (w + 1) % 24, kpG gs w (st, dy, ln, nI n, kd, dd, nt, lf), upd nt (tn reader) notice)
def x_deny (st dy ln : Int32) (n : Nat) (kd dd nt lf : Nat → Int32) (u w : Nat) (gs : Nat → TS) (reader deed : Int32) : Int32 × Nat × Nat × (Nat → TS) × (Nat → Int32) :=
  if ¬ hasN n reader then (-1000001, u, w, gs, dd)
  else if deed < 0 then (-1000001, u, w, gs, dd)
  else if ¬ deed < 6 then (-1000001, u, w, gs, dd)
  else if dd (tn reader) &&& (1 <<< (deed &&& 31)) = 0 then (-1000002, u, w, gs, dd)
  else (dd (tn reader) &&& ((1 <<< (deed &&& 31)) ^^^ (-1)), min 24 (u + 1), (w + 1) % 24, kpG gs w (st, dy, ln, nI n, kd, dd, nt, lf), upd dd (tn reader) (dd (tn reader) &&& ((1 <<< (deed &&& 31)) ^^^ (-1))))
def spX (a x : Int32) : Int32 := if a + x < 60 then a + x else 60
def x_spare (st dy ln : Int32) (n : Nat) (kd dd nt lf : Nat → Int32) (u w : Nat) (gs : Nat → TS) (reader x : Int32) : Int32 × Nat × Nat × (Nat → TS) × (Nat → Int32) :=
  if ¬ hasN n reader then (-1000001, u, w, gs, lf)
  else if x < 1 then (-1000001, u, w, gs, lf)
  else if ¬ x ≤ 60 then (-1000001, u, w, gs, lf)
  else if ¬ ¬ lf (tn reader) ≤ 0 then (-1000002, u, w, gs, lf)
  else (spX (lf (tn reader)) x, min 24 (u + 1), (w + 1) % 24, kpG gs w (st, dy, ln, nI n, kd, dd, nt, lf), upd lf (tn reader) (spX (lf (tn reader)) x))
def x_undo (u w : Nat) (gs : Nat → TS) (y : TS) : Int32 × Nat × Nat × TS :=
  if nI u = 0 then (-1000002, u, w, y) else (nI (u - 1), u - 1, (w + 24 - 1) % 24, kpT (gs ((w + 24 - 1) % 24)) y)
def x_image (gi : Nat → TS) (y : TS) (k : Int32) : Int32 × (Nat → TS) :=
  if ¬ (¬ k < 0 ∧ ¬ 2 ≤ k) then (-1000001, gi) else if y.1 = 0 then (-1000002, gi) else (1, kpG gi (tn k) y)
def x_restore (un : Int32) (gi : Nat → TS) (y : TS) (k : Int32) : Int32 × Int32 × TS :=
  if ¬ (¬ k < 0 ∧ ¬ 2 ≤ k) then (-1000001, un, y) else if (gi (tn k)).1 = 0 then (-1000002, un, y) else (1, nI 0, kpT (gi (tn k)) y)
theorem u_X11_keepAct_X11 : ∀ w ∈ wsX110, w ∈ wsX11_keepAct := fun _ h => List.mem_cons_of_mem _ (List.mem_append_left _ (List.mem_append_right _ h))
set_option maxHeartbeats 4000000 in
set_option maxRecDepth 100000 in
theorem c_X11_keepAct (l : Launch) (D : va_G) (cI cZ cT : ClassId) (nx : Nat) (ra pa ta da : Nat → Nat) (ia xa : Nat) (fa za : Nat → Nat) (ku kw : Nat) (fi st dy ln rd : Int32) (kd dd nt lf : Nat → Int32) (ga : Nat → Nat → Nat) (gs : Nat → TS) (hu : ku ≤ 24) (hw : kw ≤ 23) (hst : st = 0 ∨ st = 1) : Met l yX11_keepAct wsX11_keepAct ({ frames := 1, cells := 0, slots := 0, locals := 22 }) (pM D cI cZ cT [.ref nx] (wNW nx ra pa ta da ia xa fa za (nI ku) (nI kw) fi ++ wTown cI ta st dy ln rd kd dd nt lf ++ wAr cT 24 xa ga ++ wTs cI 24 ga gs)) (qM D none (wNW nx ra pa ta da ia xa fa za (nI (min 24 (ku + 1))) (nI ((kw + 1) % 24)) fi ++ wTown cI ta st dy ln rd kd dd nt lf ++ wAr cT 24 xa ga ++ wTs cI 24 ga (kpG gs kw (st, dy, ln, rd, kd, dd, nt, lf))) (adr (wNW nx ra pa ta da ia xa fa za (nI ku) (nI kw) fi ++ wTown cI ta st dy ln rd kd dd nt lf ++ wAr cT 24 xa ga ++ wTs cI 24 ga gs))) 0 0 (adr (wNW nx ra pa ta da ia xa fa za (nI ku) (nI kw) fi ++ wTown cI ta st dy ln rd kd dd nt lf ++ wAr cT 24 xa ga ++ wTs cI 24 ga gs)) := by
  refine Met.ofW (cc := cX11_keepAct) (maxL := 1) (ret := none) (by decide) rfl ?_
  intro p e s m args below meth c s₁ B hml hv
  obtain ⟨rfl, hP, hD0, hK⟩ := hv
  have hx := B.exec
  have hb := B.bytes
  have hr := B.returns
  have hts := atoms_spec (ws := wsX11_keepAct) B.pre
  have hown : s.vm.findClass RX11 = some m.cls := findClass_of_methodNamed B.named
  have hlocks := B.notSynchronized
  have hD := hD0.toAdr
  have hS : va_S (adr (wNW nx ra pa ta da ia xa fa za (nI ku) (nI kw) fi ++ wTown cI ta st dy ln rd kd dd nt lf ++ wAr cT 24 xa ga ++ wTs cI 24 ga gs)) s.heap s.heap [] := va_S.rf
  generalize adr (wNW nx ra pa ta da ia xa fa za (nI ku) (nI kw) fi ++ wTown cI ta st dy ln rd kd dd nt lf ++ wAr cT 24 xa ga ++ wTs cI 24 ga gs) = A at hD hS ⊢
  have hl := lv_entry ([.ref nx]) (n := 1) (Nat.le_of_ble_eq_true rfl)
  rw [lg_entry_eq]
  generalize (lg_sl ([.ref nx]) ++ List.replicate (1 - (lg_sl ([.ref nx])).length) Slot.unset).toArray = ls at hl ⊢
  have hl : lv_has ls 1 [(0, .ref nx)] := hl
  refine lv_aload_n hx hb dX11_keepAct_0 rfl (lv_at hl 0 rfl) ?_
  refine va_get (D := D) (ci := 10) (v := .ref xa) (C := RX11) (T := TX11) (N := 11) hx hb hts u_X11_keepAct_X11 hown hK.1 hP 0 rfl rfl 5 (by decide) (hts (.fieldLink RX11 37 "NoticeWeek" "acts" "[LNoticeWeek$Town;") (List.mem_of_getElem? (i := 1) rfl)) (fun _ h9 => h9) rfl dX11_keepAct_1 ?_
  refine lv_aload_n hx hb dX11_keepAct_4 rfl (lv_at hl 0 rfl) ?_
  refine va_get (D := D) (ci := 10) (v := .int (nI (kw))) (C := RX11) (T := TX11) (N := 11) hx hb hts u_X11_keepAct_X11 hown hK.1 hP 0 rfl rfl 7 (by decide) (hts (.fieldLink RX11 44 "NoticeWeek" "nextAct" "I") (List.mem_of_getElem? (i := 2) rfl)) (fun _ h9 => h9) rfl dX11_keepAct_5 ?_
  refine b_aald hx hb hK hP 6 rfl (by omega) (by decide) dX11_keepAct_8 ?_
  refine lv_aload_n hx hb dX11_keepAct_9 rfl (lv_at hl 0 rfl) ?_
  refine va_get (D := D) (ci := 10) (v := .ref (ta 0)) (C := RX11) (T := TX11) (N := 11) hx hb hts u_X11_keepAct_X11 hown hK.1 hP 0 rfl rfl 2 (by decide) (hts (.fieldLink RX11 26 "NoticeWeek" "town" "LNoticeWeek$Town;") (List.mem_of_getElem? (i := 3) rfl)) (fun _ h9 => h9) rfl dX11_keepAct_10 ?_
  have r2 := r_two (y := (st, dy, ln, rd, kd, dd, nt, lf)) hP hD (show kw < 24 by omega) ((List.sublist_append_right _ _).trans (List.sublist_append_left _ _))
  refine b_ring1 (x' := kpT (st, dy, ln, rd, kd, dd, nt, lf) (gs kw)) (y := (st, dy, ln, rd, kd, dd, nt, lf)) (va_runV (As := [.ref (ta 0)]) (rest := []) ⟨hx, hb, hml, hown, hts⟩ (c_X8_become l D cI cZ cT (ga kw) (gs kw).1 (gs kw).2.1 (gs kw).2.2.1 (gs kw).2.2.2.1 (gs kw).2.2.2.2.1 (gs kw).2.2.2.2.2.1 (gs kw).2.2.2.2.2.2.1 (gs kw).2.2.2.2.2.2.2 ta st dy ln rd kd dd nt lf hst) (cwV 1 hts gX11_keepAct_X8_become rfl rfl rfl (by decide +kernel) ⟨(Nat.le_of_ble_eq_true rfl), (Nat.le_of_ble_eq_true rfl)⟩) (r_pre (n := 0) (i := 0) (ga := ga) (x := gs kw) (y := (st, dy, ln, rd, kd, dd, nt, lf)) hK r2.1 r2.2.2.1) rfl rfl hl.1 rfl (lv_room (Nat.le_of_ble_eq_true rfl)) dX11_keepAct_13 ⟨Nat.zero_le _, Nat.zero_le _⟩).run hP hD hS (show kw < 24 by omega) ((List.sublist_append_right _ _).trans (List.sublist_append_left _ _)) (fun H locs hP hD hS => ?_)
  have hP : va_P D vwCl (wNW nx ra pa ta da ia xa fa za (nI ku) (nI kw) fi ++ wTown cI ta st dy ln rd kd dd nt lf ++ wAr cT 24 xa ga ++ wTs cI 24 ga (kpG gs kw (st, dy, ln, rd, kd, dd, nt, lf))) H := hP
  have hD : va_D A (wNW nx ra pa ta da ia xa fa za (nI ku) (nI kw) fi ++ wTown cI ta st dy ln rd kd dd nt lf ++ wAr cT 24 xa ga ++ wTs cI 24 ga (kpG gs kw (st, dy, ln, rd, kd, dd, nt, lf))) := hD
  refine lv_aload_n hx hb dX11_keepAct_16 rfl (lv_at hl 0 rfl) ?_
  refine lv_aload_n hx hb dX11_keepAct_17 rfl (lv_at hl 0 rfl) ?_
  refine va_get (D := D) (ci := 10) (v := .int (nI (kw))) (C := RX11) (T := TX11) (N := 11) hx hb hts u_X11_keepAct_X11 hown hK.1 hP 0 rfl rfl 7 (by decide) (hts (.fieldLink RX11 44 "NoticeWeek" "nextAct" "I") (List.mem_of_getElem? (i := 2) rfl)) (fun _ h9 => h9) rfl dX11_keepAct_18 ?_
  refine lv_iconst (v := (nI 1)) hx hb dX11_keepAct_21 (by decide) ?_
  refine b_add hx hb dX11_keepAct_22 ?_
  refine lv_bipush (v := 24) hx hb dX11_keepAct_23 (by decide) ?_
  refine lv_irem hx hb dX11_keepAct_25 (by decide) ?_
  rw [rem24 (by omega)]
  refine b_put (C := RX11) (T := TX11) (N := 11) hx hb hts u_X11_keepAct_X11 tyX11 tyX11_ok nmX11 hown hK hP hD hS 0 rfl rfl 7 (by decide) (hts (.fieldLink RX11 44 "NoticeWeek" "nextAct" "I") (List.mem_of_getElem? (i := 2) rfl)) rfl (by decide +kernel) (Nat.le_of_ble_eq_true rfl) dX11_keepAct_26 (fun H locs hP hS => ?_)
  have hP : va_P D vwCl (wNW nx ra pa ta da ia xa fa za (nI ku) (nI ((kw + 1) % 24)) fi ++ wTown cI ta st dy ln rd kd dd nt lf ++ wAr cT 24 xa ga ++ wTs cI 24 ga (kpG gs kw (st, dy, ln, rd, kd, dd, nt, lf))) H := hP
  have hD : va_D A (wNW nx ra pa ta da ia xa fa za (nI ku) (nI ((kw + 1) % 24)) fi ++ wTown cI ta st dy ln rd kd dd nt lf ++ wAr cT 24 xa ga ++ wTs cI 24 ga (kpG gs kw (st, dy, ln, rd, kd, dd, nt, lf))) := hD.sameA ([nx, (ta 0), (ta 1), (ta 2), (ta 3), (ta 4), xa] ++ (wTs cI 24 ga (kpG gs kw (st, dy, ln, rd, kd, dd, nt, lf))).map Prod.fst) rfl rfl
  refine lv_aload_n hx hb dX11_keepAct_29 rfl (lv_at hl 0 rfl) ?_
  refine lv_bipush (v := 24) hx hb dX11_keepAct_30 (by decide) ?_
  refine lv_aload_n hx hb dX11_keepAct_32 rfl (lv_at hl 0 rfl) ?_
  refine va_get (D := D) (ci := 10) (v := .int (nI (ku))) (C := RX11) (T := TX11) (N := 11) hx hb hts u_X11_keepAct_X11 hown hK.1 hP 0 rfl rfl 6 (by decide) (hts (.fieldLink RX11 40 "NoticeWeek" "undoable" "I") (List.mem_of_getElem? (i := 4) rfl)) (fun _ h9 => h9) rfl dX11_keepAct_33 ?_
  refine lv_iconst (v := (nI 1)) hx hb dX11_keepAct_36 (by decide) ?_
  refine b_add hx hb dX11_keepAct_37 ?_
  refine va_mmin hx hb (hml.trans hl.1.symm) hown (hts (.methodLink RX11 174 Lib.Math.min.name) (List.mem_of_getElem? (i := 5) rfl)) (hts (.static Lib.Math.min.name) (List.mem_of_getElem? (i := 6) rfl)) (hts (.initialized "java/lang/Math") (List.mem_of_getElem? (i := 7) rfl)) (hts (.code Lib.Math.min.name Lib.Math.min.code 2 (some .int)) (List.mem_of_getElem? (i := 8) rfl)) (Nat.le_of_ble_eq_true rfl) (Nat.le_of_ble_eq_true rfl) (Nat.zero_le _) (Nat.zero_le _) dX11_keepAct_38 ?_
  rw [mnI24 (by omega)]
  refine b_put (C := RX11) (T := TX11) (N := 11) hx hb hts u_X11_keepAct_X11 tyX11 tyX11_ok nmX11 hown hK hP hD hS 0 rfl rfl 6 (by decide) (hts (.fieldLink RX11 40 "NoticeWeek" "undoable" "I") (List.mem_of_getElem? (i := 4) rfl)) rfl (by decide +kernel) (Nat.le_of_ble_eq_true rfl) dX11_keepAct_41 (fun H locs hP hS => ?_)
  have hP : va_P D vwCl (wNW nx ra pa ta da ia xa fa za (nI (min 24 (ku + 1))) (nI ((kw + 1) % 24)) fi ++ wTown cI ta st dy ln rd kd dd nt lf ++ wAr cT 24 xa ga ++ wTs cI 24 ga (kpG gs kw (st, dy, ln, rd, kd, dd, nt, lf))) H := hP
  have hD : va_D A (wNW nx ra pa ta da ia xa fa za (nI (min 24 (ku + 1))) (nI ((kw + 1) % 24)) fi ++ wTown cI ta st dy ln rd kd dd nt lf ++ wAr cT 24 xa ga ++ wTs cI 24 ga (kpG gs kw (st, dy, ln, rd, kd, dd, nt, lf))) := hD.sameA ([nx, (ta 0), (ta 1), (ta 2), (ta 3), (ta 4), xa] ++ (wTs cI 24 ga (kpG gs kw (st, dy, ln, rd, kd, dd, nt, lf))).map Prod.fst) rfl rfl
  exact b_vretM hx hb hr hP hS dX11_keepAct_44 hlocks
theorem u_X11_passDay_X11 : ∀ w ∈ wsX110, w ∈ wsX11_passDay := fun _ h => List.mem_cons_of_mem _ (List.mem_append_left _ (List.mem_append_left _ (List.mem_append_right _ h)))
theorem u_X11_passDay_X8 : ∀ w ∈ wsX80, w ∈ wsX11_passDay := fun _ h => List.mem_cons_of_mem _ (List.mem_append_left _ (List.mem_append_right _ h))
set_option maxHeartbeats 4000000 in
set_option maxRecDepth 100000 in
theorem c_X11_passDay (l : Launch) (D : va_G) (cI cZ cT : ClassId) (nx : Nat) (ra pa ta da : Nat → Nat) (ia xa : Nat) (fa za : Nat → Nat) (un na fi st dy ln : Int32) (n : Nat) (kd dd nt lf co wy : Nat → Int32) (hn : n ≤ 6) (hKd : ∀ j, j < n → isK (kd j)) : Met l yX11_passDay wsX11_passDay ({ frames := 4, cells := 0, slots := 0, locals := 90 }) (pM D cI cZ cT [.ref nx] (wNW nx ra pa ta da ia xa fa za un na fi ++ wTown cI ta st dy ln (nI n) kd dd nt lf ++ wFore cI fa co wy)) (qM D none (wNW nx ra pa ta da ia xa fa za un na fi ++ wTown cI ta st (dy + 1) ln (nI n) kd ((pdF dy kd nt dd lf n).1) nt ((pdF dy kd nt dd lf n).2) ++ wFore cI fa co wy) (adr (wNW nx ra pa ta da ia xa fa za un na fi ++ wTown cI ta st dy ln (nI n) kd dd nt lf ++ wFore cI fa co wy))) 0 0 (adr (wNW nx ra pa ta da ia xa fa za un na fi ++ wTown cI ta st dy ln (nI n) kd dd nt lf ++ wFore cI fa co wy)) := by
  refine Met.ofW (cc := cX11_passDay) (maxL := 2) (ret := none) (by decide) rfl ?_
  intro p e s m args below meth c s₁ B hml hv
  obtain ⟨rfl, hP, hD0, hK⟩ := hv
  have hx := B.exec
  have hb := B.bytes
  have hr := B.returns
  have hts := atoms_spec (ws := wsX11_passDay) B.pre
  have hown : s.vm.findClass RX11 = some m.cls := findClass_of_methodNamed B.named
  have hlocks := B.notSynchronized
  have hD := hD0.toAdr
  have hS : va_S (adr (wNW nx ra pa ta da ia xa fa za un na fi ++ wTown cI ta st dy ln (nI n) kd dd nt lf ++ wFore cI fa co wy)) s.heap s.heap [] := va_S.rf
  generalize adr (wNW nx ra pa ta da ia xa fa za un na fi ++ wTown cI ta st dy ln (nI n) kd dd nt lf ++ wFore cI fa co wy) = A at hD hS ⊢
  have hl := lv_entry ([.ref nx]) (n := 2) (Nat.le_of_ble_eq_true rfl)
  rw [lg_entry_eq]
  generalize (lg_sl ([.ref nx]) ++ List.replicate (2 - (lg_sl ([.ref nx])).length) Slot.unset).toArray = ls at hl ⊢
  have hl : lv_has ls 2 [(0, .ref nx)] := hl
  refine lv_iconst (v := (nI 0)) hx hb dX11_passDay_0 (by decide) ?_
  refine lv_istore_n (lv' := [(1, .int (nI 0)), (0, .ref nx)]) hx hb dX11_passDay_1 rfl hl (by decide) rfl (fun ls hl => ?_)
  refine b_loopM (N := n) (I := fun k ls H locs => lv_has ls 2 [(1, .int (nI (k))), (0, .ref nx)] ∧ va_P D vwCl (wNW nx ra pa ta da ia xa fa za un na fi ++ wTown cI ta st dy ln (nI n) kd ((pdF dy kd nt dd lf k).1) nt ((pdF dy kd nt dd lf k).2) ++ wFore cI fa co wy) H ∧ va_S A s.heap H locs) (fun k hk ih1 ls H locs hI => ?_) 0 (by omega) ⟨lv_sub hl [0, 1] rfl, hP, hS⟩
  obtain ⟨hl, hP, hS⟩ := hI
  have hl : lv_has ls 2 [(1, .int (nI (k))), (0, .ref nx)] := hl
  have hP : va_P D vwCl (wNW nx ra pa ta da ia xa fa za un na fi ++ wTown cI ta st dy ln (nI n) kd ((pdF dy kd nt dd lf k).1) nt ((pdF dy kd nt dd lf k).2) ++ wFore cI fa co wy) H := hP
  have hD : va_D A (wNW nx ra pa ta da ia xa fa za un na fi ++ wTown cI ta st dy ln (nI n) kd ((pdF dy kd nt dd lf k).1) nt ((pdF dy kd nt dd lf k).2) ++ wFore cI fa co wy) := hD.sameA [nx, (ta 0), (ta 1), (ta 2), (ta 3), (ta 4), (fa 0), (fa 1), (fa 2), (fa 3), (fa 4), (fa 5), (fa 6), (fa 7)] rfl rfl
  refine lv_iload_n hx hb dX11_passDay_2 rfl (lv_at hl 0 rfl) ?_
  refine lv_aload_n hx hb dX11_passDay_3 rfl (lv_at hl 1 rfl) ?_
  refine va_get (D := D) (ci := 10) (v := .ref (ta 0)) (C := RX11) (T := TX11) (N := 11) hx hb hts u_X11_passDay_X11 hown hK.1 hP 0 rfl rfl 2 (by decide) (hts (.fieldLink RX11 26 "NoticeWeek" "town" "LNoticeWeek$Town;") (List.mem_of_getElem? (i := 1) rfl)) (fun _ h9 => h9) rfl dX11_passDay_4 ?_
  refine va_get (D := D) (ci := 7) (v := .int (nI (n))) (C := RX8) (T := TX8) (N := 8) hx hb hts u_X11_passDay_X8 hown hK.1 hP 1 rfl rfl 3 (by decide) (hts (.fieldLink RX11 131 "NoticeWeek$Town" "readers" "I") (List.mem_of_getElem? (i := 2) rfl)) (fun _ h9 => h9) rfl dX11_passDay_7 ?_
  refine b_ge (tgt := 67) hx hb (by omega) (by omega) dX11_passDay_10 (by decide) (fun c2 => ?_) (fun c2 => ?_)
  · have h_k : n = k := by omega
    subst h_k
    refine lv_aload_n hx hb dX11_passDay_67 rfl (lv_at hl 1 rfl) ?_
    refine va_get (D := D) (ci := 10) (v := .ref (ta 0)) (C := RX11) (T := TX11) (N := 11) hx hb hts u_X11_passDay_X11 hown hK.1 hP 0 rfl rfl 2 (by decide) (hts (.fieldLink RX11 26 "NoticeWeek" "town" "LNoticeWeek$Town;") (List.mem_of_getElem? (i := 1) rfl)) (fun _ h9 => h9) rfl dX11_passDay_68 ?_
    refine lv_dup hx hb dX11_passDay_71 rfl ?_
    refine va_get (D := D) (ci := 7) (v := .int dy) (C := RX8) (T := TX8) (N := 8) hx hb hts u_X11_passDay_X8 hown hK.1 hP 1 rfl rfl 1 (by decide) (hts (.fieldLink RX11 142 "NoticeWeek$Town" "day" "I") (List.mem_of_getElem? (i := 6) rfl)) (fun _ h9 => h9) rfl dX11_passDay_72 ?_
    refine lv_iconst (v := 1) hx hb dX11_passDay_75 (by decide) ?_
    refine lv_iadd hx hb dX11_passDay_76 ?_
    refine b_put (C := RX8) (T := TX8) (N := 8) hx hb hts u_X11_passDay_X8 tyX8 tyX8_ok nmX8 hown hK hP hD hS 1 rfl rfl 1 (by decide) (hts (.fieldLink RX11 142 "NoticeWeek$Town" "day" "I") (List.mem_of_getElem? (i := 6) rfl)) rfl (by decide +kernel) (Nat.le_of_ble_eq_true rfl) dX11_passDay_77 (fun H locs hP hS => ?_)
    have hP : va_P D vwCl (wNW nx ra pa ta da ia xa fa za un na fi ++ wTown cI ta st (dy + 1) ln (nI n) kd ((pdF dy kd nt dd lf n).1) nt ((pdF dy kd nt dd lf n).2) ++ wFore cI fa co wy) H := hP
    have hD : va_D A (wNW nx ra pa ta da ia xa fa za un na fi ++ wTown cI ta st (dy + 1) ln (nI n) kd ((pdF dy kd nt dd lf n).1) nt ((pdF dy kd nt dd lf n).2) ++ wFore cI fa co wy) := hD.sameA [nx, (ta 0), (ta 1), (ta 2), (ta 3), (ta 4), (fa 0), (fa 1), (fa 2), (fa 3), (fa 4), (fa 5), (fa 6), (fa 7)] rfl rfl
    exact b_vretM hx hb hr hP hS dX11_passDay_80 hlocks
  · refine lv_aload_n hx hb dX11_passDay_13 rfl (lv_at hl 1 rfl) ?_
    refine va_get (D := D) (ci := 10) (v := .ref (ta 0)) (C := RX11) (T := TX11) (N := 11) hx hb hts u_X11_passDay_X11 hown hK.1 hP 0 rfl rfl 2 (by decide) (hts (.fieldLink RX11 26 "NoticeWeek" "town" "LNoticeWeek$Town;") (List.mem_of_getElem? (i := 1) rfl)) (fun _ h9 => h9) rfl dX11_passDay_14 ?_
    refine lv_iload_n hx hb dX11_passDay_17 rfl (lv_at hl 0 rfl) ?_
    refine b_call (va_runV (As := [.int (nI (k))]) (rest := []) ⟨hx, hb, hml, hown, hts⟩ (c_X8_lives l D cI cZ cT ta st dy ln (nI n) kd ((pdF dy kd nt dd lf k).1) nt ((pdF dy kd nt dd lf k).2) k (by omega)) (cwV 1 hts gX11_passDay_X8_lives rfl rfl rfl (by decide +kernel) ⟨(Nat.le_of_ble_eq_true rfl), (Nat.le_of_ble_eq_true rfl)⟩) (b_pV hK hP [1, 2, 3, 4, 5] rfl 1 rfl rfl) rfl rfl hl.1 rfl (lv_room (Nat.le_of_ble_eq_true rfl)) dX11_passDay_18 ⟨Nat.zero_le _, Nat.zero_le _⟩).run ?_
    refine b_ifeq (tgt := 61) hx hb dX11_passDay_21 (by decide) (fun c3 => ?_) (fun c3 => ?_)
    · refine lv_iinc (v := (nI (k + 1))) (lv' := [(1, .int (nI (k + 1))), (0, .ref nx)]) hx hb dX11_passDay_61 hl (k := 0) rfl (nI_add _ _) (by decide) rfl (fun ls hl => ?_)
      refine lv_goto (tgt := 2) hx hb dX11_passDay_64 (by decide) ?_
      have st4 : (pdF dy kd nt dd lf k).1 = (pdF dy kd nt dd lf (k + 1)).1 := (by show _ = (pdS dy kd nt k (pdF dy kd nt dd lf k)).1; unfold pdS; rw [if_neg c3])
      rw [st4] at hP
      have st5 : (pdF dy kd nt dd lf k).2 = (pdF dy kd nt dd lf (k + 1)).2 := (by show _ = (pdS dy kd nt k (pdF dy kd nt dd lf k)).2; unfold pdS; rw [if_neg c3])
      rw [st5] at hP
      exact ih1 (by omega) ls H locs ⟨lv_sub hl [0, 1] rfl, hP, hS⟩
    · refine lv_aload_n hx hb dX11_passDay_24 rfl (lv_at hl 1 rfl) ?_
      refine va_get (D := D) (ci := 10) (v := .ref (ta 0)) (C := RX11) (T := TX11) (N := 11) hx hb hts u_X11_passDay_X11 hown hK.1 hP 0 rfl rfl 2 (by decide) (hts (.fieldLink RX11 26 "NoticeWeek" "town" "LNoticeWeek$Town;") (List.mem_of_getElem? (i := 1) rfl)) (fun _ h9 => h9) rfl dX11_passDay_25 ?_
      refine va_get (D := D) (ci := 7) (v := .ref (ta 2)) (C := RX8) (T := TX8) (N := 8) hx hb hts u_X11_passDay_X8 hown hK.1 hP 1 rfl rfl 5 (by decide) (hts (.fieldLink RX11 168 "NoticeWeek$Town" "did" "[I") (List.mem_of_getElem? (i := 3) rfl)) (fun _ h9 => h9) rfl dX11_passDay_28 ?_
      refine lv_iload_n hx hb dX11_passDay_31 rfl (lv_at hl 0 rfl) ?_
      refine lv_dup2_11 hx hb dX11_passDay_32 rfl rfl ?_
      refine b_ald hx hb hK hP 3 rfl (by omega) (by decide) dX11_passDay_33 ?_
      refine lv_aload_n hx hb dX11_passDay_34 rfl (lv_at hl 1 rfl) ?_
      refine va_get (D := D) (ci := 10) (v := .ref (fa 0)) (C := RX11) (T := TX11) (N := 11) hx hb hts u_X11_passDay_X11 hown hK.1 hP 0 rfl rfl 8 (by decide) (hts (.fieldLink RX11 50 "NoticeWeek" "foresight" "LNoticeWeek$Foresight;") (List.mem_of_getElem? (i := 4) rfl)) (fun _ h9 => h9) rfl dX11_passDay_35 ?_
      refine lv_aload_n hx hb dX11_passDay_38 rfl (lv_at hl 1 rfl) ?_
      refine va_get (D := D) (ci := 10) (v := .ref (ta 0)) (C := RX11) (T := TX11) (N := 11) hx hb hts u_X11_passDay_X11 hown hK.1 hP 0 rfl rfl 2 (by decide) (hts (.fieldLink RX11 26 "NoticeWeek" "town" "LNoticeWeek$Town;") (List.mem_of_getElem? (i := 1) rfl)) (fun _ h9 => h9) rfl dX11_passDay_39 ?_
      refine lv_iload_n hx hb dX11_passDay_42 rfl (lv_at hl 0 rfl) ?_
      refine b_call (va_runV (As := [.ref (ta 0), .int (nI (k))]) (rest := [.int (((pdF dy kd nt dd lf k).1) k), .int (nI (k)), .ref (ta 2)]) ⟨hx, hb, hml, hown, hts⟩ (c_X2_doesToday l D cI cZ cT ta st dy ln (nI n) kd ((pdF dy kd nt dd lf k).1) nt ((pdF dy kd nt dd lf k).2) fa co wy k (by omega) (hKd k (by omega))) (cwV 2 hts gX11_passDay_X2_doesToday rfl rfl rfl (by decide +kernel) ⟨(Nat.le_of_ble_eq_true rfl), (Nat.le_of_ble_eq_true rfl)⟩) (b_pV hK hP [1, 2, 3, 4, 5, 6, 7, 8, 9, 10, 11, 12, 13] rfl 6 rfl rfl) rfl rfl hl.1 rfl (lv_room (Nat.le_of_ble_eq_true rfl)) dX11_passDay_43 ⟨Nat.zero_le _, Nat.zero_le _⟩).run ?_
      refine lv_ior hx hb dX11_passDay_46 ?_
      refine b_ast hx hb hK hP hD hS 3 rfl (by omega) (by decide) dX11_passDay_47 (fun H locs hP hS => ?_)
      have hP : va_P D vwCl (wNW nx ra pa ta da ia xa fa za un na fi ++ wTown cI ta st dy ln (nI n) kd (upd ((pdF dy kd nt dd lf k).1) k ((((pdF dy kd nt dd lf k).1) k) ||| (if ¬ ((pdF dy kd nt dd lf k).2) k ≤ 0 then tDo (kd k) dy (((pdF dy kd nt dd lf k).1) k) (nt k) else 0))) nt ((pdF dy kd nt dd lf k).2) ++ wFore cI fa co wy) H := hP
      have hD : va_D A (wNW nx ra pa ta da ia xa fa za un na fi ++ wTown cI ta st dy ln (nI n) kd (upd ((pdF dy kd nt dd lf k).1) k ((((pdF dy kd nt dd lf k).1) k) ||| (if ¬ ((pdF dy kd nt dd lf k).2) k ≤ 0 then tDo (kd k) dy (((pdF dy kd nt dd lf k).1) k) (nt k) else 0))) nt ((pdF dy kd nt dd lf k).2) ++ wFore cI fa co wy) := hD.sameA [nx, (ta 0), (ta 1), (ta 2), (ta 3), (ta 4), (fa 0), (fa 1), (fa 2), (fa 3), (fa 4), (fa 5), (fa 6), (fa 7)] rfl rfl
      refine lv_aload_n hx hb dX11_passDay_48 rfl (lv_at hl 1 rfl) ?_
      refine va_get (D := D) (ci := 10) (v := .ref (ta 0)) (C := RX11) (T := TX11) (N := 11) hx hb hts u_X11_passDay_X11 hown hK.1 hP 0 rfl rfl 2 (by decide) (hts (.fieldLink RX11 26 "NoticeWeek" "town" "LNoticeWeek$Town;") (List.mem_of_getElem? (i := 1) rfl)) (fun _ h9 => h9) rfl dX11_passDay_49 ?_
      refine va_get (D := D) (ci := 7) (v := .ref (ta 4)) (C := RX8) (T := TX8) (N := 8) hx hb hts u_X11_passDay_X8 hown hK.1 hP 1 rfl rfl 7 (by decide) (hts (.fieldLink RX11 171 "NoticeWeek$Town" "left" "[I") (List.mem_of_getElem? (i := 5) rfl)) (fun _ h9 => h9) rfl dX11_passDay_52 ?_
      refine lv_iload_n hx hb dX11_passDay_55 rfl (lv_at hl 0 rfl) ?_
      refine lv_dup2_11 hx hb dX11_passDay_56 rfl rfl ?_
      refine b_ald hx hb hK hP 5 rfl (by omega) (by decide) dX11_passDay_57 ?_
      refine lv_iconst (v := 1) hx hb dX11_passDay_58 (by decide) ?_
      refine lv_isub hx hb dX11_passDay_59 ?_
      refine b_ast hx hb hK hP hD hS 5 rfl (by omega) (by decide) dX11_passDay_60 (fun H locs hP hS => ?_)
      have hP : va_P D vwCl (wNW nx ra pa ta da ia xa fa za un na fi ++ wTown cI ta st dy ln (nI n) kd (upd ((pdF dy kd nt dd lf k).1) k ((((pdF dy kd nt dd lf k).1) k) ||| (if ¬ ((pdF dy kd nt dd lf k).2) k ≤ 0 then tDo (kd k) dy (((pdF dy kd nt dd lf k).1) k) (nt k) else 0))) nt (upd ((pdF dy kd nt dd lf k).2) k ((((pdF dy kd nt dd lf k).2) k) - 1)) ++ wFore cI fa co wy) H := hP
      have hD : va_D A (wNW nx ra pa ta da ia xa fa za un na fi ++ wTown cI ta st dy ln (nI n) kd (upd ((pdF dy kd nt dd lf k).1) k ((((pdF dy kd nt dd lf k).1) k) ||| (if ¬ ((pdF dy kd nt dd lf k).2) k ≤ 0 then tDo (kd k) dy (((pdF dy kd nt dd lf k).1) k) (nt k) else 0))) nt (upd ((pdF dy kd nt dd lf k).2) k ((((pdF dy kd nt dd lf k).2) k) - 1)) ++ wFore cI fa co wy) := hD.sameA [nx, (ta 0), (ta 1), (ta 2), (ta 3), (ta 4), (fa 0), (fa 1), (fa 2), (fa 3), (fa 4), (fa 5), (fa 6), (fa 7)] rfl rfl
      refine lv_iinc (v := (nI (k + 1))) (lv' := [(1, .int (nI (k + 1))), (0, .ref nx)]) hx hb dX11_passDay_61 hl (k := 0) rfl (nI_add _ _) (by decide) rfl (fun ls hl => ?_)
      refine lv_goto (tgt := 2) hx hb dX11_passDay_64 (by decide) ?_
      have st6 : (upd ((pdF dy kd nt dd lf k).1) k ((((pdF dy kd nt dd lf k).1) k) ||| (if ¬ ((pdF dy kd nt dd lf k).2) k ≤ 0 then tDo (kd k) dy (((pdF dy kd nt dd lf k).1) k) (nt k) else 0))) = (pdF dy kd nt dd lf (k + 1)).1 := (by rw [if_pos c3]; show _ = (pdS dy kd nt k (pdF dy kd nt dd lf k)).1; unfold pdS; rw [if_pos c3])
      rw [st6] at hP
      have st7 : (upd ((pdF dy kd nt dd lf k).2) k ((((pdF dy kd nt dd lf k).2) k) - 1)) = (pdF dy kd nt dd lf (k + 1)).2 := (by show _ = (pdS dy kd nt k (pdF dy kd nt dd lf k)).2; unfold pdS; rw [if_pos c3])
      rw [st7] at hP
      exact ih1 (by omega) ls H locs ⟨lv_sub hl [0, 1] rfl, hP, hS⟩
theorem u_X11_days_X11 : ∀ w ∈ wsX110, w ∈ wsX11_days := fun _ h => List.mem_cons_of_mem _ (List.mem_append_left _ (List.mem_append_left _ (List.mem_append_right _ h)))
theorem u_X11_days_X8 : ∀ w ∈ wsX80, w ∈ wsX11_days := fun _ h => List.mem_cons_of_mem _ (List.mem_append_left _ (List.mem_append_right _ h))
set_option maxHeartbeats 4000000 in
set_option maxRecDepth 100000 in
theorem c_X11_days (l : Launch) (D : va_G) (cI cZ cT : ClassId) (nx : Nat) (ra pa ta da : Nat → Nat) (ia xa : Nat) (fa za : Nat → Nat) (ku kw : Nat) (fi st dy ln : Int32) (n : Nat) (kd dd nt lf co wy : Nat → Int32) (ga : Nat → Nat → Nat) (gs : Nat → TS) (x : Int32) (hn : n ≤ 6) (hKd : ∀ j, j < n → isK (kd j)) (hu : ku ≤ 24) (hw : kw ≤ 23) (hst : st = 0 ∨ st = 1) : Met l yX11_days wsX11_days ({ frames := 5, cells := 0, slots := 0, locals := 111 }) (pM D cI cZ cT [.ref nx, .int x] (wNW nx ra pa ta da ia xa fa za (nI ku) (nI kw) fi ++ wTown cI ta st dy ln (nI n) kd dd nt lf ++ wFore cI fa co wy ++ wAr cT 24 xa ga ++ wTs cI 24 ga gs)) (qM D (some (.int ((x_days st dy ln n kd dd nt lf ku kw gs x).1))) (wNW nx ra pa ta da ia xa fa za (nI (x_days st dy ln n kd dd nt lf ku kw gs x).2.1) (nI (x_days st dy ln n kd dd nt lf ku kw gs x).2.2.1) fi ++ wTown cI ta st ((x_days st dy ln n kd dd nt lf ku kw gs x).2.2.2.2.1) ln (nI n) kd ((x_days st dy ln n kd dd nt lf ku kw gs x).2.2.2.2.2.1) nt ((x_days st dy ln n kd dd nt lf ku kw gs x).2.2.2.2.2.2) ++ wFore cI fa co wy ++ wAr cT 24 xa ga ++ wTs cI 24 ga ((x_days st dy ln n kd dd nt lf ku kw gs x).2.2.2.1)) (adr (wNW nx ra pa ta da ia xa fa za (nI ku) (nI kw) fi ++ wTown cI ta st dy ln (nI n) kd dd nt lf ++ wFore cI fa co wy ++ wAr cT 24 xa ga ++ wTs cI 24 ga gs))) 0 0 (adr (wNW nx ra pa ta da ia xa fa za (nI ku) (nI kw) fi ++ wTown cI ta st dy ln (nI n) kd dd nt lf ++ wFore cI fa co wy ++ wAr cT 24 xa ga ++ wTs cI 24 ga gs)) := by
  refine Met.ofW (cc := cX11_days) (maxL := 3) (ret := (some .int)) (by decide) rfl ?_
  intro p e s m args below meth c s₁ B hml hv
  obtain ⟨rfl, hP, hD0, hK⟩ := hv
  have hx := B.exec
  have hb := B.bytes
  have hr := B.returns
  have hts := atoms_spec (ws := wsX11_days) B.pre
  have hown : s.vm.findClass RX11 = some m.cls := findClass_of_methodNamed B.named
  have hlocks := B.notSynchronized
  have hD := hD0.toAdr
  have hS : va_S (adr (wNW nx ra pa ta da ia xa fa za (nI ku) (nI kw) fi ++ wTown cI ta st dy ln (nI n) kd dd nt lf ++ wFore cI fa co wy ++ wAr cT 24 xa ga ++ wTs cI 24 ga gs)) s.heap s.heap [] := va_S.rf
  generalize adr (wNW nx ra pa ta da ia xa fa za (nI ku) (nI kw) fi ++ wTown cI ta st dy ln (nI n) kd dd nt lf ++ wFore cI fa co wy ++ wAr cT 24 xa ga ++ wTs cI 24 ga gs) = A at hD hS ⊢
  have hl := lv_entry ([.ref nx, .int x]) (n := 3) (Nat.le_of_ble_eq_true rfl)
  rw [lg_entry_eq]
  generalize (lg_sl ([.ref nx, .int x]) ++ List.replicate (3 - (lg_sl ([.ref nx, .int x])).length) Slot.unset).toArray = ls at hl ⊢
  have hl : lv_has ls 3 [(0, .ref nx), (1, .int x)] := hl
  refine lv_aload_n hx hb dX11_days_0 rfl (lv_at hl 0 rfl) ?_
  refine va_get (D := D) (ci := 10) (v := .ref (ta 0)) (C := RX11) (T := TX11) (N := 11) hx hb hts u_X11_days_X11 hown hK.1 hP 0 rfl rfl 2 (by decide) (hts (.fieldLink RX11 26 "NoticeWeek" "town" "LNoticeWeek$Town;") (List.mem_of_getElem? (i := 1) rfl)) (fun _ h9 => h9) rfl dX11_days_1 ?_
  refine va_get (D := D) (ci := 7) (v := .int st) (C := RX8) (T := TX8) (N := 8) hx hb hts u_X11_days_X8 hown hK.1 hP 1 rfl rfl 0 (by decide) (hts (.fieldLink RX11 137 "NoticeWeek$Town" "stands" "Z") (List.mem_of_getElem? (i := 2) rfl)) (fun _ h9 => h9) rfl dX11_days_4 ?_
  refine lv_if_ne (tgt := 13) hx hb dX11_days_7 (by decide) (fun c1 => ?_) (fun c1 => ?_)
  · refine lv_iload_n hx hb dX11_days_13 rfl (lv_at hl 1 rfl) ?_
    refine lv_iconst (v := 1) hx hb dX11_days_14 (by decide) ?_
    refine lv_icmp_lt (tgt := 24) hx hb dX11_days_15 (by decide) (fun c2 => ?_) (fun c2 => ?_)
    · refine lv_ldc (v := (-1000001)) hx hb hown (hts (.constant RX11 71 (-1000001)) (List.mem_of_getElem? (i := 4) rfl)) dX11_days_24 ?_
      have E : x_days st dy ln n kd dd nt lf ku kw gs x = ((-1000001), ku, kw, gs, dy, dd, lf) := (by first | (simp only [x_days, eq_false c1, eq_true c2, bI, not_true_eq_false, not_false_eq_true, ite_true, ite_false, if_true, if_false, and_self, and_true, true_and, false_and, and_false, or_true, true_or, or_false, false_or, eq_self]; done) | (simp [x_days, eq_false c1, eq_true c2, bI]; done))
      rw [E]
      exact b_retM hx hb hr hP hS rfl dX11_days_26 hlocks
    · refine lv_iload_n hx hb dX11_days_18 rfl (lv_at hl 1 rfl) ?_
      refine lv_bipush (v := 20) hx hb dX11_days_19 (by decide) ?_
      refine lv_icmp_le (tgt := 27) hx hb dX11_days_21 (by decide) (fun c3 => ?_) (fun c3 => ?_)
      · refine lv_aload_n hx hb dX11_days_27 rfl (lv_at hl 0 rfl) ?_
        refine va_get (D := D) (ci := 10) (v := .ref (ta 0)) (C := RX11) (T := TX11) (N := 11) hx hb hts u_X11_days_X11 hown hK.1 hP 0 rfl rfl 2 (by decide) (hts (.fieldLink RX11 26 "NoticeWeek" "town" "LNoticeWeek$Town;") (List.mem_of_getElem? (i := 1) rfl)) (fun _ h9 => h9) rfl dX11_days_28 ?_
        refine va_get (D := D) (ci := 7) (v := .int dy) (C := RX8) (T := TX8) (N := 8) hx hb hts u_X11_days_X8 hown hK.1 hP 1 rfl rfl 1 (by decide) (hts (.fieldLink RX11 142 "NoticeWeek$Town" "day" "I") (List.mem_of_getElem? (i := 5) rfl)) (fun _ h9 => h9) rfl dX11_days_31 ?_
        refine lv_iload_n hx hb dX11_days_34 rfl (lv_at hl 1 rfl) ?_
        refine lv_iadd hx hb dX11_days_35 ?_
        refine lv_sipush (v := 999) hx hb dX11_days_36 (by decide) ?_
        refine lv_icmp_le (tgt := 45) hx hb dX11_days_39 (by decide) (fun c4 => ?_) (fun c4 => ?_)
        · obtain ⟨xv, hh_xv, rfl⟩ : ∃ r : Nat, r ≤ 20 ∧ x = nI r := nI_of2 (n := 20) rfl (i_ge1 c2) c3
          have hl : lv_has ls 3 [(0, .ref nx), (1, .int (nI (xv)))] := hl
          have htx : tn (nI xv) = xv := tn_nI hh_xv
          refine lv_iconst (v := (nI 0)) hx hb dX11_days_45 (by decide) ?_
          refine lv_istore_n (lv' := [(2, .int (nI 0)), (0, .ref nx), (1, .int (nI (xv)))]) hx hb dX11_days_46 rfl hl (by decide) rfl (fun ls hl => ?_)
          refine b_loopM (N := xv) (I := fun k ls H locs => lv_has ls 3 [(2, .int (nI (k))), (0, .ref nx), (1, .int (nI (xv)))] ∧ va_P D vwCl (wNW nx ra pa ta da ia xa fa za (nI (dsL st ln n kd nt (ku, kw, gs, dy, dd, lf) k).1) (nI (dsL st ln n kd nt (ku, kw, gs, dy, dd, lf) k).2.1) fi ++ wTown cI ta st ((dsL st ln n kd nt (ku, kw, gs, dy, dd, lf) k).2.2.2.1) ln (nI n) kd ((dsL st ln n kd nt (ku, kw, gs, dy, dd, lf) k).2.2.2.2.1) nt ((dsL st ln n kd nt (ku, kw, gs, dy, dd, lf) k).2.2.2.2.2) ++ wFore cI fa co wy ++ wAr cT 24 xa ga ++ wTs cI 24 ga ((dsL st ln n kd nt (ku, kw, gs, dy, dd, lf) k).2.2.1)) H ∧ va_S A s.heap H locs ∧ ((dsL st ln n kd nt (ku, kw, gs, dy, dd, lf) k).1 ≤ 24 ∧ (dsL st ln n kd nt (ku, kw, gs, dy, dd, lf) k).2.1 ≤ 23)) (fun k hk ih5 ls H locs hI => ?_) 0 (by omega) ⟨lv_sub hl [0, 1, 2] rfl, hP, hS, ⟨hu, hw⟩⟩
          obtain ⟨hl, hP, hS, hU⟩ := hI
          have hl : lv_has ls 3 [(2, .int (nI (k))), (0, .ref nx), (1, .int (nI (xv)))] := hl
          have hP : va_P D vwCl (wNW nx ra pa ta da ia xa fa za (nI (dsL st ln n kd nt (ku, kw, gs, dy, dd, lf) k).1) (nI (dsL st ln n kd nt (ku, kw, gs, dy, dd, lf) k).2.1) fi ++ wTown cI ta st ((dsL st ln n kd nt (ku, kw, gs, dy, dd, lf) k).2.2.2.1) ln (nI n) kd ((dsL st ln n kd nt (ku, kw, gs, dy, dd, lf) k).2.2.2.2.1) nt ((dsL st ln n kd nt (ku, kw, gs, dy, dd, lf) k).2.2.2.2.2) ++ wFore cI fa co wy ++ wAr cT 24 xa ga ++ wTs cI 24 ga ((dsL st ln n kd nt (ku, kw, gs, dy, dd, lf) k).2.2.1)) H := hP
          have hD : va_D A (wNW nx ra pa ta da ia xa fa za (nI (dsL st ln n kd nt (ku, kw, gs, dy, dd, lf) k).1) (nI (dsL st ln n kd nt (ku, kw, gs, dy, dd, lf) k).2.1) fi ++ wTown cI ta st ((dsL st ln n kd nt (ku, kw, gs, dy, dd, lf) k).2.2.2.1) ln (nI n) kd ((dsL st ln n kd nt (ku, kw, gs, dy, dd, lf) k).2.2.2.2.1) nt ((dsL st ln n kd nt (ku, kw, gs, dy, dd, lf) k).2.2.2.2.2) ++ wFore cI fa co wy ++ wAr cT 24 xa ga ++ wTs cI 24 ga ((dsL st ln n kd nt (ku, kw, gs, dy, dd, lf) k).2.2.1)) := hD.sameA ([nx, (ta 0), (ta 1), (ta 2), (ta 3), (ta 4), (fa 0), (fa 1), (fa 2), (fa 3), (fa 4), (fa 5), (fa 6), (fa 7), xa] ++ (wTs cI 24 ga gs).map Prod.fst) rfl rfl
          refine lv_iload_n hx hb dX11_days_47 rfl (lv_at hl 0 rfl) ?_
          refine lv_iload_n hx hb dX11_days_48 rfl (lv_at hl 2 rfl) ?_
          refine b_ge (tgt := 66) hx hb (by omega) (by omega) dX11_days_49 (by decide) (fun c6 => ?_) (fun c6 => ?_)
          · refine lv_aload_n hx hb dX11_days_66 rfl (lv_at hl 1 rfl) ?_
            refine va_get (D := D) (ci := 10) (v := .ref (ta 0)) (C := RX11) (T := TX11) (N := 11) hx hb hts u_X11_days_X11 hown hK.1 hP 0 rfl rfl 2 (by decide) (hts (.fieldLink RX11 26 "NoticeWeek" "town" "LNoticeWeek$Town;") (List.mem_of_getElem? (i := 1) rfl)) (fun _ h9 => h9) rfl dX11_days_67 ?_
            refine b_call (va_runV (As := []) (rest := []) ⟨hx, hb, hml, hown, hts⟩ (c_X8_living l D cI cZ cT ta st ((dsL st ln n kd nt (ku, kw, gs, dy, dd, lf) k).2.2.2.1) ln n kd ((dsL st ln n kd nt (ku, kw, gs, dy, dd, lf) k).2.2.2.2.1) nt ((dsL st ln n kd nt (ku, kw, gs, dy, dd, lf) k).2.2.2.2.2) hn) (cwV 0 hts gX11_days_X8_living rfl rfl rfl (by decide +kernel) ⟨(Nat.le_of_ble_eq_true rfl), (Nat.le_of_ble_eq_true rfl)⟩) (b_pV hK hP [1, 2, 3, 4, 5] rfl 1 rfl rfl) rfl rfl hl.1 rfl (lv_room (Nat.le_of_ble_eq_true rfl)) dX11_days_70 ⟨Nat.zero_le _, Nat.zero_le _⟩).run ?_
            have E : x_days st dy ln n kd dd nt lf ku kw gs (nI xv) = (lvT ((dsL st ln n kd nt (ku, kw, gs, dy, dd, lf) k).2.2.2.2.2) n, (dsL st ln n kd nt (ku, kw, gs, dy, dd, lf) k)) := (by have hk9 : k = xv := (by omega); subst hk9; simp only [x_days, eq_false c1, eq_false c2, eq_true c3, eq_true c4, htx, not_true_eq_false, not_false_eq_true, ite_true, ite_false, if_true, if_false, and_self, and_true, true_and, false_and, and_false, or_true, true_or, or_false, false_or])
            rw [E]
            exact b_retM hx hb hr hP hS rfl dX11_days_73 hlocks
          · obtain ⟨Sk, eSk⟩ : ∃ y, (dsL st ln n kd nt (ku, kw, gs, dy, dd, lf) k) = y := ⟨_, rfl⟩
            rw [eSk] at hP hU
            have hP : va_P D vwCl (wNW nx ra pa ta da ia xa fa za (nI Sk.1) (nI Sk.2.1) fi ++ wTown cI ta st Sk.2.2.2.1 ln (nI n) kd Sk.2.2.2.2.1 nt Sk.2.2.2.2.2 ++ wFore cI fa co wy ++ wAr cT 24 xa ga ++ wTs cI 24 ga Sk.2.2.1) H := hP
            have hD : va_D A (wNW nx ra pa ta da ia xa fa za (nI Sk.1) (nI Sk.2.1) fi ++ wTown cI ta st Sk.2.2.2.1 ln (nI n) kd Sk.2.2.2.2.1 nt Sk.2.2.2.2.2 ++ wFore cI fa co wy ++ wAr cT 24 xa ga ++ wTs cI 24 ga Sk.2.2.1) := hD.sameA ([nx, (ta 0), (ta 1), (ta 2), (ta 3), (ta 4), (fa 0), (fa 1), (fa 2), (fa 3), (fa 4), (fa 5), (fa 6), (fa 7), xa] ++ (wTs cI 24 ga Sk.2.2.1).map Prod.fst) rfl rfl
            refine lv_aload_n hx hb dX11_days_52 rfl (lv_at hl 1 rfl) ?_
            refine b_callMt [0, 1, 2, 3, 4, 5, 14] (va_runV (As := []) (rest := []) ⟨hx, hb, hml, hown, hts⟩ (c_X11_keepAct l D cI cZ cT nx ra pa ta da ia xa fa za Sk.1 Sk.2.1 fi st Sk.2.2.2.1 ln (nI n) kd Sk.2.2.2.2.1 nt Sk.2.2.2.2.2 ga Sk.2.2.1 hU.1 hU.2 hst) (cwV 0 hts gX11_days_X11_keepAct rfl rfl rfl (by decide +kernel) ⟨(Nat.le_of_ble_eq_true rfl), (Nat.le_of_ble_eq_true rfl)⟩) (b_pVMt hK hP hD [0, 1, 2, 3, 4, 5, 14] (by decide) rfl rfl 0 rfl rfl) rfl rfl hl.1 rfl (lv_room (Nat.le_of_ble_eq_true rfl)) dX11_days_53 ⟨Nat.zero_le _, Nat.zero_le _⟩).run hP hD hS rfl (Nat.le_of_ble_eq_true rfl) wTs_fst rfl (fun H locs hP hD hS => ?_)
            have hP : va_P D vwCl (wNW nx ra pa ta da ia xa fa za (nI (min 24 (Sk.1 + 1))) (nI ((Sk.2.1 + 1) % 24)) fi ++ wTown cI ta st Sk.2.2.2.1 ln (nI n) kd Sk.2.2.2.2.1 nt Sk.2.2.2.2.2 ++ wFore cI fa co wy ++ wAr cT 24 xa ga ++ wTs cI 24 ga (kpG Sk.2.2.1 Sk.2.1 (st, Sk.2.2.2.1, ln, (nI n), kd, Sk.2.2.2.2.1, nt, Sk.2.2.2.2.2))) H := hP
            have hD : va_D A (wNW nx ra pa ta da ia xa fa za (nI (min 24 (Sk.1 + 1))) (nI ((Sk.2.1 + 1) % 24)) fi ++ wTown cI ta st Sk.2.2.2.1 ln (nI n) kd Sk.2.2.2.2.1 nt Sk.2.2.2.2.2 ++ wFore cI fa co wy ++ wAr cT 24 xa ga ++ wTs cI 24 ga (kpG Sk.2.2.1 Sk.2.1 (st, Sk.2.2.2.1, ln, (nI n), kd, Sk.2.2.2.2.1, nt, Sk.2.2.2.2.2))) := hD
            refine lv_aload_n hx hb dX11_days_56 rfl (lv_at hl 1 rfl) ?_
            refine b_callM [0, 1, 2, 3, 4, 5, 6, 7, 8, 9, 10, 11, 12, 13] (va_runV (As := []) (rest := []) ⟨hx, hb, hml, hown, hts⟩ (c_X11_passDay l D cI cZ cT nx ra pa ta da ia xa fa za (nI (min 24 (Sk.1 + 1))) (nI ((Sk.2.1 + 1) % 24)) fi st Sk.2.2.2.1 ln n kd Sk.2.2.2.2.1 nt Sk.2.2.2.2.2 co wy hn hKd) (cwV 0 hts gX11_days_X11_passDay rfl rfl rfl (by decide +kernel) ⟨(Nat.le_of_ble_eq_true rfl), (Nat.le_of_ble_eq_true rfl)⟩) (b_pVM hK hP hD [0, 1, 2, 3, 4, 5, 6, 7, 8, 9, 10, 11, 12, 13] (by decide) rfl rfl 0 rfl rfl) rfl rfl hl.1 rfl (lv_room (Nat.le_of_ble_eq_true rfl)) dX11_days_57 ⟨Nat.zero_le _, Nat.zero_le _⟩).run hP hD hS rfl (Nat.le_of_ble_eq_true rfl) (fun H locs hP hS => ?_)
            have hP : va_P D vwCl (wNW nx ra pa ta da ia xa fa za (nI (min 24 (Sk.1 + 1))) (nI ((Sk.2.1 + 1) % 24)) fi ++ wTown cI ta st (Sk.2.2.2.1 + 1) ln (nI n) kd ((pdF Sk.2.2.2.1 kd nt Sk.2.2.2.2.1 Sk.2.2.2.2.2 n).1) nt ((pdF Sk.2.2.2.1 kd nt Sk.2.2.2.2.1 Sk.2.2.2.2.2 n).2) ++ wFore cI fa co wy ++ wAr cT 24 xa ga ++ wTs cI 24 ga (kpG Sk.2.2.1 Sk.2.1 (st, Sk.2.2.2.1, ln, (nI n), kd, Sk.2.2.2.2.1, nt, Sk.2.2.2.2.2))) H := hP
            have hD : va_D A (wNW nx ra pa ta da ia xa fa za (nI (min 24 (Sk.1 + 1))) (nI ((Sk.2.1 + 1) % 24)) fi ++ wTown cI ta st (Sk.2.2.2.1 + 1) ln (nI n) kd ((pdF Sk.2.2.2.1 kd nt Sk.2.2.2.2.1 Sk.2.2.2.2.2 n).1) nt ((pdF Sk.2.2.2.1 kd nt Sk.2.2.2.2.1 Sk.2.2.2.2.2 n).2) ++ wFore cI fa co wy ++ wAr cT 24 xa ga ++ wTs cI 24 ga (kpG Sk.2.2.1 Sk.2.1 (st, Sk.2.2.2.1, ln, (nI n), kd, Sk.2.2.2.2.1, nt, Sk.2.2.2.2.2))) := hD.sameA ([nx, (ta 0), (ta 1), (ta 2), (ta 3), (ta 4), (fa 0), (fa 1), (fa 2), (fa 3), (fa 4), (fa 5), (fa 6), (fa 7), xa] ++ (wTs cI 24 ga (kpG Sk.2.2.1 Sk.2.1 (st, Sk.2.2.2.1, ln, (nI n), kd, Sk.2.2.2.2.1, nt, Sk.2.2.2.2.2))).map Prod.fst) rfl rfl
            have eS1 : (dsL st ln n kd nt (ku, kw, gs, dy, dd, lf) (k + 1)) = (min 24 (Sk.1 + 1), (Sk.2.1 + 1) % 24, (kpG Sk.2.2.1 Sk.2.1 (st, Sk.2.2.2.1, ln, (nI n), kd, Sk.2.2.2.2.1, nt, Sk.2.2.2.2.2)), (Sk.2.2.2.1 + 1), ((pdF Sk.2.2.2.1 kd nt Sk.2.2.2.2.1 Sk.2.2.2.2.2 n).1), ((pdF Sk.2.2.2.1 kd nt Sk.2.2.2.2.1 Sk.2.2.2.2.2 n).2)) := by rw [dsL_s, eSk]; rfl
            have hU1 : (dsL st ln n kd nt (ku, kw, gs, dy, dd, lf) (k + 1)).1 ≤ 24 ∧ (dsL st ln n kd nt (ku, kw, gs, dy, dd, lf) (k + 1)).2.1 ≤ 23 := by rw [dsL_s]; exact dsS_le
            have hP : va_P D vwCl (wNW nx ra pa ta da ia xa fa za (nI (dsL st ln n kd nt (ku, kw, gs, dy, dd, lf) (k + 1)).1) (nI (dsL st ln n kd nt (ku, kw, gs, dy, dd, lf) (k + 1)).2.1) fi ++ wTown cI ta st ((dsL st ln n kd nt (ku, kw, gs, dy, dd, lf) (k + 1)).2.2.2.1) ln (nI n) kd ((dsL st ln n kd nt (ku, kw, gs, dy, dd, lf) (k + 1)).2.2.2.2.1) nt ((dsL st ln n kd nt (ku, kw, gs, dy, dd, lf) (k + 1)).2.2.2.2.2) ++ wFore cI fa co wy ++ wAr cT 24 xa ga ++ wTs cI 24 ga ((dsL st ln n kd nt (ku, kw, gs, dy, dd, lf) (k + 1)).2.2.1)) H := by rw [eS1]; exact hP
            refine lv_iinc (v := (nI (k + 1))) (lv' := [(2, .int (nI (k + 1))), (0, .ref nx), (1, .int (nI (xv)))]) hx hb dX11_days_60 hl (k := 0) rfl (nI_add _ _) (by decide) rfl (fun ls hl => ?_)
            refine lv_goto (tgt := 47) hx hb dX11_days_63 (by decide) ?_
            exact ih5 (by omega) ls H locs ⟨lv_sub hl [0, 1, 2] rfl, hP, hS, hU1⟩
        · refine lv_ldc (v := (-1000003)) hx hb hown (hts (.constant RX11 115 (-1000003)) (List.mem_of_getElem? (i := 6) rfl)) dX11_days_42 ?_
          have E : x_days st dy ln n kd dd nt lf ku kw gs x = ((-1000003), ku, kw, gs, dy, dd, lf) := (by first | (simp only [x_days, eq_false c1, eq_false c2, eq_true c3, eq_false c4, bI, not_true_eq_false, not_false_eq_true, ite_true, ite_false, if_true, if_false, and_self, and_true, true_and, false_and, and_false, or_true, true_or, or_false, false_or, eq_self]; done) | (simp [x_days, eq_false c1, eq_false c2, eq_true c3, eq_false c4, bI]; done))
          rw [E]
          exact b_retM hx hb hr hP hS rfl dX11_days_44 hlocks
      · refine lv_ldc (v := (-1000001)) hx hb hown (hts (.constant RX11 71 (-1000001)) (List.mem_of_getElem? (i := 4) rfl)) dX11_days_24 ?_
        have E : x_days st dy ln n kd dd nt lf ku kw gs x = ((-1000001), ku, kw, gs, dy, dd, lf) := (by first | (simp only [x_days, eq_false c1, eq_false c2, eq_false c3, bI, not_true_eq_false, not_false_eq_true, ite_true, ite_false, if_true, if_false, and_self, and_true, true_and, false_and, and_false, or_true, true_or, or_false, false_or, eq_self]; done) | (simp [x_days, eq_false c1, eq_false c2, eq_false c3, bI]; done))
        rw [E]
        exact b_retM hx hb hr hP hS rfl dX11_days_26 hlocks
  · refine lv_ldc (v := (-1000002)) hx hb hown (hts (.constant RX11 141 (-1000002)) (List.mem_of_getElem? (i := 3) rfl)) dX11_days_10 ?_
    have E : x_days st dy ln n kd dd nt lf ku kw gs x = ((-1000002), ku, kw, gs, dy, dd, lf) := (by first | (simp only [x_days, eq_true c1, bI, not_true_eq_false, not_false_eq_true, ite_true, ite_false, if_true, if_false, and_self, and_true, true_and, false_and, and_false, or_true, true_or, or_false, false_or, eq_self]; done) | (simp [x_days, eq_true c1, bI]; done))
    rw [E]
    exact b_retM hx hb hr hP hS rfl dX11_days_12 hlocks
theorem u_X11_write_X11 : ∀ w ∈ wsX110, w ∈ wsX11_write := fun _ h => List.mem_cons_of_mem _ (List.mem_append_left _ (List.mem_append_right _ h))
theorem u_X11_write_X8 : ∀ w ∈ wsX80, w ∈ wsX11_write := fun _ h => List.mem_cons_of_mem _ (List.mem_append_right _ h)
set_option maxHeartbeats 4000000 in
set_option maxRecDepth 100000 in
theorem c_X11_write (l : Launch) (D : va_G) (cI cZ cT : ClassId) (nx : Nat) (ra pa ta da : Nat → Nat) (ia xa : Nat) (fa za : Nat → Nat) (ku kw : Nat) (fi st dy ln : Int32) (n : Nat) (kd dd nt lf : Nat → Int32) (ga : Nat → Nat → Nat) (gs : Nat → TS) (reader notice : Int32) (hn : n ≤ 6) (hu : ku ≤ 24) (hw : kw ≤ 23) (hst : st = 0 ∨ st = 1) : Met l yX11_write wsX11_write ({ frames := 2, cells := 0, slots := 0, locals := 42 }) (pM D cI cZ cT [.ref nx, .int reader, .int notice] (wNW nx ra pa ta da ia xa fa za (nI ku) (nI kw) fi ++ wTown cI ta st dy ln (nI n) kd dd nt lf ++ wAr cT 24 xa ga ++ wTs cI 24 ga gs)) (qM D (some (.int ((x_write st dy ln n kd dd nt lf ku kw gs reader notice).1))) (wNW nx ra pa ta da ia xa fa za (nI (x_write st dy ln n kd dd nt lf ku kw gs reader notice).2.1) (nI (x_write st dy ln n kd dd nt lf ku kw gs reader notice).2.2.1) fi ++ wTown cI ta st dy ln (nI n) kd dd ((x_write st dy ln n kd dd nt lf ku kw gs reader notice).2.2.2.2) lf ++ wAr cT 24 xa ga ++ wTs cI 24 ga ((x_write st dy ln n kd dd nt lf ku kw gs reader notice).2.2.2.1)) (adr (wNW nx ra pa ta da ia xa fa za (nI ku) (nI kw) fi ++ wTown cI ta st dy ln (nI n) kd dd nt lf ++ wAr cT 24 xa ga ++ wTs cI 24 ga gs))) 0 0 (adr (wNW nx ra pa ta da ia xa fa za (nI ku) (nI kw) fi ++ wTown cI ta st dy ln (nI n) kd dd nt lf ++ wAr cT 24 xa ga ++ wTs cI 24 ga gs)) := by
  refine Met.ofW (cc := cX11_write) (maxL := 4) (ret := (some .int)) (by decide) rfl ?_
  intro p e s m args below meth c s₁ B hml hv
  obtain ⟨rfl, hP, hD0, hK⟩ := hv
  have hx := B.exec
  have hb := B.bytes
  have hr := B.returns
  have hts := atoms_spec (ws := wsX11_write) B.pre
  have hown : s.vm.findClass RX11 = some m.cls := findClass_of_methodNamed B.named
  have hlocks := B.notSynchronized
  have hD := hD0.toAdr
  have hS : va_S (adr (wNW nx ra pa ta da ia xa fa za (nI ku) (nI kw) fi ++ wTown cI ta st dy ln (nI n) kd dd nt lf ++ wAr cT 24 xa ga ++ wTs cI 24 ga gs)) s.heap s.heap [] := va_S.rf
  generalize adr (wNW nx ra pa ta da ia xa fa za (nI ku) (nI kw) fi ++ wTown cI ta st dy ln (nI n) kd dd nt lf ++ wAr cT 24 xa ga ++ wTs cI 24 ga gs) = A at hD hS ⊢
  have hl := lv_entry ([.ref nx, .int reader, .int notice]) (n := 4) (Nat.le_of_ble_eq_true rfl)
  rw [lg_entry_eq]
  generalize (lg_sl ([.ref nx, .int reader, .int notice]) ++ List.replicate (4 - (lg_sl ([.ref nx, .int reader, .int notice])).length) Slot.unset).toArray = ls at hl ⊢
  have hl : lv_has ls 4 [(0, .ref nx), (1, .int reader), (2, .int notice)] := hl
  refine lv_aload_n hx hb dX11_write_0 rfl (lv_at hl 0 rfl) ?_
  refine va_get (D := D) (ci := 10) (v := .ref (ta 0)) (C := RX11) (T := TX11) (N := 11) hx hb hts u_X11_write_X11 hown hK.1 hP 0 rfl rfl 2 (by decide) (hts (.fieldLink RX11 26 "NoticeWeek" "town" "LNoticeWeek$Town;") (List.mem_of_getElem? (i := 1) rfl)) (fun _ h9 => h9) rfl dX11_write_1 ?_
  refine lv_iload_n hx hb dX11_write_4 rfl (lv_at hl 1 rfl) ?_
  refine b_call (va_runV (As := [.int reader]) (rest := []) ⟨hx, hb, hml, hown, hts⟩ (c_X8_has l D cI cZ cT ta st dy ln (nI n) kd dd nt lf reader) (cwV 1 hts gX11_write_X8_has rfl rfl rfl (by decide +kernel) ⟨(Nat.le_of_ble_eq_true rfl), (Nat.le_of_ble_eq_true rfl)⟩) (b_pV hK hP [1, 2, 3, 4, 5] rfl 1 rfl rfl) rfl rfl hl.1 rfl (lv_room (Nat.le_of_ble_eq_true rfl)) dX11_write_5 ⟨Nat.zero_le _, Nat.zero_le _⟩).run ?_
  refine b_ifeq (tgt := 18) hx hb dX11_write_8 (by decide) (fun c1 => ?_) (fun c1 => ?_)
  · refine lv_ldc (v := (-1000001)) hx hb hown (hts (.constant RX11 71 (-1000001)) (List.mem_of_getElem? (i := 2) rfl)) dX11_write_18 ?_
    have E : x_write st dy ln n kd dd nt lf ku kw gs reader notice = ((-1000001), ku, kw, gs, nt) := (by first | (simp only [x_write, eq_false c1, bI, not_true_eq_false, not_false_eq_true, ite_true, ite_false, if_true, if_false, and_self, and_true, true_and, false_and, and_false, or_true, true_or, or_false, false_or, eq_self]; done) | (simp [x_write, eq_false c1, bI]; done))
    rw [E]
    exact b_retM hx hb hr hP hS rfl dX11_write_20 hlocks
  · refine lv_iload_n hx hb dX11_write_11 rfl (lv_at hl 2 rfl) ?_
    refine b_call (va_runS (As := [.int notice]) (rest := []) ⟨hx, hb, hml, hown, hts⟩ (c_X11_isSetOfDeeds l D cI cZ cT notice) (va_cwS 1 hts gX11_write_X11_isSetOfDeeds rfl rfl rfl (by decide +kernel) ⟨(Nat.le_of_ble_eq_true rfl), (Nat.le_of_ble_eq_true rfl)⟩) (b_pS0 hK) rfl rfl hl.1 rfl (lv_room (Nat.le_of_ble_eq_true rfl)) dX11_write_12 ⟨Nat.zero_le _, Nat.zero_le _⟩).run ?_
    refine b_ifne (tgt := 21) hx hb dX11_write_15 (by decide) (fun c2 => ?_) (fun c2 => ?_)
    · obtain ⟨r, hh_r, rfl⟩ : ∃ r : Nat, r ≤ 5 ∧ reader = nI r := has_r hn c1
      have hl : lv_has ls 4 [(0, .ref nx), (1, .int (nI (r))), (2, .int notice)] := hl
      have htr : tn (nI r) = r := tn_nI hh_r
      have hrn : r < n := rd_lt hn hh_r c1
      refine lv_aload_n hx hb dX11_write_21 rfl (lv_at hl 0 rfl) ?_
      refine va_get (D := D) (ci := 10) (v := .ref (ta 0)) (C := RX11) (T := TX11) (N := 11) hx hb hts u_X11_write_X11 hown hK.1 hP 0 rfl rfl 2 (by decide) (hts (.fieldLink RX11 26 "NoticeWeek" "town" "LNoticeWeek$Town;") (List.mem_of_getElem? (i := 1) rfl)) (fun _ h9 => h9) rfl dX11_write_22 ?_
      refine lv_iload_n hx hb dX11_write_25 rfl (lv_at hl 1 rfl) ?_
      refine b_call (va_runV (As := [.int (nI (r))]) (rest := []) ⟨hx, hb, hml, hown, hts⟩ (c_X8_lives l D cI cZ cT ta st dy ln (nI n) kd dd nt lf r (by omega)) (cwV 1 hts gX11_write_X8_lives rfl rfl rfl (by decide +kernel) ⟨(Nat.le_of_ble_eq_true rfl), (Nat.le_of_ble_eq_true rfl)⟩) (b_pV hK hP [1, 2, 3, 4, 5] rfl 1 rfl rfl) rfl rfl hl.1 rfl (lv_room (Nat.le_of_ble_eq_true rfl)) dX11_write_26 ⟨Nat.zero_le _, Nat.zero_le _⟩).run ?_
      refine b_ifne (tgt := 35) hx hb dX11_write_29 (by decide) (fun c3 => ?_) (fun c3 => ?_)
      · refine lv_aload_n hx hb dX11_write_35 rfl (lv_at hl 0 rfl) ?_
        refine b_callMt [0, 1, 2, 3, 4, 5, 6] (va_runV (As := []) (rest := []) ⟨hx, hb, hml, hown, hts⟩ (c_X11_keepAct l D cI cZ cT nx ra pa ta da ia xa fa za ku kw fi st dy ln (nI n) kd dd nt lf ga gs hu hw hst) (cwV 0 hts gX11_write_X11_keepAct rfl rfl rfl (by decide +kernel) ⟨(Nat.le_of_ble_eq_true rfl), (Nat.le_of_ble_eq_true rfl)⟩) (b_pVMt hK hP hD [0, 1, 2, 3, 4, 5, 6] (by decide) rfl rfl 0 rfl rfl) rfl rfl hl.1 rfl (lv_room (Nat.le_of_ble_eq_true rfl)) dX11_write_36 ⟨Nat.zero_le _, Nat.zero_le _⟩).run hP hD hS rfl (Nat.le_of_ble_eq_true rfl) wTs_fst rfl (fun H locs hP hD hS => ?_)
        have hP : va_P D vwCl (wNW nx ra pa ta da ia xa fa za (nI (min 24 (ku + 1))) (nI ((kw + 1) % 24)) fi ++ wTown cI ta st dy ln (nI n) kd dd nt lf ++ wAr cT 24 xa ga ++ wTs cI 24 ga (kpG gs kw (st, dy, ln, (nI n), kd, dd, nt, lf))) H := hP
        have hD : va_D A (wNW nx ra pa ta da ia xa fa za (nI (min 24 (ku + 1))) (nI ((kw + 1) % 24)) fi ++ wTown cI ta st dy ln (nI n) kd dd nt lf ++ wAr cT 24 xa ga ++ wTs cI 24 ga (kpG gs kw (st, dy, ln, (nI n), kd, dd, nt, lf))) := hD
        refine lv_aload_n hx hb dX11_write_39 rfl (lv_at hl 0 rfl) ?_
        refine va_get (D := D) (ci := 10) (v := .ref (ta 0)) (C := RX11) (T := TX11) (N := 11) hx hb hts u_X11_write_X11 hown hK.1 hP 0 rfl rfl 2 (by decide) (hts (.fieldLink RX11 26 "NoticeWeek" "town" "LNoticeWeek$Town;") (List.mem_of_getElem? (i := 1) rfl)) (fun _ h9 => h9) rfl dX11_write_40 ?_
        refine va_get (D := D) (ci := 7) (v := .ref (ta 3)) (C := RX8) (T := TX8) (N := 8) hx hb hts u_X11_write_X8 hown hK.1 hP 1 rfl rfl 6 (by decide) (hts (.fieldLink RX11 164 "NoticeWeek$Town" "notice" "[I") (List.mem_of_getElem? (i := 4) rfl)) (fun _ h9 => h9) rfl dX11_write_43 ?_
        refine lv_iload_n hx hb dX11_write_46 rfl (lv_at hl 1 rfl) ?_
        refine b_ald hx hb hK hP 4 rfl (by omega) (by decide) dX11_write_47 ?_
        refine lv_topi (fun x4 ex4 => ?_)
        refine lv_istore_n (lv' := [(3, .int x4), (0, .ref nx), (1, .int (nI (r))), (2, .int notice)]) hx hb dX11_write_48 rfl hl (by decide) rfl (fun ls hl => ?_)
        subst ex4
        have hl : lv_has ls 4 [(3, .int (nt r)), (0, .ref nx), (1, .int (nI (r))), (2, .int notice)] := hl
        refine lv_aload_n hx hb dX11_write_49 rfl (lv_at hl 1 rfl) ?_
        refine va_get (D := D) (ci := 10) (v := .ref (ta 0)) (C := RX11) (T := TX11) (N := 11) hx hb hts u_X11_write_X11 hown hK.1 hP 0 rfl rfl 2 (by decide) (hts (.fieldLink RX11 26 "NoticeWeek" "town" "LNoticeWeek$Town;") (List.mem_of_getElem? (i := 1) rfl)) (fun _ h9 => h9) rfl dX11_write_50 ?_
        refine va_get (D := D) (ci := 7) (v := .ref (ta 3)) (C := RX8) (T := TX8) (N := 8) hx hb hts u_X11_write_X8 hown hK.1 hP 1 rfl rfl 6 (by decide) (hts (.fieldLink RX11 164 "NoticeWeek$Town" "notice" "[I") (List.mem_of_getElem? (i := 4) rfl)) (fun _ h9 => h9) rfl dX11_write_53 ?_
        refine lv_iload_n hx hb dX11_write_56 rfl (lv_at hl 2 rfl) ?_
        refine lv_iload_n hx hb dX11_write_57 rfl (lv_at hl 3 rfl) ?_
        refine b_ast hx hb hK hP hD hS 4 rfl (by omega) (by decide) dX11_write_58 (fun H locs hP hS => ?_)
        have hP : va_P D vwCl (wNW nx ra pa ta da ia xa fa za (nI (min 24 (ku + 1))) (nI ((kw + 1) % 24)) fi ++ wTown cI ta st dy ln (nI n) kd dd (upd nt r notice) lf ++ wAr cT 24 xa ga ++ wTs cI 24 ga (kpG gs kw (st, dy, ln, (nI n), kd, dd, nt, lf))) H := hP
        have hD : va_D A (wNW nx ra pa ta da ia xa fa za (nI (min 24 (ku + 1))) (nI ((kw + 1) % 24)) fi ++ wTown cI ta st dy ln (nI n) kd dd (upd nt r notice) lf ++ wAr cT 24 xa ga ++ wTs cI 24 ga (kpG gs kw (st, dy, ln, (nI n), kd, dd, nt, lf))) := hD.sameA ([nx, (ta 0), (ta 1), (ta 2), (ta 3), (ta 4), xa] ++ (wTs cI 24 ga (kpG gs kw (st, dy, ln, (nI n), kd, dd, nt, lf))).map Prod.fst) rfl rfl
        refine lv_iload_n hx hb dX11_write_59 rfl (lv_at hl 0 rfl) ?_
        have E : x_write st dy ln n kd dd nt lf ku kw gs (nI r) notice = ((nt r), min 24 (ku + 1), (kw + 1) % 24, (kpG gs kw (st, dy, ln, (nI n), kd, dd, nt, lf)), (upd nt r notice)) := (by first | (simp only [x_write, eq_true c1, eq_true c2, eq_true c3, htr, bI, not_true_eq_false, not_false_eq_true, ite_true, ite_false, if_true, if_false, and_self, and_true, true_and, false_and, and_false, or_true, true_or, or_false, false_or, eq_self]; done) | (simp [x_write, eq_true c1, eq_true c2, eq_true c3, htr, bI]; done))
        rw [E]
        exact b_retM hx hb hr hP hS rfl dX11_write_60 hlocks
      · refine lv_ldc (v := (-1000002)) hx hb hown (hts (.constant RX11 141 (-1000002)) (List.mem_of_getElem? (i := 3) rfl)) dX11_write_32 ?_
        have E : x_write st dy ln n kd dd nt lf ku kw gs (nI r) notice = ((-1000002), ku, kw, gs, nt) := (by first | (simp only [x_write, eq_true c1, eq_true c2, eq_false c3, htr, bI, not_true_eq_false, not_false_eq_true, ite_true, ite_false, if_true, if_false, and_self, and_true, true_and, false_and, and_false, or_true, true_or, or_false, false_or, eq_self]; done) | (simp [x_write, eq_true c1, eq_true c2, eq_false c3, htr, bI]; done))
        rw [E]
        exact b_retM hx hb hr hP hS rfl dX11_write_34 hlocks
    · refine lv_ldc (v := (-1000001)) hx hb hown (hts (.constant RX11 71 (-1000001)) (List.mem_of_getElem? (i := 2) rfl)) dX11_write_18 ?_
      have E : x_write st dy ln n kd dd nt lf ku kw gs reader notice = ((-1000001), ku, kw, gs, nt) := (by first | (simp only [x_write, eq_true c1, eq_false c2, bI, not_true_eq_false, not_false_eq_true, ite_true, ite_false, if_true, if_false, and_self, and_true, true_and, false_and, and_false, or_true, true_or, or_false, false_or, eq_self]; done) | (simp [x_write, eq_true c1, eq_false c2, bI]; done))
      rw [E]
      exact b_retM hx hb hr hP hS rfl dX11_write_20 hlocks
theorem u_X11_deny_X11 : ∀ w ∈ wsX110, w ∈ wsX11_deny := fun _ h => List.mem_cons_of_mem _ (List.mem_append_left _ (List.mem_append_right _ h))
theorem u_X11_deny_X8 : ∀ w ∈ wsX80, w ∈ wsX11_deny := fun _ h => List.mem_cons_of_mem _ (List.mem_append_right _ h)
set_option maxHeartbeats 4000000 in
set_option maxRecDepth 100000 in
theorem c_X11_deny (l : Launch) (D : va_G) (cI cZ cT : ClassId) (nx : Nat) (ra pa ta da : Nat → Nat) (ia xa : Nat) (fa za : Nat → Nat) (ku kw : Nat) (fi st dy ln : Int32) (n : Nat) (kd dd nt lf : Nat → Int32) (ga : Nat → Nat → Nat) (gs : Nat → TS) (reader deed : Int32) (hn : n ≤ 6) (hu : ku ≤ 24) (hw : kw ≤ 23) (hst : st = 0 ∨ st = 1) : Met l yX11_deny wsX11_deny ({ frames := 2, cells := 0, slots := 0, locals := 42 }) (pM D cI cZ cT [.ref nx, .int reader, .int deed] (wNW nx ra pa ta da ia xa fa za (nI ku) (nI kw) fi ++ wTown cI ta st dy ln (nI n) kd dd nt lf ++ wAr cT 24 xa ga ++ wTs cI 24 ga gs)) (qM D (some (.int ((x_deny st dy ln n kd dd nt lf ku kw gs reader deed).1))) (wNW nx ra pa ta da ia xa fa za (nI (x_deny st dy ln n kd dd nt lf ku kw gs reader deed).2.1) (nI (x_deny st dy ln n kd dd nt lf ku kw gs reader deed).2.2.1) fi ++ wTown cI ta st dy ln (nI n) kd ((x_deny st dy ln n kd dd nt lf ku kw gs reader deed).2.2.2.2) nt lf ++ wAr cT 24 xa ga ++ wTs cI 24 ga ((x_deny st dy ln n kd dd nt lf ku kw gs reader deed).2.2.2.1)) (adr (wNW nx ra pa ta da ia xa fa za (nI ku) (nI kw) fi ++ wTown cI ta st dy ln (nI n) kd dd nt lf ++ wAr cT 24 xa ga ++ wTs cI 24 ga gs))) 0 0 (adr (wNW nx ra pa ta da ia xa fa za (nI ku) (nI kw) fi ++ wTown cI ta st dy ln (nI n) kd dd nt lf ++ wAr cT 24 xa ga ++ wTs cI 24 ga gs)) := by
  refine Met.ofW (cc := cX11_deny) (maxL := 4) (ret := (some .int)) (by decide) rfl ?_
  intro p e s m args below meth c s₁ B hml hv
  obtain ⟨rfl, hP, hD0, hK⟩ := hv
  have hx := B.exec
  have hb := B.bytes
  have hr := B.returns
  have hts := atoms_spec (ws := wsX11_deny) B.pre
  have hown : s.vm.findClass RX11 = some m.cls := findClass_of_methodNamed B.named
  have hlocks := B.notSynchronized
  have hD := hD0.toAdr
  have hS : va_S (adr (wNW nx ra pa ta da ia xa fa za (nI ku) (nI kw) fi ++ wTown cI ta st dy ln (nI n) kd dd nt lf ++ wAr cT 24 xa ga ++ wTs cI 24 ga gs)) s.heap s.heap [] := va_S.rf
  generalize adr (wNW nx ra pa ta da ia xa fa za (nI ku) (nI kw) fi ++ wTown cI ta st dy ln (nI n) kd dd nt lf ++ wAr cT 24 xa ga ++ wTs cI 24 ga gs) = A at hD hS ⊢
  have hl := lv_entry ([.ref nx, .int reader, .int deed]) (n := 4) (Nat.le_of_ble_eq_true rfl)
  rw [lg_entry_eq]
  generalize (lg_sl ([.ref nx, .int reader, .int deed]) ++ List.replicate (4 - (lg_sl ([.ref nx, .int reader, .int deed])).length) Slot.unset).toArray = ls at hl ⊢
  have hl : lv_has ls 4 [(0, .ref nx), (1, .int reader), (2, .int deed)] := hl
  refine lv_aload_n hx hb dX11_deny_0 rfl (lv_at hl 0 rfl) ?_
  refine va_get (D := D) (ci := 10) (v := .ref (ta 0)) (C := RX11) (T := TX11) (N := 11) hx hb hts u_X11_deny_X11 hown hK.1 hP 0 rfl rfl 2 (by decide) (hts (.fieldLink RX11 26 "NoticeWeek" "town" "LNoticeWeek$Town;") (List.mem_of_getElem? (i := 1) rfl)) (fun _ h9 => h9) rfl dX11_deny_1 ?_
  refine lv_iload_n hx hb dX11_deny_4 rfl (lv_at hl 1 rfl) ?_
  refine b_call (va_runV (As := [.int reader]) (rest := []) ⟨hx, hb, hml, hown, hts⟩ (c_X8_has l D cI cZ cT ta st dy ln (nI n) kd dd nt lf reader) (cwV 1 hts gX11_deny_X8_has rfl rfl rfl (by decide +kernel) ⟨(Nat.le_of_ble_eq_true rfl), (Nat.le_of_ble_eq_true rfl)⟩) (b_pV hK hP [1, 2, 3, 4, 5] rfl 1 rfl rfl) rfl rfl hl.1 rfl (lv_room (Nat.le_of_ble_eq_true rfl)) dX11_deny_5 ⟨Nat.zero_le _, Nat.zero_le _⟩).run ?_
  refine b_ifeq (tgt := 21) hx hb dX11_deny_8 (by decide) (fun c1 => ?_) (fun c1 => ?_)
  · refine lv_ldc (v := (-1000001)) hx hb hown (hts (.constant RX11 71 (-1000001)) (List.mem_of_getElem? (i := 2) rfl)) dX11_deny_21 ?_
    have E : x_deny st dy ln n kd dd nt lf ku kw gs reader deed = ((-1000001), ku, kw, gs, dd) := (by first | (simp only [x_deny, pk_us, eq_false c1, bI, not_true_eq_false, not_false_eq_true, ite_true, ite_false, if_true, if_false, and_self, and_true, true_and, false_and, and_false, or_true, true_or, or_false, false_or, eq_self]; done) | (simp [x_deny, pk_us, eq_false c1, bI]; done))
    rw [E]
    exact b_retM hx hb hr hP hS rfl dX11_deny_23 hlocks
  · refine lv_iload_n hx hb dX11_deny_11 rfl (lv_at hl 2 rfl) ?_
    refine lv_if_lt (tgt := 21) hx hb dX11_deny_12 (by decide) (fun c2 => ?_) (fun c2 => ?_)
    · refine lv_ldc (v := (-1000001)) hx hb hown (hts (.constant RX11 71 (-1000001)) (List.mem_of_getElem? (i := 2) rfl)) dX11_deny_21 ?_
      have E : x_deny st dy ln n kd dd nt lf ku kw gs reader deed = ((-1000001), ku, kw, gs, dd) := (by first | (simp only [x_deny, pk_us, eq_true c1, eq_true c2, bI, not_true_eq_false, not_false_eq_true, ite_true, ite_false, if_true, if_false, and_self, and_true, true_and, false_and, and_false, or_true, true_or, or_false, false_or, eq_self]; done) | (simp [x_deny, pk_us, eq_true c1, eq_true c2, bI]; done))
      rw [E]
      exact b_retM hx hb hr hP hS rfl dX11_deny_23 hlocks
    · refine lv_iload_n hx hb dX11_deny_15 rfl (lv_at hl 2 rfl) ?_
      refine lv_bipush (v := 6) hx hb dX11_deny_16 (by decide) ?_
      refine lv_icmp_lt (tgt := 24) hx hb dX11_deny_18 (by decide) (fun c3 => ?_) (fun c3 => ?_)
      · obtain ⟨r, hh_r, rfl⟩ : ∃ r : Nat, r ≤ 5 ∧ reader = nI r := has_r hn c1
        have hl : lv_has ls 4 [(0, .ref nx), (1, .int (nI (r))), (2, .int deed)] := hl
        have htr : tn (nI r) = r := tn_nI hh_r
        have hrn : r < n := rd_lt hn hh_r c1
        refine lv_iconst (v := 1) hx hb dX11_deny_24 (by decide) ?_
        refine lv_iload_n hx hb dX11_deny_25 rfl (lv_at hl 2 rfl) ?_
        refine lv_ishl hx hb dX11_deny_26 ?_
        refine lv_topi (fun x4 ex4 => ?_)
        refine lv_istore_n (lv' := [(3, .int x4), (0, .ref nx), (1, .int (nI (r))), (2, .int deed)]) hx hb dX11_deny_27 rfl hl (by decide) rfl (fun ls hl => ?_)
        subst ex4
        have hl : lv_has ls 4 [(3, .int (1 <<< (deed &&& 31))), (0, .ref nx), (1, .int (nI (r))), (2, .int deed)] := hl
        refine lv_aload_n hx hb dX11_deny_28 rfl (lv_at hl 1 rfl) ?_
        refine va_get (D := D) (ci := 10) (v := .ref (ta 0)) (C := RX11) (T := TX11) (N := 11) hx hb hts u_X11_deny_X11 hown hK.1 hP 0 rfl rfl 2 (by decide) (hts (.fieldLink RX11 26 "NoticeWeek" "town" "LNoticeWeek$Town;") (List.mem_of_getElem? (i := 1) rfl)) (fun _ h9 => h9) rfl dX11_deny_29 ?_
        refine va_get (D := D) (ci := 7) (v := .ref (ta 2)) (C := RX8) (T := TX8) (N := 8) hx hb hts u_X11_deny_X8 hown hK.1 hP 1 rfl rfl 5 (by decide) (hts (.fieldLink RX11 168 "NoticeWeek$Town" "did" "[I") (List.mem_of_getElem? (i := 3) rfl)) (fun _ h9 => h9) rfl dX11_deny_32 ?_
        refine lv_iload_n hx hb dX11_deny_35 rfl (lv_at hl 2 rfl) ?_
        refine b_ald hx hb hK hP 3 rfl (by omega) (by decide) dX11_deny_36 ?_
        refine lv_iload_n hx hb dX11_deny_37 rfl (lv_at hl 0 rfl) ?_
        refine lv_iand hx hb dX11_deny_38 ?_
        refine lv_if_ne (tgt := 45) hx hb dX11_deny_39 (by decide) (fun c5 => ?_) (fun c5 => ?_)
        · refine lv_aload_n hx hb dX11_deny_45 rfl (lv_at hl 1 rfl) ?_
          refine b_callMt [0, 1, 2, 3, 4, 5, 6] (va_runV (As := []) (rest := []) ⟨hx, hb, hml, hown, hts⟩ (c_X11_keepAct l D cI cZ cT nx ra pa ta da ia xa fa za ku kw fi st dy ln (nI n) kd dd nt lf ga gs hu hw hst) (cwV 0 hts gX11_deny_X11_keepAct rfl rfl rfl (by decide +kernel) ⟨(Nat.le_of_ble_eq_true rfl), (Nat.le_of_ble_eq_true rfl)⟩) (b_pVMt hK hP hD [0, 1, 2, 3, 4, 5, 6] (by decide) rfl rfl 0 rfl rfl) rfl rfl hl.1 rfl (lv_room (Nat.le_of_ble_eq_true rfl)) dX11_deny_46 ⟨Nat.zero_le _, Nat.zero_le _⟩).run hP hD hS rfl (Nat.le_of_ble_eq_true rfl) wTs_fst rfl (fun H locs hP hD hS => ?_)
          have hP : va_P D vwCl (wNW nx ra pa ta da ia xa fa za (nI (min 24 (ku + 1))) (nI ((kw + 1) % 24)) fi ++ wTown cI ta st dy ln (nI n) kd dd nt lf ++ wAr cT 24 xa ga ++ wTs cI 24 ga (kpG gs kw (st, dy, ln, (nI n), kd, dd, nt, lf))) H := hP
          have hD : va_D A (wNW nx ra pa ta da ia xa fa za (nI (min 24 (ku + 1))) (nI ((kw + 1) % 24)) fi ++ wTown cI ta st dy ln (nI n) kd dd nt lf ++ wAr cT 24 xa ga ++ wTs cI 24 ga (kpG gs kw (st, dy, ln, (nI n), kd, dd, nt, lf))) := hD
          refine lv_aload_n hx hb dX11_deny_49 rfl (lv_at hl 1 rfl) ?_
          refine va_get (D := D) (ci := 10) (v := .ref (ta 0)) (C := RX11) (T := TX11) (N := 11) hx hb hts u_X11_deny_X11 hown hK.1 hP 0 rfl rfl 2 (by decide) (hts (.fieldLink RX11 26 "NoticeWeek" "town" "LNoticeWeek$Town;") (List.mem_of_getElem? (i := 1) rfl)) (fun _ h9 => h9) rfl dX11_deny_50 ?_
          refine va_get (D := D) (ci := 7) (v := .ref (ta 2)) (C := RX8) (T := TX8) (N := 8) hx hb hts u_X11_deny_X8 hown hK.1 hP 1 rfl rfl 5 (by decide) (hts (.fieldLink RX11 168 "NoticeWeek$Town" "did" "[I") (List.mem_of_getElem? (i := 3) rfl)) (fun _ h9 => h9) rfl dX11_deny_53 ?_
          refine lv_iload_n hx hb dX11_deny_56 rfl (lv_at hl 2 rfl) ?_
          refine lv_dup2_11 hx hb dX11_deny_57 rfl rfl ?_
          refine b_ald hx hb hK hP 3 rfl (by omega) (by decide) dX11_deny_58 ?_
          refine lv_iload_n hx hb dX11_deny_59 rfl (lv_at hl 0 rfl) ?_
          refine lv_iconst (v := (-1)) hx hb dX11_deny_60 (by decide) ?_
          refine lv_ixor hx hb dX11_deny_61 ?_
          refine lv_iand hx hb dX11_deny_62 ?_
          refine b_ast hx hb hK hP hD hS 3 rfl (by omega) (by decide) dX11_deny_63 (fun H locs hP hS => ?_)
          have hP : va_P D vwCl (wNW nx ra pa ta da ia xa fa za (nI (min 24 (ku + 1))) (nI ((kw + 1) % 24)) fi ++ wTown cI ta st dy ln (nI n) kd (upd dd r ((dd r) &&& ((1 <<< (deed &&& 31)) ^^^ (-1)))) nt lf ++ wAr cT 24 xa ga ++ wTs cI 24 ga (kpG gs kw (st, dy, ln, (nI n), kd, dd, nt, lf))) H := hP
          have hD : va_D A (wNW nx ra pa ta da ia xa fa za (nI (min 24 (ku + 1))) (nI ((kw + 1) % 24)) fi ++ wTown cI ta st dy ln (nI n) kd (upd dd r ((dd r) &&& ((1 <<< (deed &&& 31)) ^^^ (-1)))) nt lf ++ wAr cT 24 xa ga ++ wTs cI 24 ga (kpG gs kw (st, dy, ln, (nI n), kd, dd, nt, lf))) := hD.sameA ([nx, (ta 0), (ta 1), (ta 2), (ta 3), (ta 4), xa] ++ (wTs cI 24 ga (kpG gs kw (st, dy, ln, (nI n), kd, dd, nt, lf))).map Prod.fst) rfl rfl
          refine lv_aload_n hx hb dX11_deny_64 rfl (lv_at hl 1 rfl) ?_
          refine va_get (D := D) (ci := 10) (v := .ref (ta 0)) (C := RX11) (T := TX11) (N := 11) hx hb hts u_X11_deny_X11 hown hK.1 hP 0 rfl rfl 2 (by decide) (hts (.fieldLink RX11 26 "NoticeWeek" "town" "LNoticeWeek$Town;") (List.mem_of_getElem? (i := 1) rfl)) (fun _ h9 => h9) rfl dX11_deny_65 ?_
          refine va_get (D := D) (ci := 7) (v := .ref (ta 2)) (C := RX8) (T := TX8) (N := 8) hx hb hts u_X11_deny_X8 hown hK.1 hP 1 rfl rfl 5 (by decide) (hts (.fieldLink RX11 168 "NoticeWeek$Town" "did" "[I") (List.mem_of_getElem? (i := 3) rfl)) (fun _ h9 => h9) rfl dX11_deny_68 ?_
          refine lv_iload_n hx hb dX11_deny_71 rfl (lv_at hl 2 rfl) ?_
          refine b_ald hx hb hK hP 3 rfl (by omega) (by decide) dX11_deny_72 ?_
          have E : x_deny st dy ln n kd dd nt lf ku kw gs (nI r) deed = (((upd dd r ((dd r) &&& ((1 <<< (deed &&& 31)) ^^^ (-1)))) r), min 24 (ku + 1), (kw + 1) % 24, (kpG gs kw (st, dy, ln, (nI n), kd, dd, nt, lf)), (upd dd r ((dd r) &&& ((1 <<< (deed &&& 31)) ^^^ (-1))))) := (by first | (simp only [x_deny, pk_us, eq_true c1, eq_false c2, eq_true c3, eq_false c5, htr, bI, not_true_eq_false, not_false_eq_true, ite_true, ite_false, if_true, if_false, and_self, and_true, true_and, false_and, and_false, or_true, true_or, or_false, false_or, eq_self]; done) | (simp [x_deny, pk_us, eq_true c1, eq_false c2, eq_true c3, eq_false c5, htr, bI]; done))
          rw [E]
          exact b_retM hx hb hr hP hS rfl dX11_deny_73 hlocks
        · refine lv_ldc (v := (-1000002)) hx hb hown (hts (.constant RX11 141 (-1000002)) (List.mem_of_getElem? (i := 4) rfl)) dX11_deny_42 ?_
          have E : x_deny st dy ln n kd dd nt lf ku kw gs (nI r) deed = ((-1000002), ku, kw, gs, dd) := (by first | (simp only [x_deny, pk_us, eq_true c1, eq_false c2, eq_true c3, eq_true c5, htr, bI, not_true_eq_false, not_false_eq_true, ite_true, ite_false, if_true, if_false, and_self, and_true, true_and, false_and, and_false, or_true, true_or, or_false, false_or, eq_self]; done) | (simp [x_deny, pk_us, eq_true c1, eq_false c2, eq_true c3, eq_true c5, htr, bI]; done))
          rw [E]
          exact b_retM hx hb hr hP hS rfl dX11_deny_44 hlocks
      · refine lv_ldc (v := (-1000001)) hx hb hown (hts (.constant RX11 71 (-1000001)) (List.mem_of_getElem? (i := 2) rfl)) dX11_deny_21 ?_
        have E : x_deny st dy ln n kd dd nt lf ku kw gs reader deed = ((-1000001), ku, kw, gs, dd) := (by first | (simp only [x_deny, pk_us, eq_true c1, eq_false c2, eq_false c3, bI, not_true_eq_false, not_false_eq_true, ite_true, ite_false, if_true, if_false, and_self, and_true, true_and, false_and, and_false, or_true, true_or, or_false, false_or, eq_self]; done) | (simp [x_deny, pk_us, eq_true c1, eq_false c2, eq_false c3, bI]; done))
        rw [E]
        exact b_retM hx hb hr hP hS rfl dX11_deny_23 hlocks
theorem u_X11_spare_X11 : ∀ w ∈ wsX110, w ∈ wsX11_spare := fun _ h => List.mem_cons_of_mem _ (List.mem_append_left _ (List.mem_append_right _ h))
theorem u_X11_spare_X8 : ∀ w ∈ wsX80, w ∈ wsX11_spare := fun _ h => List.mem_cons_of_mem _ (List.mem_append_right _ h)
set_option maxHeartbeats 4000000 in
set_option maxRecDepth 100000 in
theorem c_X11_spare (l : Launch) (D : va_G) (cI cZ cT : ClassId) (nx : Nat) (ra pa ta da : Nat → Nat) (ia xa : Nat) (fa za : Nat → Nat) (ku kw : Nat) (fi st dy ln : Int32) (n : Nat) (kd dd nt lf : Nat → Int32) (ga : Nat → Nat → Nat) (gs : Nat → TS) (reader x : Int32) (hn : n ≤ 6) (hu : ku ≤ 24) (hw : kw ≤ 23) (hst : st = 0 ∨ st = 1) : Met l yX11_spare wsX11_spare ({ frames := 2, cells := 0, slots := 0, locals := 42 }) (pM D cI cZ cT [.ref nx, .int reader, .int x] (wNW nx ra pa ta da ia xa fa za (nI ku) (nI kw) fi ++ wTown cI ta st dy ln (nI n) kd dd nt lf ++ wAr cT 24 xa ga ++ wTs cI 24 ga gs)) (qM D (some (.int ((x_spare st dy ln n kd dd nt lf ku kw gs reader x).1))) (wNW nx ra pa ta da ia xa fa za (nI (x_spare st dy ln n kd dd nt lf ku kw gs reader x).2.1) (nI (x_spare st dy ln n kd dd nt lf ku kw gs reader x).2.2.1) fi ++ wTown cI ta st dy ln (nI n) kd dd nt ((x_spare st dy ln n kd dd nt lf ku kw gs reader x).2.2.2.2) ++ wAr cT 24 xa ga ++ wTs cI 24 ga ((x_spare st dy ln n kd dd nt lf ku kw gs reader x).2.2.2.1)) (adr (wNW nx ra pa ta da ia xa fa za (nI ku) (nI kw) fi ++ wTown cI ta st dy ln (nI n) kd dd nt lf ++ wAr cT 24 xa ga ++ wTs cI 24 ga gs))) 0 0 (adr (wNW nx ra pa ta da ia xa fa za (nI ku) (nI kw) fi ++ wTown cI ta st dy ln (nI n) kd dd nt lf ++ wAr cT 24 xa ga ++ wTs cI 24 ga gs)) := by
  refine Met.ofW (cc := cX11_spare) (maxL := 3) (ret := (some .int)) (by decide) rfl ?_
  intro p e s m args below meth c s₁ B hml hv
  obtain ⟨rfl, hP, hD0, hK⟩ := hv
  have hx := B.exec
  have hb := B.bytes
  have hr := B.returns
  have hts := atoms_spec (ws := wsX11_spare) B.pre
  have hown : s.vm.findClass RX11 = some m.cls := findClass_of_methodNamed B.named
  have hlocks := B.notSynchronized
  have hD := hD0.toAdr
  have hS : va_S (adr (wNW nx ra pa ta da ia xa fa za (nI ku) (nI kw) fi ++ wTown cI ta st dy ln (nI n) kd dd nt lf ++ wAr cT 24 xa ga ++ wTs cI 24 ga gs)) s.heap s.heap [] := va_S.rf
  generalize adr (wNW nx ra pa ta da ia xa fa za (nI ku) (nI kw) fi ++ wTown cI ta st dy ln (nI n) kd dd nt lf ++ wAr cT 24 xa ga ++ wTs cI 24 ga gs) = A at hD hS ⊢
  have hl := lv_entry ([.ref nx, .int reader, .int x]) (n := 3) (Nat.le_of_ble_eq_true rfl)
  rw [lg_entry_eq]
  generalize (lg_sl ([.ref nx, .int reader, .int x]) ++ List.replicate (3 - (lg_sl ([.ref nx, .int reader, .int x])).length) Slot.unset).toArray = ls at hl ⊢
  have hl : lv_has ls 3 [(0, .ref nx), (1, .int reader), (2, .int x)] := hl
  refine lv_aload_n hx hb dX11_spare_0 rfl (lv_at hl 0 rfl) ?_
  refine va_get (D := D) (ci := 10) (v := .ref (ta 0)) (C := RX11) (T := TX11) (N := 11) hx hb hts u_X11_spare_X11 hown hK.1 hP 0 rfl rfl 2 (by decide) (hts (.fieldLink RX11 26 "NoticeWeek" "town" "LNoticeWeek$Town;") (List.mem_of_getElem? (i := 1) rfl)) (fun _ h9 => h9) rfl dX11_spare_1 ?_
  refine lv_iload_n hx hb dX11_spare_4 rfl (lv_at hl 1 rfl) ?_
  refine b_call (va_runV (As := [.int reader]) (rest := []) ⟨hx, hb, hml, hown, hts⟩ (c_X8_has l D cI cZ cT ta st dy ln (nI n) kd dd nt lf reader) (cwV 1 hts gX11_spare_X8_has rfl rfl rfl (by decide +kernel) ⟨(Nat.le_of_ble_eq_true rfl), (Nat.le_of_ble_eq_true rfl)⟩) (b_pV hK hP [1, 2, 3, 4, 5] rfl 1 rfl rfl) rfl rfl hl.1 rfl (lv_room (Nat.le_of_ble_eq_true rfl)) dX11_spare_5 ⟨Nat.zero_le _, Nat.zero_le _⟩).run ?_
  refine b_ifeq (tgt := 22) hx hb dX11_spare_8 (by decide) (fun c1 => ?_) (fun c1 => ?_)
  · refine lv_ldc (v := (-1000001)) hx hb hown (hts (.constant RX11 71 (-1000001)) (List.mem_of_getElem? (i := 2) rfl)) dX11_spare_22 ?_
    have E : x_spare st dy ln n kd dd nt lf ku kw gs reader x = ((-1000001), ku, kw, gs, lf) := (by first | (simp only [x_spare, spX, pk_us, eq_false c1, bI, not_true_eq_false, not_false_eq_true, ite_true, ite_false, if_true, if_false, and_self, and_true, true_and, false_and, and_false, or_true, true_or, or_false, false_or, eq_self]; done) | (simp [x_spare, spX, pk_us, eq_false c1, bI]; done))
    rw [E]
    exact b_retM hx hb hr hP hS rfl dX11_spare_24 hlocks
  · refine lv_iload_n hx hb dX11_spare_11 rfl (lv_at hl 2 rfl) ?_
    refine lv_iconst (v := 1) hx hb dX11_spare_12 (by decide) ?_
    refine lv_icmp_lt (tgt := 22) hx hb dX11_spare_13 (by decide) (fun c2 => ?_) (fun c2 => ?_)
    · refine lv_ldc (v := (-1000001)) hx hb hown (hts (.constant RX11 71 (-1000001)) (List.mem_of_getElem? (i := 2) rfl)) dX11_spare_22 ?_
      have E : x_spare st dy ln n kd dd nt lf ku kw gs reader x = ((-1000001), ku, kw, gs, lf) := (by first | (simp only [x_spare, spX, pk_us, eq_true c1, eq_true c2, bI, not_true_eq_false, not_false_eq_true, ite_true, ite_false, if_true, if_false, and_self, and_true, true_and, false_and, and_false, or_true, true_or, or_false, false_or, eq_self]; done) | (simp [x_spare, spX, pk_us, eq_true c1, eq_true c2, bI]; done))
      rw [E]
      exact b_retM hx hb hr hP hS rfl dX11_spare_24 hlocks
    · refine lv_iload_n hx hb dX11_spare_16 rfl (lv_at hl 2 rfl) ?_
      refine lv_bipush (v := 60) hx hb dX11_spare_17 (by decide) ?_
      refine lv_icmp_le (tgt := 25) hx hb dX11_spare_19 (by decide) (fun c3 => ?_) (fun c3 => ?_)
      · obtain ⟨r, hh_r, rfl⟩ : ∃ r : Nat, r ≤ 5 ∧ reader = nI r := has_r hn c1
        have hl : lv_has ls 3 [(0, .ref nx), (1, .int (nI (r))), (2, .int x)] := hl
        have htr : tn (nI r) = r := tn_nI hh_r
        have hrn : r < n := rd_lt hn hh_r c1
        refine lv_aload_n hx hb dX11_spare_25 rfl (lv_at hl 0 rfl) ?_
        refine va_get (D := D) (ci := 10) (v := .ref (ta 0)) (C := RX11) (T := TX11) (N := 11) hx hb hts u_X11_spare_X11 hown hK.1 hP 0 rfl rfl 2 (by decide) (hts (.fieldLink RX11 26 "NoticeWeek" "town" "LNoticeWeek$Town;") (List.mem_of_getElem? (i := 1) rfl)) (fun _ h9 => h9) rfl dX11_spare_26 ?_
        refine lv_iload_n hx hb dX11_spare_29 rfl (lv_at hl 1 rfl) ?_
        refine b_call (va_runV (As := [.int (nI (r))]) (rest := []) ⟨hx, hb, hml, hown, hts⟩ (c_X8_lives l D cI cZ cT ta st dy ln (nI n) kd dd nt lf r (by omega)) (cwV 1 hts gX11_spare_X8_lives rfl rfl rfl (by decide +kernel) ⟨(Nat.le_of_ble_eq_true rfl), (Nat.le_of_ble_eq_true rfl)⟩) (b_pV hK hP [1, 2, 3, 4, 5] rfl 1 rfl rfl) rfl rfl hl.1 rfl (lv_room (Nat.le_of_ble_eq_true rfl)) dX11_spare_30 ⟨Nat.zero_le _, Nat.zero_le _⟩).run ?_
        refine b_ifne (tgt := 39) hx hb dX11_spare_33 (by decide) (fun c4 => ?_) (fun c4 => ?_)
        · refine lv_aload_n hx hb dX11_spare_39 rfl (lv_at hl 0 rfl) ?_
          refine b_callMt [0, 1, 2, 3, 4, 5, 6] (va_runV (As := []) (rest := []) ⟨hx, hb, hml, hown, hts⟩ (c_X11_keepAct l D cI cZ cT nx ra pa ta da ia xa fa za ku kw fi st dy ln (nI n) kd dd nt lf ga gs hu hw hst) (cwV 0 hts gX11_spare_X11_keepAct rfl rfl rfl (by decide +kernel) ⟨(Nat.le_of_ble_eq_true rfl), (Nat.le_of_ble_eq_true rfl)⟩) (b_pVMt hK hP hD [0, 1, 2, 3, 4, 5, 6] (by decide) rfl rfl 0 rfl rfl) rfl rfl hl.1 rfl (lv_room (Nat.le_of_ble_eq_true rfl)) dX11_spare_40 ⟨Nat.zero_le _, Nat.zero_le _⟩).run hP hD hS rfl (Nat.le_of_ble_eq_true rfl) wTs_fst rfl (fun H locs hP hD hS => ?_)
          have hP : va_P D vwCl (wNW nx ra pa ta da ia xa fa za (nI (min 24 (ku + 1))) (nI ((kw + 1) % 24)) fi ++ wTown cI ta st dy ln (nI n) kd dd nt lf ++ wAr cT 24 xa ga ++ wTs cI 24 ga (kpG gs kw (st, dy, ln, (nI n), kd, dd, nt, lf))) H := hP
          have hD : va_D A (wNW nx ra pa ta da ia xa fa za (nI (min 24 (ku + 1))) (nI ((kw + 1) % 24)) fi ++ wTown cI ta st dy ln (nI n) kd dd nt lf ++ wAr cT 24 xa ga ++ wTs cI 24 ga (kpG gs kw (st, dy, ln, (nI n), kd, dd, nt, lf))) := hD
          refine lv_aload_n hx hb dX11_spare_43 rfl (lv_at hl 0 rfl) ?_
          refine va_get (D := D) (ci := 10) (v := .ref (ta 0)) (C := RX11) (T := TX11) (N := 11) hx hb hts u_X11_spare_X11 hown hK.1 hP 0 rfl rfl 2 (by decide) (hts (.fieldLink RX11 26 "NoticeWeek" "town" "LNoticeWeek$Town;") (List.mem_of_getElem? (i := 1) rfl)) (fun _ h9 => h9) rfl dX11_spare_44 ?_
          refine va_get (D := D) (ci := 7) (v := .ref (ta 4)) (C := RX8) (T := TX8) (N := 8) hx hb hts u_X11_spare_X8 hown hK.1 hP 1 rfl rfl 7 (by decide) (hts (.fieldLink RX11 171 "NoticeWeek$Town" "left" "[I") (List.mem_of_getElem? (i := 4) rfl)) (fun _ h9 => h9) rfl dX11_spare_47 ?_
          refine lv_iload_n hx hb dX11_spare_50 rfl (lv_at hl 1 rfl) ?_
          refine lv_bipush (v := 60) hx hb dX11_spare_51 (by decide) ?_
          refine lv_aload_n hx hb dX11_spare_53 rfl (lv_at hl 0 rfl) ?_
          refine va_get (D := D) (ci := 10) (v := .ref (ta 0)) (C := RX11) (T := TX11) (N := 11) hx hb hts u_X11_spare_X11 hown hK.1 hP 0 rfl rfl 2 (by decide) (hts (.fieldLink RX11 26 "NoticeWeek" "town" "LNoticeWeek$Town;") (List.mem_of_getElem? (i := 1) rfl)) (fun _ h9 => h9) rfl dX11_spare_54 ?_
          refine va_get (D := D) (ci := 7) (v := .ref (ta 4)) (C := RX8) (T := TX8) (N := 8) hx hb hts u_X11_spare_X8 hown hK.1 hP 1 rfl rfl 7 (by decide) (hts (.fieldLink RX11 171 "NoticeWeek$Town" "left" "[I") (List.mem_of_getElem? (i := 4) rfl)) (fun _ h9 => h9) rfl dX11_spare_57 ?_
          refine lv_iload_n hx hb dX11_spare_60 rfl (lv_at hl 1 rfl) ?_
          refine b_ald hx hb hK hP 5 rfl (by omega) (by decide) dX11_spare_61 ?_
          refine lv_iload_n hx hb dX11_spare_62 rfl (lv_at hl 2 rfl) ?_
          refine lv_iadd hx hb dX11_spare_63 ?_
          refine va_mmin hx hb (hml.trans hl.1.symm) hown (hts (.methodLink RX11 174 Lib.Math.min.name) (List.mem_of_getElem? (i := 5) rfl)) (hts (.static Lib.Math.min.name) (List.mem_of_getElem? (i := 6) rfl)) (hts (.initialized "java/lang/Math") (List.mem_of_getElem? (i := 7) rfl)) (hts (.code Lib.Math.min.name Lib.Math.min.code 2 (some .int)) (List.mem_of_getElem? (i := 8) rfl)) (Nat.le_of_ble_eq_true rfl) (Nat.le_of_ble_eq_true rfl) (Nat.zero_le _) (Nat.zero_le _) dX11_spare_64 ?_
          refine b_ast hx hb hK hP hD hS 5 rfl (by omega) (by decide) dX11_spare_67 (fun H locs hP hS => ?_)
          have hP : va_P D vwCl (wNW nx ra pa ta da ia xa fa za (nI (min 24 (ku + 1))) (nI ((kw + 1) % 24)) fi ++ wTown cI ta st dy ln (nI n) kd dd nt (upd lf r (if ((lf r) + x) < 60 then ((lf r) + x) else 60)) ++ wAr cT 24 xa ga ++ wTs cI 24 ga (kpG gs kw (st, dy, ln, (nI n), kd, dd, nt, lf))) H := hP
          have hD : va_D A (wNW nx ra pa ta da ia xa fa za (nI (min 24 (ku + 1))) (nI ((kw + 1) % 24)) fi ++ wTown cI ta st dy ln (nI n) kd dd nt (upd lf r (if ((lf r) + x) < 60 then ((lf r) + x) else 60)) ++ wAr cT 24 xa ga ++ wTs cI 24 ga (kpG gs kw (st, dy, ln, (nI n), kd, dd, nt, lf))) := hD.sameA ([nx, (ta 0), (ta 1), (ta 2), (ta 3), (ta 4), xa] ++ (wTs cI 24 ga (kpG gs kw (st, dy, ln, (nI n), kd, dd, nt, lf))).map Prod.fst) rfl rfl
          refine lv_aload_n hx hb dX11_spare_68 rfl (lv_at hl 0 rfl) ?_
          refine va_get (D := D) (ci := 10) (v := .ref (ta 0)) (C := RX11) (T := TX11) (N := 11) hx hb hts u_X11_spare_X11 hown hK.1 hP 0 rfl rfl 2 (by decide) (hts (.fieldLink RX11 26 "NoticeWeek" "town" "LNoticeWeek$Town;") (List.mem_of_getElem? (i := 1) rfl)) (fun _ h9 => h9) rfl dX11_spare_69 ?_
          refine va_get (D := D) (ci := 7) (v := .ref (ta 4)) (C := RX8) (T := TX8) (N := 8) hx hb hts u_X11_spare_X8 hown hK.1 hP 1 rfl rfl 7 (by decide) (hts (.fieldLink RX11 171 "NoticeWeek$Town" "left" "[I") (List.mem_of_getElem? (i := 4) rfl)) (fun _ h9 => h9) rfl dX11_spare_72 ?_
          refine lv_iload_n hx hb dX11_spare_75 rfl (lv_at hl 1 rfl) ?_
          refine b_ald hx hb hK hP 5 rfl (by omega) (by decide) dX11_spare_76 ?_
          have E : x_spare st dy ln n kd dd nt lf ku kw gs (nI r) x = (((upd lf r (if ((lf r) + x) < 60 then ((lf r) + x) else 60)) r), min 24 (ku + 1), (kw + 1) % 24, (kpG gs kw (st, dy, ln, (nI n), kd, dd, nt, lf)), (upd lf r (if ((lf r) + x) < 60 then ((lf r) + x) else 60))) := (by first | (simp only [x_spare, spX, pk_us, eq_true c1, eq_false c2, eq_true c3, eq_true c4, htr, bI, not_true_eq_false, not_false_eq_true, ite_true, ite_false, if_true, if_false, and_self, and_true, true_and, false_and, and_false, or_true, true_or, or_false, false_or, eq_self]; done) | (simp [x_spare, spX, pk_us, eq_true c1, eq_false c2, eq_true c3, eq_true c4, htr, bI]; done))
          rw [E]
          exact b_retM hx hb hr hP hS rfl dX11_spare_77 hlocks
        · refine lv_ldc (v := (-1000002)) hx hb hown (hts (.constant RX11 141 (-1000002)) (List.mem_of_getElem? (i := 3) rfl)) dX11_spare_36 ?_
          have E : x_spare st dy ln n kd dd nt lf ku kw gs (nI r) x = ((-1000002), ku, kw, gs, lf) := (by first | (simp only [x_spare, spX, pk_us, eq_true c1, eq_false c2, eq_true c3, eq_false c4, htr, bI, not_true_eq_false, not_false_eq_true, ite_true, ite_false, if_true, if_false, and_self, and_true, true_and, false_and, and_false, or_true, true_or, or_false, false_or, eq_self]; done) | (simp [x_spare, spX, pk_us, eq_true c1, eq_false c2, eq_true c3, eq_false c4, htr, bI]; done))
          rw [E]
          exact b_retM hx hb hr hP hS rfl dX11_spare_38 hlocks
      · refine lv_ldc (v := (-1000001)) hx hb hown (hts (.constant RX11 71 (-1000001)) (List.mem_of_getElem? (i := 2) rfl)) dX11_spare_22 ?_
        have E : x_spare st dy ln n kd dd nt lf ku kw gs reader x = ((-1000001), ku, kw, gs, lf) := (by first | (simp only [x_spare, spX, pk_us, eq_true c1, eq_false c2, eq_false c3, bI, not_true_eq_false, not_false_eq_true, ite_true, ite_false, if_true, if_false, and_self, and_true, true_and, false_and, and_false, or_true, true_or, or_false, false_or, eq_self]; done) | (simp [x_spare, spX, pk_us, eq_true c1, eq_false c2, eq_false c3, bI]; done))
        rw [E]
        exact b_retM hx hb hr hP hS rfl dX11_spare_24 hlocks
theorem u_X11_undo_X11 : ∀ w ∈ wsX110, w ∈ wsX11_undo := fun _ h => List.mem_cons_of_mem _ (List.mem_append_left _ (List.mem_append_right _ h))
set_option maxHeartbeats 4000000 in
set_option maxRecDepth 100000 in
theorem c_X11_undo (l : Launch) (D : va_G) (cI cZ cT : ClassId) (nx : Nat) (ra pa ta da : Nat → Nat) (ia xa : Nat) (fa za : Nat → Nat) (ku kw : Nat) (fi st dy ln rd : Int32) (kd dd nt lf : Nat → Int32) (ga : Nat → Nat → Nat) (gs : Nat → TS) (hu : ku ≤ 24) (hw : kw ≤ 23) (hG : ∀ k, k ≤ 23 → (gs k).1 = 0 ∨ (gs k).1 = 1) : Met l yX11_undo wsX11_undo ({ frames := 1, cells := 0, slots := 0, locals := 22 }) (pM D cI cZ cT [.ref nx] (wNW nx ra pa ta da ia xa fa za (nI ku) (nI kw) fi ++ wTown cI ta st dy ln rd kd dd nt lf ++ wAr cT 24 xa ga ++ wTs cI 24 ga gs)) (qM D (some (.int ((x_undo ku kw gs (st, dy, ln, rd, kd, dd, nt, lf)).1))) (wNW nx ra pa ta da ia xa fa za (nI (x_undo ku kw gs (st, dy, ln, rd, kd, dd, nt, lf)).2.1) (nI (x_undo ku kw gs (st, dy, ln, rd, kd, dd, nt, lf)).2.2.1) fi ++ wTown cI ta ((x_undo ku kw gs (st, dy, ln, rd, kd, dd, nt, lf)).2.2.2.1) ((x_undo ku kw gs (st, dy, ln, rd, kd, dd, nt, lf)).2.2.2.2.1) ((x_undo ku kw gs (st, dy, ln, rd, kd, dd, nt, lf)).2.2.2.2.2.1) ((x_undo ku kw gs (st, dy, ln, rd, kd, dd, nt, lf)).2.2.2.2.2.2.1) ((x_undo ku kw gs (st, dy, ln, rd, kd, dd, nt, lf)).2.2.2.2.2.2.2.1) ((x_undo ku kw gs (st, dy, ln, rd, kd, dd, nt, lf)).2.2.2.2.2.2.2.2.1) ((x_undo ku kw gs (st, dy, ln, rd, kd, dd, nt, lf)).2.2.2.2.2.2.2.2.2.1) ((x_undo ku kw gs (st, dy, ln, rd, kd, dd, nt, lf)).2.2.2.2.2.2.2.2.2.2) ++ wAr cT 24 xa ga ++ wTs cI 24 ga gs) (adr (wNW nx ra pa ta da ia xa fa za (nI ku) (nI kw) fi ++ wTown cI ta st dy ln rd kd dd nt lf ++ wAr cT 24 xa ga ++ wTs cI 24 ga gs))) 0 0 (adr (wNW nx ra pa ta da ia xa fa za (nI ku) (nI kw) fi ++ wTown cI ta st dy ln rd kd dd nt lf ++ wAr cT 24 xa ga ++ wTs cI 24 ga gs)) := by
  refine Met.ofW (cc := cX11_undo) (maxL := 1) (ret := (some .int)) (by decide) rfl ?_
  intro p e s m args below meth c s₁ B hml hv
  obtain ⟨rfl, hP, hD0, hK⟩ := hv
  have hx := B.exec
  have hb := B.bytes
  have hr := B.returns
  have hts := atoms_spec (ws := wsX11_undo) B.pre
  have hown : s.vm.findClass RX11 = some m.cls := findClass_of_methodNamed B.named
  have hlocks := B.notSynchronized
  have hD := hD0.toAdr
  have hS : va_S (adr (wNW nx ra pa ta da ia xa fa za (nI ku) (nI kw) fi ++ wTown cI ta st dy ln rd kd dd nt lf ++ wAr cT 24 xa ga ++ wTs cI 24 ga gs)) s.heap s.heap [] := va_S.rf
  generalize adr (wNW nx ra pa ta da ia xa fa za (nI ku) (nI kw) fi ++ wTown cI ta st dy ln rd kd dd nt lf ++ wAr cT 24 xa ga ++ wTs cI 24 ga gs) = A at hD hS ⊢
  have hl := lv_entry ([.ref nx]) (n := 1) (Nat.le_of_ble_eq_true rfl)
  rw [lg_entry_eq]
  generalize (lg_sl ([.ref nx]) ++ List.replicate (1 - (lg_sl ([.ref nx])).length) Slot.unset).toArray = ls at hl ⊢
  have hl : lv_has ls 1 [(0, .ref nx)] := hl
  refine lv_aload_n hx hb dX11_undo_0 rfl (lv_at hl 0 rfl) ?_
  refine va_get (D := D) (ci := 10) (v := .int (nI (ku))) (C := RX11) (T := TX11) (N := 11) hx hb hts u_X11_undo_X11 hown hK.1 hP 0 rfl rfl 6 (by decide) (hts (.fieldLink RX11 40 "NoticeWeek" "undoable" "I") (List.mem_of_getElem? (i := 1) rfl)) (fun _ h9 => h9) rfl dX11_undo_1 ?_
  refine lv_if_ne (tgt := 10) hx hb dX11_undo_4 (by decide) (fun c1 => ?_) (fun c1 => ?_)
  · have h1ku : 1 ≤ ku := by rcases Nat.eq_zero_or_pos ku with z | z; exact absurd (by rw [z]; rfl) c1; exact z
    refine lv_aload_n hx hb dX11_undo_10 rfl (lv_at hl 0 rfl) ?_
    refine lv_aload_n hx hb dX11_undo_11 rfl (lv_at hl 0 rfl) ?_
    refine va_get (D := D) (ci := 10) (v := .int (nI (kw))) (C := RX11) (T := TX11) (N := 11) hx hb hts u_X11_undo_X11 hown hK.1 hP 0 rfl rfl 7 (by decide) (hts (.fieldLink RX11 44 "NoticeWeek" "nextAct" "I") (List.mem_of_getElem? (i := 3) rfl)) (fun _ h9 => h9) rfl dX11_undo_12 ?_
    refine lv_bipush (v := (nI 24)) hx hb dX11_undo_15 (by decide) ?_
    refine b_add hx hb dX11_undo_17 ?_
    refine lv_iconst (v := (nI 1)) hx hb dX11_undo_18 (by decide) ?_
    refine b_sub hx hb (by omega) dX11_undo_19 ?_
    refine lv_bipush (v := 24) hx hb dX11_undo_20 (by decide) ?_
    refine lv_irem hx hb dX11_undo_22 (by decide) ?_
    rw [rem24 (by omega)]
    obtain ⟨kz, hkz, ekz⟩ : ∃ kz, kz ≤ 23 ∧ (kw + 24 - 1) % 24 = kz := ⟨_, by omega, rfl⟩
    rw [ekz]
    refine b_put (C := RX11) (T := TX11) (N := 11) hx hb hts u_X11_undo_X11 tyX11 tyX11_ok nmX11 hown hK hP hD hS 0 rfl rfl 7 (by decide) (hts (.fieldLink RX11 44 "NoticeWeek" "nextAct" "I") (List.mem_of_getElem? (i := 3) rfl)) rfl (by decide +kernel) (Nat.le_of_ble_eq_true rfl) dX11_undo_23 (fun H locs hP hS => ?_)
    have hP : va_P D vwCl (wNW nx ra pa ta da ia xa fa za (nI ku) (nI (kz)) fi ++ wTown cI ta st dy ln rd kd dd nt lf ++ wAr cT 24 xa ga ++ wTs cI 24 ga gs) H := hP
    have hD : va_D A (wNW nx ra pa ta da ia xa fa za (nI ku) (nI (kz)) fi ++ wTown cI ta st dy ln rd kd dd nt lf ++ wAr cT 24 xa ga ++ wTs cI 24 ga gs) := hD.sameA ([nx, (ta 0), (ta 1), (ta 2), (ta 3), (ta 4), xa] ++ (wTs cI 24 ga gs).map Prod.fst) rfl rfl
    refine lv_aload_n hx hb dX11_undo_26 rfl (lv_at hl 0 rfl) ?_
    refine lv_dup hx hb dX11_undo_27 rfl ?_
    refine va_get (D := D) (ci := 10) (v := .int (nI (ku))) (C := RX11) (T := TX11) (N := 11) hx hb hts u_X11_undo_X11 hown hK.1 hP 0 rfl rfl 6 (by decide) (hts (.fieldLink RX11 40 "NoticeWeek" "undoable" "I") (List.mem_of_getElem? (i := 1) rfl)) (fun _ h9 => h9) rfl dX11_undo_28 ?_
    refine lv_iconst (v := (nI 1)) hx hb dX11_undo_31 (by decide) ?_
    refine b_sub hx hb (by omega) dX11_undo_32 ?_
    refine b_put (C := RX11) (T := TX11) (N := 11) hx hb hts u_X11_undo_X11 tyX11 tyX11_ok nmX11 hown hK hP hD hS 0 rfl rfl 6 (by decide) (hts (.fieldLink RX11 40 "NoticeWeek" "undoable" "I") (List.mem_of_getElem? (i := 1) rfl)) rfl (by decide +kernel) (Nat.le_of_ble_eq_true rfl) dX11_undo_33 (fun H locs hP hS => ?_)
    have hP : va_P D vwCl (wNW nx ra pa ta da ia xa fa za (nI (ku - 1)) (nI (kz)) fi ++ wTown cI ta st dy ln rd kd dd nt lf ++ wAr cT 24 xa ga ++ wTs cI 24 ga gs) H := hP
    have hD : va_D A (wNW nx ra pa ta da ia xa fa za (nI (ku - 1)) (nI (kz)) fi ++ wTown cI ta st dy ln rd kd dd nt lf ++ wAr cT 24 xa ga ++ wTs cI 24 ga gs) := hD.sameA ([nx, (ta 0), (ta 1), (ta 2), (ta 3), (ta 4), xa] ++ (wTs cI 24 ga gs).map Prod.fst) rfl rfl
    refine lv_aload_n hx hb dX11_undo_36 rfl (lv_at hl 0 rfl) ?_
    refine va_get (D := D) (ci := 10) (v := .ref (ta 0)) (C := RX11) (T := TX11) (N := 11) hx hb hts u_X11_undo_X11 hown hK.1 hP 0 rfl rfl 2 (by decide) (hts (.fieldLink RX11 26 "NoticeWeek" "town" "LNoticeWeek$Town;") (List.mem_of_getElem? (i := 4) rfl)) (fun _ h9 => h9) rfl dX11_undo_37 ?_
    refine lv_aload_n hx hb dX11_undo_40 rfl (lv_at hl 0 rfl) ?_
    refine va_get (D := D) (ci := 10) (v := .ref xa) (C := RX11) (T := TX11) (N := 11) hx hb hts u_X11_undo_X11 hown hK.1 hP 0 rfl rfl 5 (by decide) (hts (.fieldLink RX11 37 "NoticeWeek" "acts" "[LNoticeWeek$Town;") (List.mem_of_getElem? (i := 5) rfl)) (fun _ h9 => h9) rfl dX11_undo_41 ?_
    refine lv_aload_n hx hb dX11_undo_44 rfl (lv_at hl 0 rfl) ?_
    refine va_get (D := D) (ci := 10) (v := .int (nI (kz))) (C := RX11) (T := TX11) (N := 11) hx hb hts u_X11_undo_X11 hown hK.1 hP 0 rfl rfl 7 (by decide) (hts (.fieldLink RX11 44 "NoticeWeek" "nextAct" "I") (List.mem_of_getElem? (i := 3) rfl)) (fun _ h9 => h9) rfl dX11_undo_45 ?_
    refine b_aald hx hb hK hP 6 rfl (by omega) (by decide) dX11_undo_48 ?_
    have r2 := r_two (y := (st, dy, ln, rd, kd, dd, nt, lf)) hP hD (show kz < 24 by omega) ((List.sublist_append_right _ _).trans (List.sublist_append_left _ _))
    refine b_ring2 (X1 := wNW nx ra pa ta da ia xa fa za (nI (ku - 1)) (nI (kz)) fi) (X2 := wAr cT 24 xa ga) (y' := kpT (gs kz) (st, dy, ln, rd, kd, dd, nt, lf)) (y := (st, dy, ln, rd, kd, dd, nt, lf)) (va_runV (As := [.ref (ga kz 0)]) (rest := []) ⟨hx, hb, hml, hown, hts⟩ (c_X8_become l D cI cZ cT ta st dy ln rd kd dd nt lf (ga kz) (gs kz).1 (gs kz).2.1 (gs kz).2.2.1 (gs kz).2.2.2.1 (gs kz).2.2.2.2.1 (gs kz).2.2.2.2.2.1 (gs kz).2.2.2.2.2.2.1 (gs kz).2.2.2.2.2.2.2 (hG kz hkz)) (cwV 1 hts gX11_undo_X8_become rfl rfl rfl (by decide +kernel) ⟨(Nat.le_of_ble_eq_true rfl), (Nat.le_of_ble_eq_true rfl)⟩) (r_pre (n := 0) (i := 0) (ga := ga) (x := (st, dy, ln, rd, kd, dd, nt, lf)) (y := gs kz) hK r2.2.1 r2.2.2.2) rfl rfl hl.1 rfl (lv_room (Nat.le_of_ble_eq_true rfl)) dX11_undo_49 ⟨Nat.zero_le _, Nat.zero_le _⟩).run hP hD hS (show kz < 24 by omega) (fun H locs hP hD hS => ?_)
    have hP : va_P D vwCl (wNW nx ra pa ta da ia xa fa za (nI (ku - 1)) (nI (kz)) fi ++ wTown cI ta ((gs kz).1) ((gs kz).2.1) ((gs kz).2.2.1) ((gs kz).2.2.2.1) (cp6 (gs kz).2.2.2.2.1 kd 6) (cp6 (gs kz).2.2.2.2.2.1 dd 6) (cp6 (gs kz).2.2.2.2.2.2.1 nt 6) (cp6 (gs kz).2.2.2.2.2.2.2 lf 6) ++ wAr cT 24 xa ga ++ wTs cI 24 ga gs) H := hP
    have hD : va_D A (wNW nx ra pa ta da ia xa fa za (nI (ku - 1)) (nI (kz)) fi ++ wTown cI ta ((gs kz).1) ((gs kz).2.1) ((gs kz).2.2.1) ((gs kz).2.2.2.1) (cp6 (gs kz).2.2.2.2.1 kd 6) (cp6 (gs kz).2.2.2.2.2.1 dd 6) (cp6 (gs kz).2.2.2.2.2.2.1 nt 6) (cp6 (gs kz).2.2.2.2.2.2.2 lf 6) ++ wAr cT 24 xa ga ++ wTs cI 24 ga gs) := hD
    refine lv_aload_n hx hb dX11_undo_52 rfl (lv_at hl 0 rfl) ?_
    refine va_get (D := D) (ci := 10) (v := .int (nI (ku - 1))) (C := RX11) (T := TX11) (N := 11) hx hb hts u_X11_undo_X11 hown hK.1 hP 0 rfl rfl 6 (by decide) (hts (.fieldLink RX11 40 "NoticeWeek" "undoable" "I") (List.mem_of_getElem? (i := 1) rfl)) (fun _ h9 => h9) rfl dX11_undo_53 ?_
    have E : x_undo ku kw gs (st, dy, ln, rd, kd, dd, nt, lf) = ((nI (ku - 1)), ku - 1, kz, ((gs kz).1, (gs kz).2.1, (gs kz).2.2.1, (gs kz).2.2.2.1, (cp6 (gs kz).2.2.2.2.1 kd 6), (cp6 (gs kz).2.2.2.2.2.1 dd 6), (cp6 (gs kz).2.2.2.2.2.2.1 nt 6), (cp6 (gs kz).2.2.2.2.2.2.2 lf 6))) := (by unfold x_undo; rw [if_neg c1, ekz])
    rw [E]
    exact b_retM hx hb hr hP hS rfl dX11_undo_56 hlocks
  · refine lv_ldc (v := (-1000002)) hx hb hown (hts (.constant RX11 141 (-1000002)) (List.mem_of_getElem? (i := 2) rfl)) dX11_undo_7 ?_
    have E : x_undo ku kw gs (st, dy, ln, rd, kd, dd, nt, lf) = ((-1000002), ku, kw, (st, dy, ln, rd, kd, dd, nt, lf)) := (by unfold x_undo; rw [if_pos c1])
    rw [E]
    exact b_retM hx hb hr hP hS rfl dX11_undo_9 hlocks
theorem u_X11_image_X11 : ∀ w ∈ wsX110, w ∈ wsX11_image := fun _ h => List.mem_cons_of_mem _ (List.mem_append_left _ (List.mem_append_right _ h))
theorem u_X11_image_X8 : ∀ w ∈ wsX80, w ∈ wsX11_image := fun _ h => List.mem_cons_of_mem _ (List.mem_append_right _ h)
set_option maxHeartbeats 4000000 in
set_option maxRecDepth 100000 in
theorem c_X11_image (l : Launch) (D : va_G) (cI cZ cT : ClassId) (nx : Nat) (ra pa ta da : Nat → Nat) (ia xa : Nat) (fa za : Nat → Nat) (un na fi st dy ln rd : Int32) (kd dd nt lf : Nat → Int32) (gb : Nat → Nat → Nat) (gi : Nat → TS) (k : Int32) (hst : st = 0 ∨ st = 1) : Met l yX11_image wsX11_image ({ frames := 1, cells := 0, slots := 0, locals := 22 }) (pM D cI cZ cT [.ref nx, .int k] (wNW nx ra pa ta da ia xa fa za un na fi ++ wTown cI ta st dy ln rd kd dd nt lf ++ wAr cT 2 ia gb ++ wTs cI 2 gb gi)) (qM D (some (.int ((x_image gi (st, dy, ln, rd, kd, dd, nt, lf) k).1))) (wNW nx ra pa ta da ia xa fa za un na fi ++ wTown cI ta st dy ln rd kd dd nt lf ++ wAr cT 2 ia gb ++ wTs cI 2 gb ((x_image gi (st, dy, ln, rd, kd, dd, nt, lf) k).2)) (adr (wNW nx ra pa ta da ia xa fa za un na fi ++ wTown cI ta st dy ln rd kd dd nt lf ++ wAr cT 2 ia gb ++ wTs cI 2 gb gi))) 0 0 (adr (wNW nx ra pa ta da ia xa fa za un na fi ++ wTown cI ta st dy ln rd kd dd nt lf ++ wAr cT 2 ia gb ++ wTs cI 2 gb gi)) := by
  refine Met.ofW (cc := cX11_image) (maxL := 2) (ret := (some .int)) (by decide) rfl ?_
  intro p e s m args below meth c s₁ B hml hv
  obtain ⟨rfl, hP, hD0, hK⟩ := hv
  have hx := B.exec
  have hb := B.bytes
  have hr := B.returns
  have hts := atoms_spec (ws := wsX11_image) B.pre
  have hown : s.vm.findClass RX11 = some m.cls := findClass_of_methodNamed B.named
  have hlocks := B.notSynchronized
  have hD := hD0.toAdr
  have hS : va_S (adr (wNW nx ra pa ta da ia xa fa za un na fi ++ wTown cI ta st dy ln rd kd dd nt lf ++ wAr cT 2 ia gb ++ wTs cI 2 gb gi)) s.heap s.heap [] := va_S.rf
  generalize adr (wNW nx ra pa ta da ia xa fa za un na fi ++ wTown cI ta st dy ln rd kd dd nt lf ++ wAr cT 2 ia gb ++ wTs cI 2 gb gi) = A at hD hS ⊢
  have hl := lv_entry ([.ref nx, .int k]) (n := 2) (Nat.le_of_ble_eq_true rfl)
  rw [lg_entry_eq]
  generalize (lg_sl ([.ref nx, .int k]) ++ List.replicate (2 - (lg_sl ([.ref nx, .int k])).length) Slot.unset).toArray = ls at hl ⊢
  have hl : lv_has ls 2 [(0, .ref nx), (1, .int k)] := hl
  refine lv_iload_n hx hb dX11_image_0 rfl (lv_at hl 1 rfl) ?_
  refine b_call (va_runS (As := [.int k]) (rest := []) ⟨hx, hb, hml, hown, hts⟩ (c_X11_isImage l D cI cZ cT k) (va_cwS 1 hts gX11_image_X11_isImage rfl rfl rfl (by decide +kernel) ⟨(Nat.le_of_ble_eq_true rfl), (Nat.le_of_ble_eq_true rfl)⟩) (b_pS0 hK) rfl rfl hl.1 rfl (lv_room (Nat.le_of_ble_eq_true rfl)) dX11_image_1 ⟨Nat.zero_le _, Nat.zero_le _⟩).run ?_
  refine b_ifne (tgt := 10) hx hb dX11_image_4 (by decide) (fun c1 => ?_) (fun c1 => ?_)
  · refine lv_aload_n hx hb dX11_image_10 rfl (lv_at hl 0 rfl) ?_
    refine va_get (D := D) (ci := 10) (v := .ref (ta 0)) (C := RX11) (T := TX11) (N := 11) hx hb hts u_X11_image_X11 hown hK.1 hP 0 rfl rfl 2 (by decide) (hts (.fieldLink RX11 26 "NoticeWeek" "town" "LNoticeWeek$Town;") (List.mem_of_getElem? (i := 2) rfl)) (fun _ h9 => h9) rfl dX11_image_11 ?_
    refine va_get (D := D) (ci := 7) (v := .int st) (C := RX8) (T := TX8) (N := 8) hx hb hts u_X11_image_X8 hown hK.1 hP 1 rfl rfl 0 (by decide) (hts (.fieldLink RX11 137 "NoticeWeek$Town" "stands" "Z") (List.mem_of_getElem? (i := 3) rfl)) (fun _ h9 => h9) rfl dX11_image_14 ?_
    refine lv_if_ne (tgt := 23) hx hb dX11_image_17 (by decide) (fun c2 => ?_) (fun c2 => ?_)
    · obtain ⟨kv, hh_kv, rfl⟩ : ∃ r : Nat, r ≤ 1 ∧ k = nI r := i_ltC 1 (by omega) c1.1 c1.2 rfl
      have hl : lv_has ls 2 [(0, .ref nx), (1, .int (nI (kv)))] := hl
      have htk : tn (nI kv) = kv := tn_nI hh_kv
      refine lv_aload_n hx hb dX11_image_23 rfl (lv_at hl 0 rfl) ?_
      refine va_get (D := D) (ci := 10) (v := .ref ia) (C := RX11) (T := TX11) (N := 11) hx hb hts u_X11_image_X11 hown hK.1 hP 0 rfl rfl 4 (by decide) (hts (.fieldLink RX11 33 "NoticeWeek" "images" "[LNoticeWeek$Town;") (List.mem_of_getElem? (i := 5) rfl)) (fun _ h9 => h9) rfl dX11_image_24 ?_
      refine lv_iload_n hx hb dX11_image_27 rfl (lv_at hl 1 rfl) ?_
      refine b_aald hx hb hK hP 6 rfl (by omega) (by decide) dX11_image_28 ?_
      refine lv_aload_n hx hb dX11_image_29 rfl (lv_at hl 0 rfl) ?_
      refine va_get (D := D) (ci := 10) (v := .ref (ta 0)) (C := RX11) (T := TX11) (N := 11) hx hb hts u_X11_image_X11 hown hK.1 hP 0 rfl rfl 2 (by decide) (hts (.fieldLink RX11 26 "NoticeWeek" "town" "LNoticeWeek$Town;") (List.mem_of_getElem? (i := 2) rfl)) (fun _ h9 => h9) rfl dX11_image_30 ?_
      have r2 := r_two (y := (st, dy, ln, rd, kd, dd, nt, lf)) hP hD (show kv < 2 by omega) ((List.sublist_append_right _ _).trans (List.sublist_append_left _ _))
      refine b_ring1 (x' := kpT (st, dy, ln, rd, kd, dd, nt, lf) (gi kv)) (y := (st, dy, ln, rd, kd, dd, nt, lf)) (va_runV (As := [.ref (ta 0)]) (rest := []) ⟨hx, hb, hml, hown, hts⟩ (c_X8_become l D cI cZ cT (gb kv) (gi kv).1 (gi kv).2.1 (gi kv).2.2.1 (gi kv).2.2.2.1 (gi kv).2.2.2.2.1 (gi kv).2.2.2.2.2.1 (gi kv).2.2.2.2.2.2.1 (gi kv).2.2.2.2.2.2.2 ta st dy ln rd kd dd nt lf hst) (cwV 1 hts gX11_image_X8_become rfl rfl rfl (by decide +kernel) ⟨(Nat.le_of_ble_eq_true rfl), (Nat.le_of_ble_eq_true rfl)⟩) (r_pre (n := 0) (i := 0) (ga := gb) (x := gi kv) (y := (st, dy, ln, rd, kd, dd, nt, lf)) hK r2.1 r2.2.2.1) rfl rfl hl.1 rfl (lv_room (Nat.le_of_ble_eq_true rfl)) dX11_image_33 ⟨Nat.zero_le _, Nat.zero_le _⟩).run hP hD hS (show kv < 2 by omega) ((List.sublist_append_right _ _).trans (List.sublist_append_left _ _)) (fun H locs hP hD hS => ?_)
      have hP : va_P D vwCl (wNW nx ra pa ta da ia xa fa za un na fi ++ wTown cI ta st dy ln rd kd dd nt lf ++ wAr cT 2 ia gb ++ wTs cI 2 gb (kpG gi kv (st, dy, ln, rd, kd, dd, nt, lf))) H := hP
      have hD : va_D A (wNW nx ra pa ta da ia xa fa za un na fi ++ wTown cI ta st dy ln rd kd dd nt lf ++ wAr cT 2 ia gb ++ wTs cI 2 gb (kpG gi kv (st, dy, ln, rd, kd, dd, nt, lf))) := hD
      refine lv_iconst (v := 1) hx hb dX11_image_36 (by decide) ?_
      have E : x_image gi (st, dy, ln, rd, kd, dd, nt, lf) (nI kv) = (1, (kpG gi kv (st, dy, ln, rd, kd, dd, nt, lf))) := (by first | (simp only [x_image, eq_true c1, eq_false c2, htk, bI, not_true_eq_false, not_false_eq_true, ite_true, ite_false, if_true, if_false, and_self, and_true, true_and, false_and, and_false, or_true, true_or, or_false, false_or, eq_self]; done) | (simp [x_image, eq_true c1, eq_false c2, htk, bI]; done))
      rw [E]
      exact b_retM hx hb hr hP hS rfl dX11_image_37 hlocks
    · refine lv_ldc (v := (-1000002)) hx hb hown (hts (.constant RX11 141 (-1000002)) (List.mem_of_getElem? (i := 4) rfl)) dX11_image_20 ?_
      have E : x_image gi (st, dy, ln, rd, kd, dd, nt, lf) k = ((-1000002), gi) := (by first | (simp only [x_image, eq_true c1, eq_true c2, bI, not_true_eq_false, not_false_eq_true, ite_true, ite_false, if_true, if_false, and_self, and_true, true_and, false_and, and_false, or_true, true_or, or_false, false_or, eq_self]; done) | (simp [x_image, eq_true c1, eq_true c2, bI]; done))
      rw [E]
      exact b_retM hx hb hr hP hS rfl dX11_image_22 hlocks
  · refine lv_ldc (v := (-1000001)) hx hb hown (hts (.constant RX11 71 (-1000001)) (List.mem_of_getElem? (i := 1) rfl)) dX11_image_7 ?_
    have E : x_image gi (st, dy, ln, rd, kd, dd, nt, lf) k = ((-1000001), gi) := (by first | (simp only [x_image, eq_false c1, bI, not_true_eq_false, not_false_eq_true, ite_true, ite_false, if_true, if_false, and_self, and_true, true_and, false_and, and_false, or_true, true_or, or_false, false_or, eq_self]; done) | (simp [x_image, eq_false c1, bI]; done))
    rw [E]
    exact b_retM hx hb hr hP hS rfl dX11_image_9 hlocks
theorem u_X11_restore_X11 : ∀ w ∈ wsX110, w ∈ wsX11_restore := fun _ h => List.mem_cons_of_mem _ (List.mem_append_left _ (List.mem_append_right _ h))
theorem u_X11_restore_X8 : ∀ w ∈ wsX80, w ∈ wsX11_restore := fun _ h => List.mem_cons_of_mem _ (List.mem_append_right _ h)
set_option maxHeartbeats 4000000 in
set_option maxRecDepth 100000 in
theorem c_X11_restore (l : Launch) (D : va_G) (cI cZ cT : ClassId) (nx : Nat) (ra pa ta da : Nat → Nat) (ia xa : Nat) (fa za : Nat → Nat) (un na fi st dy ln rd : Int32) (kd dd nt lf : Nat → Int32) (gb : Nat → Nat → Nat) (gi : Nat → TS) (k : Int32) (hG : ∀ k, k ≤ 1 → (gi k).1 = 0 ∨ (gi k).1 = 1) : Met l yX11_restore wsX11_restore ({ frames := 1, cells := 0, slots := 0, locals := 22 }) (pM D cI cZ cT [.ref nx, .int k] (wNW nx ra pa ta da ia xa fa za un na fi ++ wTown cI ta st dy ln rd kd dd nt lf ++ wAr cT 2 ia gb ++ wTs cI 2 gb gi)) (qM D (some (.int ((x_restore un gi (st, dy, ln, rd, kd, dd, nt, lf) k).1))) (wNW nx ra pa ta da ia xa fa za ((x_restore un gi (st, dy, ln, rd, kd, dd, nt, lf) k).2.1) na fi ++ wTown cI ta ((x_restore un gi (st, dy, ln, rd, kd, dd, nt, lf) k).2.2.1) ((x_restore un gi (st, dy, ln, rd, kd, dd, nt, lf) k).2.2.2.1) ((x_restore un gi (st, dy, ln, rd, kd, dd, nt, lf) k).2.2.2.2.1) ((x_restore un gi (st, dy, ln, rd, kd, dd, nt, lf) k).2.2.2.2.2.1) ((x_restore un gi (st, dy, ln, rd, kd, dd, nt, lf) k).2.2.2.2.2.2.1) ((x_restore un gi (st, dy, ln, rd, kd, dd, nt, lf) k).2.2.2.2.2.2.2.1) ((x_restore un gi (st, dy, ln, rd, kd, dd, nt, lf) k).2.2.2.2.2.2.2.2.1) ((x_restore un gi (st, dy, ln, rd, kd, dd, nt, lf) k).2.2.2.2.2.2.2.2.2) ++ wAr cT 2 ia gb ++ wTs cI 2 gb gi) (adr (wNW nx ra pa ta da ia xa fa za un na fi ++ wTown cI ta st dy ln rd kd dd nt lf ++ wAr cT 2 ia gb ++ wTs cI 2 gb gi))) 0 0 (adr (wNW nx ra pa ta da ia xa fa za un na fi ++ wTown cI ta st dy ln rd kd dd nt lf ++ wAr cT 2 ia gb ++ wTs cI 2 gb gi)) := by
  refine Met.ofW (cc := cX11_restore) (maxL := 2) (ret := (some .int)) (by decide) rfl ?_
  intro p e s m args below meth c s₁ B hml hv
  obtain ⟨rfl, hP, hD0, hK⟩ := hv
  have hx := B.exec
  have hb := B.bytes
  have hr := B.returns
  have hts := atoms_spec (ws := wsX11_restore) B.pre
  have hown : s.vm.findClass RX11 = some m.cls := findClass_of_methodNamed B.named
  have hlocks := B.notSynchronized
  have hD := hD0.toAdr
  have hS : va_S (adr (wNW nx ra pa ta da ia xa fa za un na fi ++ wTown cI ta st dy ln rd kd dd nt lf ++ wAr cT 2 ia gb ++ wTs cI 2 gb gi)) s.heap s.heap [] := va_S.rf
  generalize adr (wNW nx ra pa ta da ia xa fa za un na fi ++ wTown cI ta st dy ln rd kd dd nt lf ++ wAr cT 2 ia gb ++ wTs cI 2 gb gi) = A at hD hS ⊢
  have hl := lv_entry ([.ref nx, .int k]) (n := 2) (Nat.le_of_ble_eq_true rfl)
  rw [lg_entry_eq]
  generalize (lg_sl ([.ref nx, .int k]) ++ List.replicate (2 - (lg_sl ([.ref nx, .int k])).length) Slot.unset).toArray = ls at hl ⊢
  have hl : lv_has ls 2 [(0, .ref nx), (1, .int k)] := hl
  refine lv_iload_n hx hb dX11_restore_0 rfl (lv_at hl 1 rfl) ?_
  refine b_call (va_runS (As := [.int k]) (rest := []) ⟨hx, hb, hml, hown, hts⟩ (c_X11_isImage l D cI cZ cT k) (va_cwS 1 hts gX11_restore_X11_isImage rfl rfl rfl (by decide +kernel) ⟨(Nat.le_of_ble_eq_true rfl), (Nat.le_of_ble_eq_true rfl)⟩) (b_pS0 hK) rfl rfl hl.1 rfl (lv_room (Nat.le_of_ble_eq_true rfl)) dX11_restore_1 ⟨Nat.zero_le _, Nat.zero_le _⟩).run ?_
  refine b_ifne (tgt := 10) hx hb dX11_restore_4 (by decide) (fun c1 => ?_) (fun c1 => ?_)
  · obtain ⟨kv, hh_kv, rfl⟩ : ∃ r : Nat, r ≤ 1 ∧ k = nI r := i_ltC 1 (by omega) c1.1 c1.2 rfl
    have hl : lv_has ls 2 [(0, .ref nx), (1, .int (nI (kv)))] := hl
    have htk : tn (nI kv) = kv := tn_nI hh_kv
    refine lv_aload_n hx hb dX11_restore_10 rfl (lv_at hl 0 rfl) ?_
    refine va_get (D := D) (ci := 10) (v := .ref ia) (C := RX11) (T := TX11) (N := 11) hx hb hts u_X11_restore_X11 hown hK.1 hP 0 rfl rfl 4 (by decide) (hts (.fieldLink RX11 33 "NoticeWeek" "images" "[LNoticeWeek$Town;") (List.mem_of_getElem? (i := 2) rfl)) (fun _ h9 => h9) rfl dX11_restore_11 ?_
    refine lv_iload_n hx hb dX11_restore_14 rfl (lv_at hl 1 rfl) ?_
    refine b_aald hx hb hK hP 6 rfl (by omega) (by decide) dX11_restore_15 ?_
    have hPk : va_P D vwCl (wTn cI (gb kv) (gi kv)) _ := hP.memb (fun q h => List.mem_append_right _ ((wTn_sub (show kv < 2 by omega)).subset h))
    refine va_get (D := D) (ci := 7) (v := .int (gi kv).1) (C := RX8) (T := TX8) (N := 8) hx hb hts u_X11_restore_X8 hown hK.1 hPk 0 rfl rfl 0 (by decide) (hts (.fieldLink RX11 137 "NoticeWeek$Town" "stands" "Z") (List.mem_of_getElem? (i := 3) rfl)) (fun _ h9 => h9) rfl dX11_restore_16 ?_
    refine lv_if_ne (tgt := 25) hx hb dX11_restore_19 (by decide) (fun c2 => ?_) (fun c2 => ?_)
    · refine lv_aload_n hx hb dX11_restore_25 rfl (lv_at hl 0 rfl) ?_
      refine va_get (D := D) (ci := 10) (v := .ref (ta 0)) (C := RX11) (T := TX11) (N := 11) hx hb hts u_X11_restore_X11 hown hK.1 hP 0 rfl rfl 2 (by decide) (hts (.fieldLink RX11 26 "NoticeWeek" "town" "LNoticeWeek$Town;") (List.mem_of_getElem? (i := 5) rfl)) (fun _ h9 => h9) rfl dX11_restore_26 ?_
      refine lv_aload_n hx hb dX11_restore_29 rfl (lv_at hl 0 rfl) ?_
      refine va_get (D := D) (ci := 10) (v := .ref ia) (C := RX11) (T := TX11) (N := 11) hx hb hts u_X11_restore_X11 hown hK.1 hP 0 rfl rfl 4 (by decide) (hts (.fieldLink RX11 33 "NoticeWeek" "images" "[LNoticeWeek$Town;") (List.mem_of_getElem? (i := 2) rfl)) (fun _ h9 => h9) rfl dX11_restore_30 ?_
      refine lv_iload_n hx hb dX11_restore_33 rfl (lv_at hl 1 rfl) ?_
      refine b_aald hx hb hK hP 6 rfl (by omega) (by decide) dX11_restore_34 ?_
      have r2 := r_two (y := (st, dy, ln, rd, kd, dd, nt, lf)) hP hD (show kv < 2 by omega) ((List.sublist_append_right _ _).trans (List.sublist_append_left _ _))
      refine b_ring2 (X1 := wNW nx ra pa ta da ia xa fa za un na fi) (X2 := wAr cT 2 ia gb) (y' := kpT (gi kv) (st, dy, ln, rd, kd, dd, nt, lf)) (y := (st, dy, ln, rd, kd, dd, nt, lf)) (va_runV (As := [.ref (gb kv 0)]) (rest := []) ⟨hx, hb, hml, hown, hts⟩ (c_X8_become l D cI cZ cT ta st dy ln rd kd dd nt lf (gb kv) (gi kv).1 (gi kv).2.1 (gi kv).2.2.1 (gi kv).2.2.2.1 (gi kv).2.2.2.2.1 (gi kv).2.2.2.2.2.1 (gi kv).2.2.2.2.2.2.1 (gi kv).2.2.2.2.2.2.2 (hG kv hh_kv)) (cwV 1 hts gX11_restore_X8_become rfl rfl rfl (by decide +kernel) ⟨(Nat.le_of_ble_eq_true rfl), (Nat.le_of_ble_eq_true rfl)⟩) (r_pre (n := 0) (i := 0) (ga := gb) (x := (st, dy, ln, rd, kd, dd, nt, lf)) (y := gi kv) hK r2.2.1 r2.2.2.2) rfl rfl hl.1 rfl (lv_room (Nat.le_of_ble_eq_true rfl)) dX11_restore_35 ⟨Nat.zero_le _, Nat.zero_le _⟩).run hP hD hS (show kv < 2 by omega) (fun H locs hP hD hS => ?_)
      have hP : va_P D vwCl (wNW nx ra pa ta da ia xa fa za un na fi ++ wTown cI ta ((gi kv).1) ((gi kv).2.1) ((gi kv).2.2.1) ((gi kv).2.2.2.1) (cp6 (gi kv).2.2.2.2.1 kd 6) (cp6 (gi kv).2.2.2.2.2.1 dd 6) (cp6 (gi kv).2.2.2.2.2.2.1 nt 6) (cp6 (gi kv).2.2.2.2.2.2.2 lf 6) ++ wAr cT 2 ia gb ++ wTs cI 2 gb gi) H := hP
      have hD : va_D A (wNW nx ra pa ta da ia xa fa za un na fi ++ wTown cI ta ((gi kv).1) ((gi kv).2.1) ((gi kv).2.2.1) ((gi kv).2.2.2.1) (cp6 (gi kv).2.2.2.2.1 kd 6) (cp6 (gi kv).2.2.2.2.2.1 dd 6) (cp6 (gi kv).2.2.2.2.2.2.1 nt 6) (cp6 (gi kv).2.2.2.2.2.2.2 lf 6) ++ wAr cT 2 ia gb ++ wTs cI 2 gb gi) := hD
      refine lv_aload_n hx hb dX11_restore_38 rfl (lv_at hl 0 rfl) ?_
      refine b_callM [0] (va_runV (As := []) (rest := []) ⟨hx, hb, hml, hown, hts⟩ (c_X11_forgetActs l D cI cZ cT nx ra pa ta da ia xa fa za un na fi) (cwV 0 hts gX11_restore_X11_forgetActs rfl rfl rfl (by decide +kernel) ⟨(Nat.le_of_ble_eq_true rfl), (Nat.le_of_ble_eq_true rfl)⟩) (b_pVM hK hP hD [0] (by decide) rfl rfl 0 rfl rfl) rfl rfl hl.1 rfl (lv_room (Nat.le_of_ble_eq_true rfl)) dX11_restore_39 ⟨Nat.zero_le _, Nat.zero_le _⟩).run hP hD hS rfl (Nat.le_of_ble_eq_true rfl) (fun H locs hP hS => ?_)
      have hP : va_P D vwCl (wNW nx ra pa ta da ia xa fa za (nI 0) na fi ++ wTown cI ta ((gi kv).1) ((gi kv).2.1) ((gi kv).2.2.1) ((gi kv).2.2.2.1) (cp6 (gi kv).2.2.2.2.1 kd 6) (cp6 (gi kv).2.2.2.2.2.1 dd 6) (cp6 (gi kv).2.2.2.2.2.2.1 nt 6) (cp6 (gi kv).2.2.2.2.2.2.2 lf 6) ++ wAr cT 2 ia gb ++ wTs cI 2 gb gi) H := hP
      have hD : va_D A (wNW nx ra pa ta da ia xa fa za (nI 0) na fi ++ wTown cI ta ((gi kv).1) ((gi kv).2.1) ((gi kv).2.2.1) ((gi kv).2.2.2.1) (cp6 (gi kv).2.2.2.2.1 kd 6) (cp6 (gi kv).2.2.2.2.2.1 dd 6) (cp6 (gi kv).2.2.2.2.2.2.1 nt 6) (cp6 (gi kv).2.2.2.2.2.2.2 lf 6) ++ wAr cT 2 ia gb ++ wTs cI 2 gb gi) := hD.sameA ([nx, (ta 0), (ta 1), (ta 2), (ta 3), (ta 4), ia] ++ (wTs cI 2 gb gi).map Prod.fst) rfl rfl
      refine lv_iconst (v := 1) hx hb dX11_restore_42 (by decide) ?_
      have E : x_restore un gi (st, dy, ln, rd, kd, dd, nt, lf) (nI kv) = (1, (nI 0), ((gi kv).1, (gi kv).2.1, (gi kv).2.2.1, (gi kv).2.2.2.1, (cp6 (gi kv).2.2.2.2.1 kd 6), (cp6 (gi kv).2.2.2.2.2.1 dd 6), (cp6 (gi kv).2.2.2.2.2.2.1 nt 6), (cp6 (gi kv).2.2.2.2.2.2.2 lf 6))) := (by first | (simp only [x_restore, eq_true c1, eq_false c2, htk, bI, not_true_eq_false, not_false_eq_true, ite_true, ite_false, if_true, if_false, and_self, and_true, true_and, false_and, and_false, or_true, true_or, or_false, false_or, eq_self]; done) | (simp [x_restore, eq_true c1, eq_false c2, htk, bI]; done))
      rw [E]
      exact b_retM hx hb hr hP hS rfl dX11_restore_43 hlocks
    · refine lv_ldc (v := (-1000002)) hx hb hown (hts (.constant RX11 141 (-1000002)) (List.mem_of_getElem? (i := 4) rfl)) dX11_restore_22 ?_
      have E : x_restore un gi (st, dy, ln, rd, kd, dd, nt, lf) (nI kv) = ((-1000002), un, (st, dy, ln, rd, kd, dd, nt, lf)) := (by first | (simp only [x_restore, eq_true c1, eq_true c2, htk, bI, not_true_eq_false, not_false_eq_true, ite_true, ite_false, if_true, if_false, and_self, and_true, true_and, false_and, and_false, or_true, true_or, or_false, false_or, eq_self]; done) | (simp [x_restore, eq_true c1, eq_true c2, htk, bI]; done))
      rw [E]
      exact b_retM hx hb hr hP hS rfl dX11_restore_24 hlocks
  · refine lv_ldc (v := (-1000001)) hx hb hown (hts (.constant RX11 71 (-1000001)) (List.mem_of_getElem? (i := 1) rfl)) dX11_restore_7 ?_
    have E : x_restore un gi (st, dy, ln, rd, kd, dd, nt, lf) k = ((-1000001), un, (st, dy, ln, rd, kd, dd, nt, lf)) := (by first | (simp only [x_restore, eq_false c1, bI, not_true_eq_false, not_false_eq_true, ite_true, ite_false, if_true, if_false, and_self, and_true, true_and, false_and, and_false, or_true, true_or, or_false, false_or, eq_self]; done) | (simp [x_restore, eq_false c1, bI]; done))
    rw [E]
    exact b_retM hx hb hr hP hS rfl dX11_restore_9 hlocks
