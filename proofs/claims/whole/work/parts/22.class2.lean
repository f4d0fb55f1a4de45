/-! CLASS: the town, the tempers -/
def cp6 (f g : Nat → Int32) (k : Nat) : Nat → Int32 := itr (fun j g => upd g j (f j)) k g
def t_add (n : Nat) (kd dd nt lf : Nat → Int32) (a b x d : Int32) : Nat × (Nat → Int32) × (Nat → Int32) × (Nat → Int32) × (Nat → Int32) := if n < 6 then (n + 1, upd kd n a, upd dd n b, upd nt n x, upd lf n d) else (n, kd, dd, nt, lf)
def dbF (lf : Nat → Int32) (d : Int32) (k : Nat) : Int32 := itr (fun r x => if d < lf r then x else x ||| (1 <<< (nI r &&& 31))) k 0
def lvT (lf : Nat → Int32) (n : Nat) : Int32 := (((1 : Int32) <<< (nI n &&& 31)) - 1) &&& (dbF lf 0 n ^^^ (-1))
def tnF (dd nt : Nat → Int32) (k : Nat) : Int32 := itr (fun r x => if bc32 (dd r ^^^ nt r) = 0 then x + 1 else x) k 0
def lpF (nt : Nat → Int32) (s : Int32) (k : Nat) : Int32 := itr (fun r x => if ((s >>> (nI r &&& 31)) &&& 1) = 0 then x else x + bc32 (nt r)) k 0
def dpF (dd nt : Nat → Int32) (s : Int32) (k : Nat) : Int32 := itr (fun r x => if ((s >>> (nI r &&& 31)) &&& 1) = 0 then x else x + bc32 (nt r &&& dd r)) k 0
abbrev btP (dd nt : Nat → Int32) (n : Nat) (s b : Int32) : Prop := 0 < dpF dd nt s n - dpF dd nt b n ∨ (dpF dd nt s n - dpF dd nt b n = 0 ∧ ¬ bc32 b ≤ bc32 s)
def rpF (ln : Int32) (dd nt : Nat → Int32) (n : Nat) (k : Nat) : Int32 := itr (fun j b => if ¬ ln < lpF nt (nI (j + 1)) n ∧ btP dd nt n (nI (j + 1)) b then nI (j + 1) else b) k 0
abbrev lst (x : Int32) : Int32 := x &&& (-x)
abbrev tld (did nt : Int32) : Int32 := nt &&& (did ^^^ (-1))
abbrev oth (did nt : Int32) : Int32 := (63 &&& (nt ^^^ (-1))) &&& (did ^^^ (-1))
theorem u_X8_clear_X8 : ∀ w ∈ wsX80, w ∈ wsX8_clear := fun _ h => List.mem_cons_of_mem _ (List.mem_append_right _ h)
set_option maxHeartbeats 4000000 in
set_option maxRecDepth 100000 in
theorem c_X8_clear (l : Launch) (D : va_G) (cI cZ cT : ClassId) (ta : Nat → Nat) (st dy ln rd : Int32) (kd dd nt lf : Nat → Int32)  : Met l yX8_clear wsX8_clear ({ frames := 0, cells := 0, slots := 0, locals := 0 }) (pM D cI cZ cT [.ref (ta 0)] (wTown cI ta st dy ln rd kd dd nt lf)) (qM D none (wTown cI ta 0 0 0 (nI 0) kd dd nt lf) (adr (wTown cI ta st dy ln rd kd dd nt lf))) 0 0 (adr (wTown cI ta st dy ln rd kd dd nt lf)) := by
  refine Met.ofW (cc := cX8_clear) (maxL := 1) (ret := none) (by decide) rfl ?_
  intro p e s m args below meth c s₁ B hml hv
  obtain ⟨rfl, hP, hD0, hK⟩ := hv
  have hx := B.exec
  have hb := B.bytes
  have hr := B.returns
  have hts := atoms_spec (ws := wsX8_clear) B.pre
  have hown : s.vm.findClass RX8 = some m.cls := findClass_of_methodNamed B.named
  have hlocks := B.notSynchronized
  have hD := hD0.toAdr
  have hS : va_S (adr (wTown cI ta st dy ln rd kd dd nt lf)) s.heap s.heap [] := va_S.rf
  generalize adr (wTown cI ta st dy ln rd kd dd nt lf) = A at hD hS ⊢
  have hl := lv_entry ([.ref (ta 0)]) (n := 1) (Nat.le_of_ble_eq_true rfl)
  rw [lg_entry_eq]
  generalize (lg_sl ([.ref (ta 0)]) ++ List.replicate (1 - (lg_sl ([.ref (ta 0)])).length) Slot.unset).toArray = ls at hl ⊢
  have hl : lv_has ls 1 [(0, .ref (ta 0))] := hl
  refine lv_aload_n hx hb dX8_clear_0 rfl (lv_at hl 0 rfl) ?_
  refine lv_iconst (v := 0) hx hb dX8_clear_1 (by decide) ?_
  refine b_putZ (C := RX8) (T := TX8) (N := 8) hx hb hts u_X8_clear_X8 tyX8 tyX8_ok nmX8 hown hK hP hD hS 0 rfl rfl 0 (by decide) (hts (.fieldLink RX8 9 "NoticeWeek$Town" "stands" "Z") (List.mem_of_getElem? (i := 1) rfl)) rfl (by decide +kernel) ⟨rfl, rfl⟩ (Nat.le_of_ble_eq_true rfl) dX8_clear_2 (fun H locs hP hS => ?_)
  have hP : va_P D vwCl (wTown cI ta 0 dy ln rd kd dd nt lf) H := hP
  have hD : va_D A (wTown cI ta 0 dy ln rd kd dd nt lf) := hD.sameA [(ta 0), (ta 1), (ta 2), (ta 3), (ta 4)] rfl rfl
  refine lv_aload_n hx hb dX8_clear_5 rfl (lv_at hl 0 rfl) ?_
  refine lv_iconst (v := 0) hx hb dX8_clear_6 (by decide) ?_
  refine b_put (C := RX8) (T := TX8) (N := 8) hx hb hts u_X8_clear_X8 tyX8 tyX8_ok nmX8 hown hK hP hD hS 0 rfl rfl 1 (by decide) (hts (.fieldLink RX8 15 "NoticeWeek$Town" "day" "I") (List.mem_of_getElem? (i := 2) rfl)) rfl (by decide +kernel) (Nat.le_of_ble_eq_true rfl) dX8_clear_7 (fun H locs hP hS => ?_)
  have hP : va_P D vwCl (wTown cI ta 0 0 ln rd kd dd nt lf) H := hP
  have hD : va_D A (wTown cI ta 0 0 ln rd kd dd nt lf) := hD.sameA [(ta 0), (ta 1), (ta 2), (ta 3), (ta 4)] rfl rfl
  refine lv_aload_n hx hb dX8_clear_10 rfl (lv_at hl 0 rfl) ?_
  refine lv_iconst (v := 0) hx hb dX8_clear_11 (by decide) ?_
  refine b_put (C := RX8) (T := TX8) (N := 8) hx hb hts u_X8_clear_X8 tyX8 tyX8_ok nmX8 hown hK hP hD hS 0 rfl rfl 2 (by decide) (hts (.fieldLink RX8 19 "NoticeWeek$Town" "lines" "I") (List.mem_of_getElem? (i := 3) rfl)) rfl (by decide +kernel) (Nat.le_of_ble_eq_true rfl) dX8_clear_12 (fun H locs hP hS => ?_)
  have hP : va_P D vwCl (wTown cI ta 0 0 0 rd kd dd nt lf) H := hP
  have hD : va_D A (wTown cI ta 0 0 0 rd kd dd nt lf) := hD.sameA [(ta 0), (ta 1), (ta 2), (ta 3), (ta 4)] rfl rfl
  refine lv_aload_n hx hb dX8_clear_15 rfl (lv_at hl 0 rfl) ?_
  refine lv_iconst (v := (nI 0)) hx hb dX8_clear_16 (by decide) ?_
  refine b_put (C := RX8) (T := TX8) (N := 8) hx hb hts u_X8_clear_X8 tyX8 tyX8_ok nmX8 hown hK hP hD hS 0 rfl rfl 3 (by decide) (hts (.fieldLink RX8 22 "NoticeWeek$Town" "readers" "I") (List.mem_of_getElem? (i := 4) rfl)) rfl (by decide +kernel) (Nat.le_of_ble_eq_true rfl) dX8_clear_17 (fun H locs hP hS => ?_)
  have hP : va_P D vwCl (wTown cI ta 0 0 0 (nI 0) kd dd nt lf) H := hP
  have hD : va_D A (wTown cI ta 0 0 0 (nI 0) kd dd nt lf) := hD.sameA [(ta 0), (ta 1), (ta 2), (ta 3), (ta 4)] rfl rfl
  exact b_vretM hx hb hr hP hS dX8_clear_20 hlocks
theorem u_X8_add_X8 : ∀ w ∈ wsX80, w ∈ wsX8_add := fun _ h => List.mem_cons_of_mem _ (List.mem_append_right _ h)
set_option maxHeartbeats 4000000 in
set_option maxRecDepth 100000 in
theorem c_X8_add (l : Launch) (D : va_G) (cI cZ cT : ClassId) (ta : Nat → Nat) (st dy ln : Int32) (n : Nat) (kd dd nt lf : Nat → Int32) (a b x d : Int32) (hn : n ≤ 6) : Met l yX8_add wsX8_add ({ frames := 0, cells := 0, slots := 0, locals := 0 }) (pM D cI cZ cT [.ref (ta 0), .int a, .int b, .int x, .int d] (wTown cI ta st dy ln (nI n) kd dd nt lf)) (qM D none (wTown cI ta st dy ln (nI (t_add n kd dd nt lf a b x d).1) ((t_add n kd dd nt lf a b x d).2.1) ((t_add n kd dd nt lf a b x d).2.2.1) ((t_add n kd dd nt lf a b x d).2.2.2.1) ((t_add n kd dd nt lf a b x d).2.2.2.2)) (adr (wTown cI ta st dy ln (nI n) kd dd nt lf))) 0 0 (adr (wTown cI ta st dy ln (nI n) kd dd nt lf)) := by
  refine Met.ofW (cc := cX8_add) (maxL := 5) (ret := none) (by decide) rfl ?_
  intro p e s m args below meth c s₁ B hml hv
  obtain ⟨rfl, hP, hD0, hK⟩ := hv
  have hx := B.exec
  have hb := B.bytes
  have hr := B.returns
  have hts := atoms_spec (ws := wsX8_add) B.pre
  have hown : s.vm.findClass RX8 = some m.cls := findClass_of_methodNamed B.named
  have hlocks := B.notSynchronized
  have hD := hD0.toAdr
  have hS : va_S (adr (wTown cI ta st dy ln (nI n) kd dd nt lf)) s.heap s.heap [] := va_S.rf
  generalize adr (wTown cI ta st dy ln (nI n) kd dd nt lf) = A at hD hS ⊢
  have hl := lv_entry ([.ref (ta 0), .int a, .int b, .int x, .int d]) (n := 5) (Nat.le_of_ble_eq_true rfl)
  rw [lg_entry_eq]
  generalize (lg_sl ([.ref (ta 0), .int a, .int b, .int x, .int d]) ++ List.replicate (5 - (lg_sl ([.ref (ta 0), .int a, .int b, .int x, .int d])).length) Slot.unset).toArray = ls at hl ⊢
  have hl : lv_has ls 5 [(0, .ref (ta 0)), (1, .int a), (2, .int b), (3, .int x), (4, .int d)] := hl
  refine lv_aload_n hx hb dX8_add_0 rfl (lv_at hl 0 rfl) ?_
  refine va_get (D := D) (ci := 7) (v := .int (nI (n))) (C := RX8) (T := TX8) (N := 8) hx hb hts u_X8_add_X8 hown hK.1 hP 0 rfl rfl 3 (by decide) (hts (.fieldLink RX8 22 "NoticeWeek$Town" "readers" "I") (List.mem_of_getElem? (i := 1) rfl)) (fun _ h9 => h9) rfl dX8_add_1 ?_
  refine lv_bipush (v := (nI 6)) hx hb dX8_add_4 (by decide) ?_
  refine b_lt (tgt := 10) hx hb (by omega) (by omega) dX8_add_6 (by decide) (fun c1 => ?_) (fun c1 => ?_)
  · refine lv_aload_n hx hb dX8_add_10 rfl (lv_at hl 0 rfl) ?_
    refine va_get (D := D) (ci := 7) (v := .ref (ta 1)) (C := RX8) (T := TX8) (N := 8) hx hb hts u_X8_add_X8 hown hK.1 hP 0 rfl rfl 4 (by decide) (hts (.fieldLink RX8 25 "NoticeWeek$Town" "kind" "[I") (List.mem_of_getElem? (i := 2) rfl)) (fun _ h9 => h9) rfl dX8_add_11 ?_
    refine lv_aload_n hx hb dX8_add_14 rfl (lv_at hl 0 rfl) ?_
    refine va_get (D := D) (ci := 7) (v := .int (nI (n))) (C := RX8) (T := TX8) (N := 8) hx hb hts u_X8_add_X8 hown hK.1 hP 0 rfl rfl 3 (by decide) (hts (.fieldLink RX8 22 "NoticeWeek$Town" "readers" "I") (List.mem_of_getElem? (i := 1) rfl)) (fun _ h9 => h9) rfl dX8_add_15 ?_
    refine lv_iload_n hx hb dX8_add_18 rfl (lv_at hl 1 rfl) ?_
    refine b_ast hx hb hK hP hD hS 1 rfl (by omega) (by decide) dX8_add_19 (fun H locs hP hS => ?_)
    have hP : va_P D vwCl (wTown cI ta st dy ln (nI n) (upd kd n a) dd nt lf) H := hP
    have hD : va_D A (wTown cI ta st dy ln (nI n) (upd kd n a) dd nt lf) := hD.sameA [(ta 0), (ta 1), (ta 2), (ta 3), (ta 4)] rfl rfl
    refine lv_aload_n hx hb dX8_add_20 rfl (lv_at hl 0 rfl) ?_
    refine va_get (D := D) (ci := 7) (v := .ref (ta 2)) (C := RX8) (T := TX8) (N := 8) hx hb hts u_X8_add_X8 hown hK.1 hP 0 rfl rfl 5 (by decide) (hts (.fieldLink RX8 29 "NoticeWeek$Town" "did" "[I") (List.mem_of_getElem? (i := 3) rfl)) (fun _ h9 => h9) rfl dX8_add_21 ?_
    refine lv_aload_n hx hb dX8_add_24 rfl (lv_at hl 0 rfl) ?_
    refine va_get (D := D) (ci := 7) (v := .int (nI (n))) (C := RX8) (T := TX8) (N := 8) hx hb hts u_X8_add_X8 hown hK.1 hP 0 rfl rfl 3 (by decide) (hts (.fieldLink RX8 22 "NoticeWeek$Town" "readers" "I") (List.mem_of_getElem? (i := 1) rfl)) (fun _ h9 => h9) rfl dX8_add_25 ?_
    refine lv_iload_n hx hb dX8_add_28 rfl (lv_at hl 2 rfl) ?_
    refine b_ast hx hb hK hP hD hS 2 rfl (by omega) (by decide) dX8_add_29 (fun H locs hP hS => ?_)
    have hP : va_P D vwCl (wTown cI ta st dy ln (nI n) (upd kd n a) (upd dd n b) nt lf) H := hP
    have hD : va_D A (wTown cI ta st dy ln (nI n) (upd kd n a) (upd dd n b) nt lf) := hD.sameA [(ta 0), (ta 1), (ta 2), (ta 3), (ta 4)] rfl rfl
    refine lv_aload_n hx hb dX8_add_30 rfl (lv_at hl 0 rfl) ?_
    refine va_get (D := D) (ci := 7) (v := .ref (ta 3)) (C := RX8) (T := TX8) (N := 8) hx hb hts u_X8_add_X8 hown hK.1 hP 0 rfl rfl 6 (by decide) (hts (.fieldLink RX8 32 "NoticeWeek$Town" "notice" "[I") (List.mem_of_getElem? (i := 4) rfl)) (fun _ h9 => h9) rfl dX8_add_31 ?_
    refine lv_aload_n hx hb dX8_add_34 rfl (lv_at hl 0 rfl) ?_
    refine va_get (D := D) (ci := 7) (v := .int (nI (n))) (C := RX8) (T := TX8) (N := 8) hx hb hts u_X8_add_X8 hown hK.1 hP 0 rfl rfl 3 (by decide) (hts (.fieldLink RX8 22 "NoticeWeek$Town" "readers" "I") (List.mem_of_getElem? (i := 1) rfl)) (fun _ h9 => h9) rfl dX8_add_35 ?_
    refine lv_iload_n hx hb dX8_add_38 rfl (lv_at hl 3 rfl) ?_
    refine b_ast hx hb hK hP hD hS 3 rfl (by omega) (by decide) dX8_add_39 (fun H locs hP hS => ?_)
    have hP : va_P D vwCl (wTown cI ta st dy ln (nI n) (upd kd n a) (upd dd n b) (upd nt n x) lf) H := hP
    have hD : va_D A (wTown cI ta st dy ln (nI n) (upd kd n a) (upd dd n b) (upd nt n x) lf) := hD.sameA [(ta 0), (ta 1), (ta 2), (ta 3), (ta 4)] rfl rfl
    refine lv_aload_n hx hb dX8_add_40 rfl (lv_at hl 0 rfl) ?_
    refine va_get (D := D) (ci := 7) (v := .ref (ta 4)) (C := RX8) (T := TX8) (N := 8) hx hb hts u_X8_add_X8 hown hK.1 hP 0 rfl rfl 7 (by decide) (hts (.fieldLink RX8 35 "NoticeWeek$Town" "left" "[I") (List.mem_of_getElem? (i := 5) rfl)) (fun _ h9 => h9) rfl dX8_add_41 ?_
    refine lv_aload_n hx hb dX8_add_44 rfl (lv_at hl 0 rfl) ?_
    refine va_get (D := D) (ci := 7) (v := .int (nI (n))) (C := RX8) (T := TX8) (N := 8) hx hb hts u_X8_add_X8 hown hK.1 hP 0 rfl rfl 3 (by decide) (hts (.fieldLink RX8 22 "NoticeWeek$Town" "readers" "I") (List.mem_of_getElem? (i := 1) rfl)) (fun _ h9 => h9) rfl dX8_add_45 ?_
    refine lv_iload hx hb dX8_add_48 (lv_at hl 4 rfl) ?_
    refine b_ast hx hb hK hP hD hS 4 rfl (by omega) (by decide) dX8_add_50 (fun H locs hP hS => ?_)
    have hP : va_P D vwCl (wTown cI ta st dy ln (nI n) (upd kd n a) (upd dd n b) (upd nt n x) (upd lf n d)) H := hP
    have hD : va_D A (wTown cI ta st dy ln (nI n) (upd kd n a) (upd dd n b) (upd nt n x) (upd lf n d)) := hD.sameA [(ta 0), (ta 1), (ta 2), (ta 3), (ta 4)] rfl rfl
    refine lv_aload_n hx hb dX8_add_51 rfl (lv_at hl 0 rfl) ?_
    refine lv_dup hx hb dX8_add_52 rfl ?_
    refine va_get (D := D) (ci := 7) (v := .int (nI (n))) (C := RX8) (T := TX8) (N := 8) hx hb hts u_X8_add_X8 hown hK.1 hP 0 rfl rfl 3 (by decide) (hts (.fieldLink RX8 22 "NoticeWeek$Town" "readers" "I") (List.mem_of_getElem? (i := 1) rfl)) (fun _ h9 => h9) rfl dX8_add_53 ?_
    refine lv_iconst (v := (nI 1)) hx hb dX8_add_56 (by decide) ?_
    refine b_add hx hb dX8_add_57 ?_
    refine b_put (C := RX8) (T := TX8) (N := 8) hx hb hts u_X8_add_X8 tyX8 tyX8_ok nmX8 hown hK hP hD hS 0 rfl rfl 3 (by decide) (hts (.fieldLink RX8 22 "NoticeWeek$Town" "readers" "I") (List.mem_of_getElem? (i := 1) rfl)) rfl (by decide +kernel) (Nat.le_of_ble_eq_true rfl) dX8_add_58 (fun H locs hP hS => ?_)
    have hP : va_P D vwCl (wTown cI ta st dy ln (nI (n + 1)) (upd kd n a) (upd dd n b) (upd nt n x) (upd lf n d)) H := hP
    have hD : va_D A (wTown cI ta st dy ln (nI (n + 1)) (upd kd n a) (upd dd n b) (upd nt n x) (upd lf n d)) := hD.sameA [(ta 0), (ta 1), (ta 2), (ta 3), (ta 4)] rfl rfl
    have E : t_add n kd dd nt lf a b x d = (n + 1, (upd kd n a), (upd dd n b), (upd nt n x), (upd lf n d)) := (by unfold t_add; rw [if_pos c1])
    rw [E]
    exact b_vretM hx hb hr hP hS dX8_add_61 hlocks
  · have E : t_add n kd dd nt lf a b x d = (n, kd, dd, nt, lf) := (by unfold t_add; rw [if_neg (Nat.not_lt.mpr c1)])
    rw [E]
    exact b_vretM hx hb hr hP hS dX8_add_9 hlocks
theorem u_X8_become_X8 : ∀ w ∈ wsX80, w ∈ wsX8_become := fun _ h => List.mem_cons_of_mem _ (List.mem_append_right _ h)
set_option maxHeartbeats 4000000 in
set_option maxRecDepth 100000 in
theorem c_X8_become (l : Launch) (D : va_G) (cI cZ cT : ClassId) (ta : Nat → Nat) (st dy ln rd : Int32) (kd dd nt lf : Nat → Int32) (oa : Nat → Nat) (ost ody oln ord : Int32) (okd odd ont olf : Nat → Int32) (hst : ost = 0 ∨ ost = 1) : Met l yX8_become wsX8_become ({ frames := 0, cells := 0, slots := 0, locals := 0 }) (pM D cI cZ cT [.ref (ta 0), .ref (oa 0)] (wTown cI ta st dy ln rd kd dd nt lf ++ wTown cI oa ost ody oln ord okd odd ont olf)) (qM D none (wTown cI ta ost ody oln ord (cp6 okd kd 6) (cp6 odd dd 6) (cp6 ont nt 6) (cp6 olf lf 6) ++ wTown cI oa ost ody oln ord okd odd ont olf) (adr (wTown cI ta st dy ln rd kd dd nt lf ++ wTown cI oa ost ody oln ord okd odd ont olf))) 0 0 (adr (wTown cI ta st dy ln rd kd dd nt lf ++ wTown cI oa ost ody oln ord okd odd ont olf)) := by
  refine Met.ofW (cc := cX8_become) (maxL := 3) (ret := none) (by decide) rfl ?_
  intro p e s m args below meth c s₁ B hml hv
  obtain ⟨rfl, hP, hD0, hK⟩ := hv
  have hx := B.exec
  have hb := B.bytes
  have hr := B.returns
  have hts := atoms_spec (ws := wsX8_become) B.pre
  have hown : s.vm.findClass RX8 = some m.cls := findClass_of_methodNamed B.named
  have hlocks := B.notSynchronized
  have hD := hD0.toAdr
  have hS : va_S (adr (wTown cI ta st dy ln rd kd dd nt lf ++ wTown cI oa ost ody oln ord okd odd ont olf)) s.heap s.heap [] := va_S.rf
  generalize adr (wTown cI ta st dy ln rd kd dd nt lf ++ wTown cI oa ost ody oln ord okd odd ont olf) = A at hD hS ⊢
  have hl := lv_entry ([.ref (ta 0), .ref (oa 0)]) (n := 3) (Nat.le_of_ble_eq_true rfl)
  rw [lg_entry_eq]
  generalize (lg_sl ([.ref (ta 0), .ref (oa 0)]) ++ List.replicate (3 - (lg_sl ([.ref (ta 0), .ref (oa 0)])).length) Slot.unset).toArray = ls at hl ⊢
  have hl : lv_has ls 3 [(0, .ref (ta 0)), (1, .ref (oa 0))] := hl
  refine lv_aload_n hx hb dX8_become_0 rfl (lv_at hl 0 rfl) ?_
  refine lv_aload_n hx hb dX8_become_1 rfl (lv_at hl 1 rfl) ?_
  refine va_get (D := D) (ci := 7) (v := .int ost) (C := RX8) (T := TX8) (N := 8) hx hb hts u_X8_become_X8 hown hK.1 hP 5 rfl rfl 0 (by decide) (hts (.fieldLink RX8 9 "NoticeWeek$Town" "stands" "Z") (List.mem_of_getElem? (i := 1) rfl)) (fun _ h9 => h9) rfl dX8_become_2 ?_
  refine b_putZ (C := RX8) (T := TX8) (N := 8) hx hb hts u_X8_become_X8 tyX8 tyX8_ok nmX8 hown hK hP hD hS 0 rfl rfl 0 (by decide) (hts (.fieldLink RX8 9 "NoticeWeek$Town" "stands" "Z") (List.mem_of_getElem? (i := 1) rfl)) rfl (by decide +kernel) (z_ok hst) (Nat.le_of_ble_eq_true rfl) dX8_become_5 (fun H locs hP hS => ?_)
  have hP : va_P D vwCl (wTown cI ta ost dy ln rd kd dd nt lf ++ wTown cI oa ost ody oln ord okd odd ont olf) H := hP
  have hD : va_D A (wTown cI ta ost dy ln rd kd dd nt lf ++ wTown cI oa ost ody oln ord okd odd ont olf) := hD.sameA [(ta 0), (ta 1), (ta 2), (ta 3), (ta 4), (oa 0), (oa 1), (oa 2), (oa 3), (oa 4)] rfl rfl
  refine lv_aload_n hx hb dX8_become_8 rfl (lv_at hl 0 rfl) ?_
  refine lv_aload_n hx hb dX8_become_9 rfl (lv_at hl 1 rfl) ?_
  refine va_get (D := D) (ci := 7) (v := .int ody) (C := RX8) (T := TX8) (N := 8) hx hb hts u_X8_become_X8 hown hK.1 hP 5 rfl rfl 1 (by decide) (hts (.fieldLink RX8 15 "NoticeWeek$Town" "day" "I") (List.mem_of_getElem? (i := 2) rfl)) (fun _ h9 => h9) rfl dX8_become_10 ?_
  refine b_put (C := RX8) (T := TX8) (N := 8) hx hb hts u_X8_become_X8 tyX8 tyX8_ok nmX8 hown hK hP hD hS 0 rfl rfl 1 (by decide) (hts (.fieldLink RX8 15 "NoticeWeek$Town" "day" "I") (List.mem_of_getElem? (i := 2) rfl)) rfl (by decide +kernel) (Nat.le_of_ble_eq_true rfl) dX8_become_13 (fun H locs hP hS => ?_)
  have hP : va_P D vwCl (wTown cI ta ost ody ln rd kd dd nt lf ++ wTown cI oa ost ody oln ord okd odd ont olf) H := hP
  have hD : va_D A (wTown cI ta ost ody ln rd kd dd nt lf ++ wTown cI oa ost ody oln ord okd odd ont olf) := hD.sameA [(ta 0), (ta 1), (ta 2), (ta 3), (ta 4), (oa 0), (oa 1), (oa 2), (oa 3), (oa 4)] rfl rfl
  refine lv_aload_n hx hb dX8_become_16 rfl (lv_at hl 0 rfl) ?_
  refine lv_aload_n hx hb dX8_become_17 rfl (lv_at hl 1 rfl) ?_
  refine va_get (D := D) (ci := 7) (v := .int oln) (C := RX8) (T := TX8) (N := 8) hx hb hts u_X8_become_X8 hown hK.1 hP 5 rfl rfl 2 (by decide) (hts (.fieldLink RX8 19 "NoticeWeek$Town" "lines" "I") (List.mem_of_getElem? (i := 3) rfl)) (fun _ h9 => h9) rfl dX8_become_18 ?_
  refine b_put (C := RX8) (T := TX8) (N := 8) hx hb hts u_X8_become_X8 tyX8 tyX8_ok nmX8 hown hK hP hD hS 0 rfl rfl 2 (by decide) (hts (.fieldLink RX8 19 "NoticeWeek$Town" "lines" "I") (List.mem_of_getElem? (i := 3) rfl)) rfl (by decide +kernel) (Nat.le_of_ble_eq_true rfl) dX8_become_21 (fun H locs hP hS => ?_)
  have hP : va_P D vwCl (wTown cI ta ost ody oln rd kd dd nt lf ++ wTown cI oa ost ody oln ord okd odd ont olf) H := hP
  have hD : va_D A (wTown cI ta ost ody oln rd kd dd nt lf ++ wTown cI oa ost ody oln ord okd odd ont olf) := hD.sameA [(ta 0), (ta 1), (ta 2), (ta 3), (ta 4), (oa 0), (oa 1), (oa 2), (oa 3), (oa 4)] rfl rfl
  refine lv_aload_n hx hb dX8_become_24 rfl (lv_at hl 0 rfl) ?_
  refine lv_aload_n hx hb dX8_become_25 rfl (lv_at hl 1 rfl) ?_
  refine va_get (D := D) (ci := 7) (v := .int ord) (C := RX8) (T := TX8) (N := 8) hx hb hts u_X8_become_X8 hown hK.1 hP 5 rfl rfl 3 (by decide) (hts (.fieldLink RX8 22 "NoticeWeek$Town" "readers" "I") (List.mem_of_getElem? (i := 4) rfl)) (fun _ h9 => h9) rfl dX8_become_26 ?_
  refine b_put (C := RX8) (T := TX8) (N := 8) hx hb hts u_X8_become_X8 tyX8 tyX8_ok nmX8 hown hK hP hD hS 0 rfl rfl 3 (by decide) (hts (.fieldLink RX8 22 "NoticeWeek$Town" "readers" "I") (List.mem_of_getElem? (i := 4) rfl)) rfl (by decide +kernel) (Nat.le_of_ble_eq_true rfl) dX8_become_29 (fun H locs hP hS => ?_)
  have hP : va_P D vwCl (wTown cI ta ost ody oln ord kd dd nt lf ++ wTown cI oa ost ody oln ord okd odd ont olf) H := hP
  have hD : va_D A (wTown cI ta ost ody oln ord kd dd nt lf ++ wTown cI oa ost ody oln ord okd odd ont olf) := hD.sameA [(ta 0), (ta 1), (ta 2), (ta 3), (ta 4), (oa 0), (oa 1), (oa 2), (oa 3), (oa 4)] rfl rfl
  refine lv_iconst (v := (nI 0)) hx hb dX8_become_32 (by decide) ?_
  refine lv_istore_n (lv' := [(2, .int (nI 0)), (0, .ref (ta 0)), (1, .ref (oa 0))]) hx hb dX8_become_33 rfl hl (by decide) rfl (fun ls hl => ?_)
  refine b_loopM (N := 6) (I := fun k ls H locs => lv_has ls 3 [(2, .int (nI (k))), (0, .ref (ta 0)), (1, .ref (oa 0))] ∧ va_P D vwCl (wTown cI ta ost ody oln ord (cp6 okd kd k) (cp6 odd dd k) (cp6 ont nt k) (cp6 olf lf k) ++ wTown cI oa ost ody oln ord okd odd ont olf) H ∧ va_S A s.heap H locs) (fun k hk ih1 ls H locs hI => ?_) 0 (by omega) ⟨lv_sub hl [0, 1, 2] rfl, hP, hS⟩
  obtain ⟨hl, hP, hS⟩ := hI
  have hl : lv_has ls 3 [(2, .int (nI (k))), (0, .ref (ta 0)), (1, .ref (oa 0))] := hl
  have hP : va_P D vwCl (wTown cI ta ost ody oln ord (cp6 okd kd k) (cp6 odd dd k) (cp6 ont nt k) (cp6 olf lf k) ++ wTown cI oa ost ody oln ord okd odd ont olf) H := hP
  have hD : va_D A (wTown cI ta ost ody oln ord (cp6 okd kd k) (cp6 odd dd k) (cp6 ont nt k) (cp6 olf lf k) ++ wTown cI oa ost ody oln ord okd odd ont olf) := hD.sameA [(ta 0), (ta 1), (ta 2), (ta 3), (ta 4), (oa 0), (oa 1), (oa 2), (oa 3), (oa 4)] rfl rfl
  refine lv_iload_n hx hb dX8_become_34 rfl (lv_at hl 0 rfl) ?_
  refine lv_bipush (v := (nI 6)) hx hb dX8_become_35 (by decide) ?_
  refine b_ge (tgt := 94) hx hb (by omega) (by omega) dX8_become_37 (by decide) (fun c2 => ?_) (fun c2 => ?_)
  · have h_k : 6 = k := by omega
    subst h_k
    exact b_vretM hx hb hr hP hS dX8_become_94 hlocks
  · refine lv_aload_n hx hb dX8_become_40 rfl (lv_at hl 1 rfl) ?_
    refine va_get (D := D) (ci := 7) (v := .ref (ta 1)) (C := RX8) (T := TX8) (N := 8) hx hb hts u_X8_become_X8 hown hK.1 hP 0 rfl rfl 4 (by decide) (hts (.fieldLink RX8 25 "NoticeWeek$Town" "kind" "[I") (List.mem_of_getElem? (i := 5) rfl)) (fun _ h9 => h9) rfl dX8_become_41 ?_
    refine lv_iload_n hx hb dX8_become_44 rfl (lv_at hl 0 rfl) ?_
    refine lv_aload_n hx hb dX8_become_45 rfl (lv_at hl 2 rfl) ?_
    refine va_get (D := D) (ci := 7) (v := .ref (oa 1)) (C := RX8) (T := TX8) (N := 8) hx hb hts u_X8_become_X8 hown hK.1 hP 5 rfl rfl 4 (by decide) (hts (.fieldLink RX8 25 "NoticeWeek$Town" "kind" "[I") (List.mem_of_getElem? (i := 5) rfl)) (fun _ h9 => h9) rfl dX8_become_46 ?_
    refine lv_iload_n hx hb dX8_become_49 rfl (lv_at hl 0 rfl) ?_
    refine b_ald hx hb hK hP 6 rfl (by omega) (by decide) dX8_become_50 ?_
    refine b_ast hx hb hK hP hD hS 1 rfl (by omega) (by decide) dX8_become_51 (fun H locs hP hS => ?_)
    have hP : va_P D vwCl (wTown cI ta ost ody oln ord (upd (cp6 okd kd k) k (okd k)) (cp6 odd dd k) (cp6 ont nt k) (cp6 olf lf k) ++ wTown cI oa ost ody oln ord okd odd ont olf) H := hP
    have hD : va_D A (wTown cI ta ost ody oln ord (upd (cp6 okd kd k) k (okd k)) (cp6 odd dd k) (cp6 ont nt k) (cp6 olf lf k) ++ wTown cI oa ost ody oln ord okd odd ont olf) := hD.sameA [(ta 0), (ta 1), (ta 2), (ta 3), (ta 4), (oa 0), (oa 1), (oa 2), (oa 3), (oa 4)] rfl rfl
    refine lv_aload_n hx hb dX8_become_52 rfl (lv_at hl 1 rfl) ?_
    refine va_get (D := D) (ci := 7) (v := .ref (ta 2)) (C := RX8) (T := TX8) (N := 8) hx hb hts u_X8_become_X8 hown hK.1 hP 0 rfl rfl 5 (by decide) (hts (.fieldLink RX8 29 "NoticeWeek$Town" "did" "[I") (List.mem_of_getElem? (i := 6) rfl)) (fun _ h9 => h9) rfl dX8_become_53 ?_
    refine lv_iload_n hx hb dX8_become_56 rfl (lv_at hl 0 rfl) ?_
    refine lv_aload_n hx hb dX8_become_57 rfl (lv_at hl 2 rfl) ?_
    refine va_get (D := D) (ci := 7) (v := .ref (oa 2)) (C := RX8) (T := TX8) (N := 8) hx hb hts u_X8_become_X8 hown hK.1 hP 5 rfl rfl 5 (by decide) (hts (.fieldLink RX8 29 "NoticeWeek$Town" "did" "[I") (List.mem_of_getElem? (i := 6) rfl)) (fun _ h9 => h9) rfl dX8_become_58 ?_
    refine lv_iload_n hx hb dX8_become_61 rfl (lv_at hl 0 rfl) ?_
    refine b_ald hx hb hK hP 7 rfl (by omega) (by decide) dX8_become_62 ?_
    refine b_ast hx hb hK hP hD hS 2 rfl (by omega) (by decide) dX8_become_63 (fun H locs hP hS => ?_)
    have hP : va_P D vwCl (wTown cI ta ost ody oln ord (upd (cp6 okd kd k) k (okd k)) (upd (cp6 odd dd k) k (odd k)) (cp6 ont nt k) (cp6 olf lf k) ++ wTown cI oa ost ody oln ord okd odd ont olf) H := hP
    have hD : va_D A (wTown cI ta ost ody oln ord (upd (cp6 okd kd k) k (okd k)) (upd (cp6 odd dd k) k (odd k)) (cp6 ont nt k) (cp6 olf lf k) ++ wTown cI oa ost ody oln ord okd odd ont olf) := hD.sameA [(ta 0), (ta 1), (ta 2), (ta 3), (ta 4), (oa 0), (oa 1), (oa 2), (oa 3), (oa 4)] rfl rfl
    refine lv_aload_n hx hb dX8_become_64 rfl (lv_at hl 1 rfl) ?_
    refine va_get (D := D) (ci := 7) (v := .ref (ta 3)) (C := RX8) (T := TX8) (N := 8) hx hb hts u_X8_become_X8 hown hK.1 hP 0 rfl rfl 6 (by decide) (hts (.fieldLink RX8 32 "NoticeWeek$Town" "notice" "[I") (List.mem_of_getElem? (i := 7) rfl)) (fun _ h9 => h9) rfl dX8_become_65 ?_
    refine lv_iload_n hx hb dX8_become_68 rfl (lv_at hl 0 rfl) ?_
    refine lv_aload_n hx hb dX8_become_69 rfl (lv_at hl 2 rfl) ?_
    refine va_get (D := D) (ci := 7) (v := .ref (oa 3)) (C := RX8) (T := TX8) (N := 8) hx hb hts u_X8_become_X8 hown hK.1 hP 5 rfl rfl 6 (by decide) (hts (.fieldLink RX8 32 "NoticeWeek$Town" "notice" "[I") (List.mem_of_getElem? (i := 7) rfl)) (fun _ h9 => h9) rfl dX8_become_70 ?_
    refine lv_iload_n hx hb dX8_become_73 rfl (lv_at hl 0 rfl) ?_
    refine b_ald hx hb hK hP 8 rfl (by omega) (by decide) dX8_become_74 ?_
    refine b_ast hx hb hK hP hD hS 3 rfl (by omega) (by decide) dX8_become_75 (fun H locs hP hS => ?_)
    have hP : va_P D vwCl (wTown cI ta ost ody oln ord (upd (cp6 okd kd k) k (okd k)) (upd (cp6 odd dd k) k (odd k)) (upd (cp6 ont nt k) k (ont k)) (cp6 olf lf k) ++ wTown cI oa ost ody oln ord okd odd ont olf) H := hP
    have hD : va_D A (wTown cI ta ost ody oln ord (upd (cp6 okd kd k) k (okd k)) (upd (cp6 odd dd k) k (odd k)) (upd (cp6 ont nt k) k (ont k)) (cp6 olf lf k) ++ wTown cI oa ost ody oln ord okd odd ont olf) := hD.sameA [(ta 0), (ta 1), (ta 2), (ta 3), (ta 4), (oa 0), (oa 1), (oa 2), (oa 3), (oa 4)] rfl rfl
    refine lv_aload_n hx hb dX8_become_76 rfl (lv_at hl 1 rfl) ?_
    refine va_get (D := D) (ci := 7) (v := .ref (ta 4)) (C := RX8) (T := TX8) (N := 8) hx hb hts u_X8_become_X8 hown hK.1 hP 0 rfl rfl 7 (by decide) (hts (.fieldLink RX8 35 "NoticeWeek$Town" "left" "[I") (List.mem_of_getElem? (i := 8) rfl)) (fun _ h9 => h9) rfl dX8_become_77 ?_
    refine lv_iload_n hx hb dX8_become_80 rfl (lv_at hl 0 rfl) ?_
    refine lv_aload_n hx hb dX8_become_81 rfl (lv_at hl 2 rfl) ?_
    refine va_get (D := D) (ci := 7) (v := .ref (oa 4)) (C := RX8) (T := TX8) (N := 8) hx hb hts u_X8_become_X8 hown hK.1 hP 5 rfl rfl 7 (by decide) (hts (.fieldLink RX8 35 "NoticeWeek$Town" "left" "[I") (List.mem_of_getElem? (i := 8) rfl)) (fun _ h9 => h9) rfl dX8_become_82 ?_
    refine lv_iload_n hx hb dX8_become_85 rfl (lv_at hl 0 rfl) ?_
    refine b_ald hx hb hK hP 9 rfl (by omega) (by decide) dX8_become_86 ?_
    refine b_ast hx hb hK hP hD hS 4 rfl (by omega) (by decide) dX8_become_87 (fun H locs hP hS => ?_)
    have hP : va_P D vwCl (wTown cI ta ost ody oln ord (upd (cp6 okd kd k) k (okd k)) (upd (cp6 odd dd k) k (odd k)) (upd (cp6 ont nt k) k (ont k)) (upd (cp6 olf lf k) k (olf k)) ++ wTown cI oa ost ody oln ord okd odd ont olf) H := hP
    have hD : va_D A (wTown cI ta ost ody oln ord (upd (cp6 okd kd k) k (okd k)) (upd (cp6 odd dd k) k (odd k)) (upd (cp6 ont nt k) k (ont k)) (upd (cp6 olf lf k) k (olf k)) ++ wTown cI oa ost ody oln ord okd odd ont olf) := hD.sameA [(ta 0), (ta 1), (ta 2), (ta 3), (ta 4), (oa 0), (oa 1), (oa 2), (oa 3), (oa 4)] rfl rfl
    refine lv_iinc (v := (nI (k + 1))) (lv' := [(2, .int (nI (k + 1))), (0, .ref (ta 0)), (1, .ref (oa 0))]) hx hb dX8_become_88 hl (k := 0) rfl (nI_add _ _) (by decide) rfl (fun ls hl => ?_)
    refine lv_goto (tgt := 34) hx hb dX8_become_91 (by decide) ?_
    exact ih1 (by omega) ls H locs ⟨lv_sub hl [0, 1, 2] rfl, hP, hS⟩
theorem u_X8_has_X8 : ∀ w ∈ wsX80, w ∈ wsX8_has := fun _ h => List.mem_cons_of_mem _ (List.mem_append_right _ h)
set_option maxHeartbeats 4000000 in
set_option maxRecDepth 100000 in
theorem c_X8_has (l : Launch) (D : va_G) (cI cZ cT : ClassId) (ta : Nat → Nat) (st dy ln rd : Int32) (kd dd nt lf : Nat → Int32) (x : Int32)  : Met l yX8_has wsX8_has ({ frames := 0, cells := 0, slots := 0, locals := 0 }) (pR D cI cZ cT [.ref (ta 0), .int x] (wTown cI ta st dy ln rd kd dd nt lf)) (QcRead (bI (¬ x < 0 ∧ ¬ rd ≤ x))) 0 0 (fun _ => False) := by
  refine Met.ofW (cc := cX8_has) (maxL := 2) (ret := (some .boolean)) (by decide) rfl ?_
  intro p e s m args below meth c s₁ B hml hv
  obtain ⟨rfl, hP, hK⟩ := hv
  have hx := B.exec
  have hb := B.bytes
  have hr := B.returns
  have hts := atoms_spec (ws := wsX8_has) B.pre
  have hown : s.vm.findClass RX8 = some m.cls := findClass_of_methodNamed B.named
  have hlocks := B.notSynchronized
  have hl := lv_entry ([.ref (ta 0), .int x]) (n := 2) (Nat.le_of_ble_eq_true rfl)
  rw [lg_entry_eq]
  generalize (lg_sl ([.ref (ta 0), .int x]) ++ List.replicate (2 - (lg_sl ([.ref (ta 0), .int x])).length) Slot.unset).toArray = ls at hl ⊢
  have hl : lv_has ls 2 [(0, .ref (ta 0)), (1, .int x)] := hl
  refine lv_iload_n hx hb dX8_has_0 rfl (lv_at hl 1 rfl) ?_
  refine lv_if_lt (tgt := 16) hx hb dX8_has_1 (by decide) (fun c1 => ?_) (fun c1 => ?_)
  · refine lv_iconst (v := 0) hx hb dX8_has_16 (by decide) ?_
    exact b_zret hx hb hr (by first | with_reducible rfl | (simp only [bI, eq_true c1, not_true_eq_false, not_false_eq_true, ite_true, ite_false, if_true, if_false, and_self, and_true, true_and, false_and, and_false, or_true, true_or, or_false, false_or]; done) | (simp [bI, eq_true c1]; done) | omega) dX8_has_17 hlocks
  · refine lv_iload_n hx hb dX8_has_4 rfl (lv_at hl 1 rfl) ?_
    refine lv_aload_n hx hb dX8_has_5 rfl (lv_at hl 0 rfl) ?_
    refine va_get (D := D) (ci := 7) (v := .int rd) (C := RX8) (T := TX8) (N := 8) hx hb hts u_X8_has_X8 hown hK.1 hP 0 rfl rfl 3 (by decide) (hts (.fieldLink RX8 22 "NoticeWeek$Town" "readers" "I") (List.mem_of_getElem? (i := 1) rfl)) (fun _ h9 => h9) rfl dX8_has_6 ?_
    refine lv_icmp_ge (tgt := 16) hx hb dX8_has_9 (by decide) (fun c2 => ?_) (fun c2 => ?_)
    · refine lv_iconst (v := 0) hx hb dX8_has_16 (by decide) ?_
      exact b_zret hx hb hr (by first | with_reducible rfl | (simp only [bI, eq_false c1, eq_true c2, not_true_eq_false, not_false_eq_true, ite_true, ite_false, if_true, if_false, and_self, and_true, true_and, false_and, and_false, or_true, true_or, or_false, false_or]; done) | (simp [bI, eq_false c1, eq_true c2]; done) | omega) dX8_has_17 hlocks
    · refine lv_iconst (v := 1) hx hb dX8_has_12 (by decide) ?_
      refine lv_goto (tgt := 17) hx hb dX8_has_13 (by decide) ?_
      exact b_zret hx hb hr (by first | with_reducible rfl | (simp only [bI, eq_false c1, eq_false c2, not_true_eq_false, not_false_eq_true, ite_true, ite_false, if_true, if_false, and_self, and_true, true_and, false_and, and_false, or_true, true_or, or_false, false_or]; done) | (simp [bI, eq_false c1, eq_false c2]; done) | omega) dX8_has_17 hlocks
theorem u_X8_lives_X8 : ∀ w ∈ wsX80, w ∈ wsX8_lives := fun _ h => List.mem_cons_of_mem _ (List.mem_append_right _ h)
set_option maxHeartbeats 4000000 in
set_option maxRecDepth 100000 in
theorem c_X8_lives (l : Launch) (D : va_G) (cI cZ cT : ClassId) (ta : Nat → Nat) (st dy ln rd : Int32) (kd dd nt lf : Nat → Int32) (r : Nat) (hr_ : r ≤ 5) : Met l yX8_lives wsX8_lives ({ frames := 0, cells := 0, slots := 0, locals := 0 }) (pR D cI cZ cT [.ref (ta 0), .int (nI (r))] (wTown cI ta st dy ln rd kd dd nt lf)) (QcRead (bI (¬ lf r ≤ 0))) 0 0 (fun _ => False) := by
  refine Met.ofW (cc := cX8_lives) (maxL := 2) (ret := (some .boolean)) (by decide) rfl ?_
  intro p e s m args below meth c s₁ B hml hv
  obtain ⟨rfl, hP, hK⟩ := hv
  have hx := B.exec
  have hb := B.bytes
  have hr := B.returns
  have hts := atoms_spec (ws := wsX8_lives) B.pre
  have hown : s.vm.findClass RX8 = some m.cls := findClass_of_methodNamed B.named
  have hlocks := B.notSynchronized
  have hl := lv_entry ([.ref (ta 0), .int (nI (r))]) (n := 2) (Nat.le_of_ble_eq_true rfl)
  rw [lg_entry_eq]
  generalize (lg_sl ([.ref (ta 0), .int (nI (r))]) ++ List.replicate (2 - (lg_sl ([.ref (ta 0), .int (nI (r))])).length) Slot.unset).toArray = ls at hl ⊢
  have hl : lv_has ls 2 [(0, .ref (ta 0)), (1, .int (nI (r)))] := hl
  refine lv_aload_n hx hb dX8_lives_0 rfl (lv_at hl 0 rfl) ?_
  refine va_get (D := D) (ci := 7) (v := .ref (ta 4)) (C := RX8) (T := TX8) (N := 8) hx hb hts u_X8_lives_X8 hown hK.1 hP 0 rfl rfl 7 (by decide) (hts (.fieldLink RX8 35 "NoticeWeek$Town" "left" "[I") (List.mem_of_getElem? (i := 1) rfl)) (fun _ h9 => h9) rfl dX8_lives_1 ?_
  refine lv_iload_n hx hb dX8_lives_4 rfl (lv_at hl 1 rfl) ?_
  refine b_ald hx hb hK hP 4 rfl (by omega) (by decide) dX8_lives_5 ?_
  refine lv_if_le (tgt := 13) hx hb dX8_lives_6 (by decide) (fun c1 => ?_) (fun c1 => ?_)
  · refine lv_iconst (v := 0) hx hb dX8_lives_13 (by decide) ?_
    exact b_zret hx hb hr (by first | with_reducible rfl | (simp only [bI, eq_true c1, not_true_eq_false, not_false_eq_true, ite_true, ite_false, if_true, if_false, and_self, and_true, true_and, false_and, and_false, or_true, true_or, or_false, false_or]; done) | (simp [bI, eq_true c1]; done) | omega) dX8_lives_14 hlocks
  · refine lv_iconst (v := 1) hx hb dX8_lives_9 (by decide) ?_
    refine lv_goto (tgt := 14) hx hb dX8_lives_10 (by decide) ?_
    exact b_zret hx hb hr (by first | with_reducible rfl | (simp only [bI, eq_false c1, not_true_eq_false, not_false_eq_true, ite_true, ite_false, if_true, if_false, and_self, and_true, true_and, false_and, and_false, or_true, true_or, or_false, false_or]; done) | (simp [bI, eq_false c1]; done) | omega) dX8_lives_14 hlocks
theorem u_X8_deadBehind_X8 : ∀ w ∈ wsX80, w ∈ wsX8_deadBehind := fun _ h => List.mem_cons_of_mem _ (List.mem_append_right _ h)
set_option maxHeartbeats 4000000 in
set_option maxRecDepth 100000 in
theorem c_X8_deadBehind (l : Launch) (D : va_G) (cI cZ cT : ClassId) (ta : Nat → Nat) (st dy ln : Int32) (n : Nat) (kd dd nt lf : Nat → Int32) (d : Int32) (hn : n ≤ 6) : Met l yX8_deadBehind wsX8_deadBehind ({ frames := 0, cells := 0, slots := 0, locals := 0 }) (pR D cI cZ cT [.ref (ta 0), .int d] (wTown cI ta st dy ln (nI n) kd dd nt lf)) (QcRead (dbF lf d n)) 0 0 (fun _ => False) := by
  refine Met.ofW (cc := cX8_deadBehind) (maxL := 4) (ret := (some .int)) (by decide) rfl ?_
  intro p e s m args below meth c s₁ B hml hv
  obtain ⟨rfl, hP, hK⟩ := hv
  have hx := B.exec
  have hb := B.bytes
  have hr := B.returns
  have hts := atoms_spec (ws := wsX8_deadBehind) B.pre
  have hown : s.vm.findClass RX8 = some m.cls := findClass_of_methodNamed B.named
  have hlocks := B.notSynchronized
  have hl := lv_entry ([.ref (ta 0), .int d]) (n := 4) (Nat.le_of_ble_eq_true rfl)
  rw [lg_entry_eq]
  generalize (lg_sl ([.ref (ta 0), .int d]) ++ List.replicate (4 - (lg_sl ([.ref (ta 0), .int d])).length) Slot.unset).toArray = ls at hl ⊢
  have hl : lv_has ls 4 [(0, .ref (ta 0)), (1, .int d)] := hl
  refine lv_iconst (v := 0) hx hb dX8_deadBehind_0 (by decide) ?_
  refine lv_istore_n (lv' := [(2, .int 0), (0, .ref (ta 0)), (1, .int d)]) hx hb dX8_deadBehind_1 rfl hl (by decide) rfl (fun ls hl => ?_)
  refine lv_iconst (v := (nI 0)) hx hb dX8_deadBehind_2 (by decide) ?_
  refine lv_istore_n (lv' := [(3, .int (nI 0)), (2, .int 0), (0, .ref (ta 0)), (1, .int d)]) hx hb dX8_deadBehind_3 rfl hl (by decide) rfl (fun ls hl => ?_)
  refine b_loopR (N := n) (I := fun k ls => lv_has ls 4 [(3, .int (nI (k))), (2, .int (dbF lf d k)), (0, .ref (ta 0)), (1, .int d)]) (fun k hk ih1 ls hI => ?_) 0 (by omega) (lv_sub hl [0, 1, 2, 3] rfl)
  have hl := hI
  have hl : lv_has ls 4 [(3, .int (nI (k))), (2, .int (dbF lf d k)), (0, .ref (ta 0)), (1, .int d)] := hl
  refine lv_iload_n hx hb dX8_deadBehind_4 rfl (lv_at hl 0 rfl) ?_
  refine lv_aload_n hx hb dX8_deadBehind_5 rfl (lv_at hl 2 rfl) ?_
  refine va_get (D := D) (ci := 7) (v := .int (nI (n))) (C := RX8) (T := TX8) (N := 8) hx hb hts u_X8_deadBehind_X8 hown hK.1 hP 0 rfl rfl 3 (by decide) (hts (.fieldLink RX8 22 "NoticeWeek$Town" "readers" "I") (List.mem_of_getElem? (i := 1) rfl)) (fun _ h9 => h9) rfl dX8_deadBehind_6 ?_
  refine b_ge (tgt := 34) hx hb (by omega) (by omega) dX8_deadBehind_9 (by decide) (fun c2 => ?_) (fun c2 => ?_)
  · have h_k : n = k := by omega
    subst h_k
    refine lv_iload_n hx hb dX8_deadBehind_34 rfl (lv_at hl 1 rfl) ?_
    exact b_ret hx hb hr rfl dX8_deadBehind_35 hlocks
  · refine lv_aload_n hx hb dX8_deadBehind_12 rfl (lv_at hl 2 rfl) ?_
    refine va_get (D := D) (ci := 7) (v := .ref (ta 4)) (C := RX8) (T := TX8) (N := 8) hx hb hts u_X8_deadBehind_X8 hown hK.1 hP 0 rfl rfl 7 (by decide) (hts (.fieldLink RX8 35 "NoticeWeek$Town" "left" "[I") (List.mem_of_getElem? (i := 2) rfl)) (fun _ h9 => h9) rfl dX8_deadBehind_13 ?_
    refine lv_iload_n hx hb dX8_deadBehind_16 rfl (lv_at hl 0 rfl) ?_
    refine b_ald hx hb hK hP 4 rfl (by omega) (by decide) dX8_deadBehind_17 ?_
    refine lv_iload_n hx hb dX8_deadBehind_18 rfl (lv_at hl 3 rfl) ?_
    refine lv_icmp_gt (tgt := 28) hx hb dX8_deadBehind_19 (by decide) (fun c3 => ?_) (fun c3 => ?_)
    · refine lv_iinc (v := (nI (k + 1))) (lv' := [(3, .int (nI (k + 1))), (2, .int (dbF lf d k)), (0, .ref (ta 0)), (1, .int d)]) hx hb dX8_deadBehind_28 hl (k := 0) rfl (nI_add _ _) (by decide) rfl (fun ls hl => ?_)
      refine lv_goto (tgt := 4) hx hb dX8_deadBehind_31 (by decide) ?_
      have st4 : (dbF lf d k) = (dbF lf d (k + 1)) := (by show _ = (if d < lf k then _ else _); rw [if_pos c3]; rfl)
      rw [st4] at hl
      exact ih1 (by omega) ls (lv_sub hl [0, 1, 2, 3] rfl)
    · refine lv_iload_n hx hb dX8_deadBehind_22 rfl (lv_at hl 1 rfl) ?_
      refine lv_iconst (v := 1) hx hb dX8_deadBehind_23 (by decide) ?_
      refine lv_iload_n hx hb dX8_deadBehind_24 rfl (lv_at hl 0 rfl) ?_
      refine lv_ishl hx hb dX8_deadBehind_25 ?_
      refine lv_ior hx hb dX8_deadBehind_26 ?_
      refine lv_topi (fun x5 ex5 => ?_)
      refine lv_istore_n (lv' := [(2, .int x5), (3, .int (nI (k))), (0, .ref (ta 0)), (1, .int d)]) hx hb dX8_deadBehind_27 rfl hl (by decide) rfl (fun ls hl => ?_)
      refine lv_iinc (v := (nI (k + 1))) (lv' := [(3, .int (nI (k + 1))), (2, .int x5), (0, .ref (ta 0)), (1, .int d)]) hx hb dX8_deadBehind_28 hl (k := 1) rfl (nI_add _ _) (by decide) rfl (fun ls hl => ?_)
      refine lv_goto (tgt := 4) hx hb dX8_deadBehind_31 (by decide) ?_
      have st6 : x5 = (dbF lf d (k + 1)) := (by rw [ex5]; show _ = (if d < lf k then _ else _); rw [if_neg c3]; rfl)
      rw [st6] at hl
      exact ih1 (by omega) ls (lv_sub hl [0, 1, 2, 3] rfl)
theorem u_X8_living_X8 : ∀ w ∈ wsX80, w ∈ wsX8_living := fun _ h => List.mem_cons_of_mem _ (List.mem_append_right _ h)
set_option maxHeartbeats 4000000 in
set_option maxRecDepth 100000 in
theorem c_X8_living (l : Launch) (D : va_G) (cI cZ cT : ClassId) (ta : Nat → Nat) (st dy ln : Int32) (n : Nat) (kd dd nt lf : Nat → Int32) (hn : n ≤ 6) : Met l yX8_living wsX8_living ({ frames := 1, cells := 0, slots := 0, locals := 23 }) (pR D cI cZ cT [.ref (ta 0)] (wTown cI ta st dy ln (nI n) kd dd nt lf)) (QcRead (lvT lf n)) 0 0 (fun _ => False) := by
  refine Met.ofW (cc := cX8_living) (maxL := 1) (ret := (some .int)) (by decide) rfl ?_
  intro p e s m args below meth c s₁ B hml hv
  obtain ⟨rfl, hP, hK⟩ := hv
  have hx := B.exec
  have hb := B.bytes
  have hr := B.returns
  have hts := atoms_spec (ws := wsX8_living) B.pre
  have hown : s.vm.findClass RX8 = some m.cls := findClass_of_methodNamed B.named
  have hlocks := B.notSynchronized
  have hl := lv_entry ([.ref (ta 0)]) (n := 1) (Nat.le_of_ble_eq_true rfl)
  rw [lg_entry_eq]
  generalize (lg_sl ([.ref (ta 0)]) ++ List.replicate (1 - (lg_sl ([.ref (ta 0)])).length) Slot.unset).toArray = ls at hl ⊢
  have hl : lv_has ls 1 [(0, .ref (ta 0))] := hl
  refine lv_iconst (v := 1) hx hb dX8_living_0 (by decide) ?_
  refine lv_aload_n hx hb dX8_living_1 rfl (lv_at hl 0 rfl) ?_
  refine va_get (D := D) (ci := 7) (v := .int (nI (n))) (C := RX8) (T := TX8) (N := 8) hx hb hts u_X8_living_X8 hown hK.1 hP 0 rfl rfl 3 (by decide) (hts (.fieldLink RX8 22 "NoticeWeek$Town" "readers" "I") (List.mem_of_getElem? (i := 1) rfl)) (fun _ h9 => h9) rfl dX8_living_2 ?_
  refine lv_ishl hx hb dX8_living_5 ?_
  refine lv_iconst (v := 1) hx hb dX8_living_6 (by decide) ?_
  refine lv_isub hx hb dX8_living_7 ?_
  refine lv_aload_n hx hb dX8_living_8 rfl (lv_at hl 0 rfl) ?_
  refine lv_iconst (v := 0) hx hb dX8_living_9 (by decide) ?_
  refine b_call (va_runV (As := [.int 0]) (rest := [.int ((1 <<< ((nI (n)) &&& 31)) - 1)]) ⟨hx, hb, hml, hown, hts⟩ (c_X8_deadBehind l D cI cZ cT ta st dy ln n kd dd nt lf 0 hn) (cwV 1 hts gX8_living_X8_deadBehind rfl rfl rfl (by decide +kernel) ⟨(Nat.le_of_ble_eq_true rfl), (Nat.le_of_ble_eq_true rfl)⟩) (b_pV hK hP [0, 1, 2, 3, 4] rfl 0 rfl rfl) rfl rfl hl.1 rfl (lv_room (Nat.le_of_ble_eq_true rfl)) dX8_living_10 ⟨Nat.zero_le _, Nat.zero_le _⟩).run ?_
  refine lv_iconst (v := (-1)) hx hb dX8_living_13 (by decide) ?_
  refine lv_ixor hx hb dX8_living_14 ?_
  refine lv_iand hx hb dX8_living_15 ?_
  exact b_ret hx hb hr rfl dX8_living_16 hlocks
theorem u_X8_falseLinesNow_X8 : ∀ w ∈ wsX80, w ∈ wsX8_falseLinesNow := fun _ h => List.mem_cons_of_mem _ (List.mem_append_right _ h)
set_option maxHeartbeats 4000000 in
set_option maxRecDepth 100000 in
theorem c_X8_falseLinesNow (l : Launch) (D : va_G) (cI cZ cT : ClassId) (ta : Nat → Nat) (st dy ln rd : Int32) (kd dd nt lf : Nat → Int32) (r : Nat) (hr_ : r ≤ 5) : Met l yX8_falseLinesNow wsX8_falseLinesNow ({ frames := 2, cells := 0, slots := 0, locals := 41 }) (pR D cI cZ cT [.ref (ta 0), .int (nI (r))] (wTown cI ta st dy ln rd kd dd nt lf)) (QcRead (bc32 (dd r ^^^ nt r))) 0 0 (fun _ => False) := by
  refine Met.ofW (cc := cX8_falseLinesNow) (maxL := 2) (ret := (some .int)) (by decide) rfl ?_
  intro p e s m args below meth c s₁ B hml hv
  obtain ⟨rfl, hP, hK⟩ := hv
  have hx := B.exec
  have hb := B.bytes
  have hr := B.returns
  have hts := atoms_spec (ws := wsX8_falseLinesNow) B.pre
  have hown : s.vm.findClass RX8 = some m.cls := findClass_of_methodNamed B.named
  have hlocks := B.notSynchronized
  have hl := lv_entry ([.ref (ta 0), .int (nI (r))]) (n := 2) (Nat.le_of_ble_eq_true rfl)
  rw [lg_entry_eq]
  generalize (lg_sl ([.ref (ta 0), .int (nI (r))]) ++ List.replicate (2 - (lg_sl ([.ref (ta 0), .int (nI (r))])).length) Slot.unset).toArray = ls at hl ⊢
  have hl : lv_has ls 2 [(0, .ref (ta 0)), (1, .int (nI (r)))] := hl
  refine lv_aload_n hx hb dX8_falseLinesNow_0 rfl (lv_at hl 0 rfl) ?_
  refine va_get (D := D) (ci := 7) (v := .ref (ta 2)) (C := RX8) (T := TX8) (N := 8) hx hb hts u_X8_falseLinesNow_X8 hown hK.1 hP 0 rfl rfl 5 (by decide) (hts (.fieldLink RX8 29 "NoticeWeek$Town" "did" "[I") (List.mem_of_getElem? (i := 1) rfl)) (fun _ h9 => h9) rfl dX8_falseLinesNow_1 ?_
  refine lv_iload_n hx hb dX8_falseLinesNow_4 rfl (lv_at hl 1 rfl) ?_
  refine b_ald hx hb hK hP 2 rfl (by omega) (by decide) dX8_falseLinesNow_5 ?_
  refine lv_aload_n hx hb dX8_falseLinesNow_6 rfl (lv_at hl 0 rfl) ?_
  refine va_get (D := D) (ci := 7) (v := .ref (ta 3)) (C := RX8) (T := TX8) (N := 8) hx hb hts u_X8_falseLinesNow_X8 hown hK.1 hP 0 rfl rfl 6 (by decide) (hts (.fieldLink RX8 32 "NoticeWeek$Town" "notice" "[I") (List.mem_of_getElem? (i := 2) rfl)) (fun _ h9 => h9) rfl dX8_falseLinesNow_7 ?_
  refine lv_iload_n hx hb dX8_falseLinesNow_10 rfl (lv_at hl 1 rfl) ?_
  refine b_ald hx hb hK hP 3 rfl (by omega) (by decide) dX8_falseLinesNow_11 ?_
  refine b_call (va_runSN (As := [.int (dd r), .int (nt r)]) (rest := []) ⟨hx, hb, hml, hown, hts⟩ (c_X11_falseLines l D cI cZ cT (dd r) (nt r)) ⟨va_cnB (host := RX11) 2 hts gX8_falseLinesNow_X11_falseLines_n42 rfl rfl rfl (hK.2.1 _ (List.mem_of_getElem? (i := 17) rfl)) (hts (.initialized RX11) (List.mem_of_getElem? (i := 4) rfl)) (by decide +kernel) ⟨(Nat.le_of_ble_eq_true rfl), (Nat.le_of_ble_eq_true rfl)⟩, hts (.static yX11_falseLines) (List.mem_of_getElem? (i := 3) rfl), trivial⟩ (b_pS0 hK) rfl rfl hl.1 rfl (lv_room (Nat.le_of_ble_eq_true rfl)) dX8_falseLinesNow_12 ⟨Nat.zero_le _, Nat.zero_le _⟩).run ?_
  exact b_ret hx hb hr (by first | with_reducible rfl | (simp only [bI, not_true_eq_false, not_false_eq_true, ite_true, ite_false, if_true, if_false, and_self, and_true, true_and, false_and, and_false, or_true, true_or, or_false, false_or]; done) | (simp [bI]; done) | omega) dX8_falseLinesNow_15 hlocks
theorem u_X8_trueNow_X8 : ∀ w ∈ wsX80, w ∈ wsX8_trueNow := fun _ h => List.mem_cons_of_mem _ (List.mem_append_right _ h)
set_option maxHeartbeats 4000000 in
set_option maxRecDepth 100000 in
theorem c_X8_trueNow (l : Launch) (D : va_G) (cI cZ cT : ClassId) (ta : Nat → Nat) (st dy ln : Int32) (n : Nat) (kd dd nt lf : Nat → Int32) (hn : n ≤ 6) : Met l yX8_trueNow wsX8_trueNow ({ frames := 3, cells := 0, slots := 0, locals := 62 }) (pR D cI cZ cT [.ref (ta 0)] (wTown cI ta st dy ln (nI n) kd dd nt lf)) (QcRead (tnF dd nt n)) 0 0 (fun _ => False) := by
  refine Met.ofW (cc := cX8_trueNow) (maxL := 3) (ret := (some .int)) (by decide) rfl ?_
  intro p e s m args below meth c s₁ B hml hv
  obtain ⟨rfl, hP, hK⟩ := hv
  have hx := B.exec
  have hb := B.bytes
  have hr := B.returns
  have hts := atoms_spec (ws := wsX8_trueNow) B.pre
  have hown : s.vm.findClass RX8 = some m.cls := findClass_of_methodNamed B.named
  have hlocks := B.notSynchronized
  have hl := lv_entry ([.ref (ta 0)]) (n := 3) (Nat.le_of_ble_eq_true rfl)
  rw [lg_entry_eq]
  generalize (lg_sl ([.ref (ta 0)]) ++ List.replicate (3 - (lg_sl ([.ref (ta 0)])).length) Slot.unset).toArray = ls at hl ⊢
  have hl : lv_has ls 3 [(0, .ref (ta 0))] := hl
  refine lv_iconst (v := 0) hx hb dX8_trueNow_0 (by decide) ?_
  refine lv_istore_n (lv' := [(1, .int 0), (0, .ref (ta 0))]) hx hb dX8_trueNow_1 rfl hl (by decide) rfl (fun ls hl => ?_)
  refine lv_iconst (v := (nI 0)) hx hb dX8_trueNow_2 (by decide) ?_
  refine lv_istore_n (lv' := [(2, .int (nI 0)), (1, .int 0), (0, .ref (ta 0))]) hx hb dX8_trueNow_3 rfl hl (by decide) rfl (fun ls hl => ?_)
  refine b_loopR (N := n) (I := fun k ls => lv_has ls 3 [(2, .int (nI (k))), (1, .int (tnF dd nt k)), (0, .ref (ta 0))]) (fun k hk ih1 ls hI => ?_) 0 (by omega) (lv_sub hl [0, 1, 2] rfl)
  have hl := hI
  have hl : lv_has ls 3 [(2, .int (nI (k))), (1, .int (tnF dd nt k)), (0, .ref (ta 0))] := hl
  refine lv_iload_n hx hb dX8_trueNow_4 rfl (lv_at hl 0 rfl) ?_
  refine lv_aload_n hx hb dX8_trueNow_5 rfl (lv_at hl 2 rfl) ?_
  refine va_get (D := D) (ci := 7) (v := .int (nI (n))) (C := RX8) (T := TX8) (N := 8) hx hb hts u_X8_trueNow_X8 hown hK.1 hP 0 rfl rfl 3 (by decide) (hts (.fieldLink RX8 22 "NoticeWeek$Town" "readers" "I") (List.mem_of_getElem? (i := 1) rfl)) (fun _ h9 => h9) rfl dX8_trueNow_6 ?_
  refine b_ge (tgt := 29) hx hb (by omega) (by omega) dX8_trueNow_9 (by decide) (fun c2 => ?_) (fun c2 => ?_)
  · have h_k : n = k := by omega
    subst h_k
    refine lv_iload_n hx hb dX8_trueNow_29 rfl (lv_at hl 1 rfl) ?_
    exact b_ret hx hb hr rfl dX8_trueNow_30 hlocks
  · refine lv_aload_n hx hb dX8_trueNow_12 rfl (lv_at hl 2 rfl) ?_
    refine lv_iload_n hx hb dX8_trueNow_13 rfl (lv_at hl 0 rfl) ?_
    refine b_call (va_runV (As := [.int (nI (k))]) (rest := []) ⟨hx, hb, hml, hown, hts⟩ (c_X8_falseLinesNow l D cI cZ cT ta st dy ln (nI n) kd dd nt lf k (by omega)) (cwV 1 hts gX8_trueNow_X8_falseLinesNow rfl rfl rfl (by decide +kernel) ⟨(Nat.le_of_ble_eq_true rfl), (Nat.le_of_ble_eq_true rfl)⟩) (b_pV hK hP [0, 1, 2, 3, 4] rfl 0 rfl rfl) rfl rfl hl.1 rfl (lv_room (Nat.le_of_ble_eq_true rfl)) dX8_trueNow_14 ⟨Nat.zero_le _, Nat.zero_le _⟩).run ?_
    refine lv_if_ne (tgt := 23) hx hb dX8_trueNow_17 (by decide) (fun c3 => ?_) (fun c3 => ?_)
    · refine lv_iinc (v := (nI (k + 1))) (lv' := [(2, .int (nI (k + 1))), (1, .int (tnF dd nt k)), (0, .ref (ta 0))]) hx hb dX8_trueNow_23 hl (k := 0) rfl (nI_add _ _) (by decide) rfl (fun ls hl => ?_)
      refine lv_goto (tgt := 4) hx hb dX8_trueNow_26 (by decide) ?_
      have st4 : (tnF dd nt k) = (tnF dd nt (k + 1)) := (by show _ = (if bc32 (dd k ^^^ nt k) = 0 then _ else _); rw [if_neg c3]; rfl)
      rw [st4] at hl
      exact ih1 (by omega) ls (lv_sub hl [0, 1, 2] rfl)
    · obtain ⟨x5, ex5⟩ : ∃ y : Int32, y = (tnF dd nt k) + 1 := ⟨_, rfl⟩
      refine lv_iinc (v := x5) (lv' := [(1, .int x5), (2, .int (nI (k))), (0, .ref (ta 0))]) hx hb dX8_trueNow_20 hl (k := 1) rfl (by rw [ex5]; rfl) (by decide) rfl (fun ls hl => ?_)
      refine lv_iinc (v := (nI (k + 1))) (lv' := [(2, .int (nI (k + 1))), (1, .int x5), (0, .ref (ta 0))]) hx hb dX8_trueNow_23 hl (k := 1) rfl (nI_add _ _) (by decide) rfl (fun ls hl => ?_)
      refine lv_goto (tgt := 4) hx hb dX8_trueNow_26 (by decide) ?_
      have st6 : x5 = (tnF dd nt (k + 1)) := (by rw [ex5]; show _ = (if bc32 (dd k ^^^ nt k) = 0 then _ else _); rw [if_pos c3]; rfl)
      rw [st6] at hl
      exact ih1 (by omega) ls (lv_sub hl [0, 1, 2] rfl)
theorem u_X8_linesPrinted_X8 : ∀ w ∈ wsX80, w ∈ wsX8_linesPrinted := fun _ h => List.mem_cons_of_mem _ (List.mem_append_right _ h)
set_option maxHeartbeats 4000000 in
set_option maxRecDepth 100000 in
theorem c_X8_linesPrinted (l : Launch) (D : va_G) (cI cZ cT : ClassId) (ta : Nat → Nat) (st dy ln : Int32) (n : Nat) (kd dd nt lf : Nat → Int32) (x : Int32) (hn : n ≤ 6) : Met l yX8_linesPrinted wsX8_linesPrinted ({ frames := 1, cells := 0, slots := 0, locals := 20 }) (pR D cI cZ cT [.ref (ta 0), .int x] (wTown cI ta st dy ln (nI n) kd dd nt lf)) (QcRead (lpF nt x n)) 0 0 (fun _ => False) := by
  refine Met.ofW (cc := cX8_linesPrinted) (maxL := 4) (ret := (some .int)) (by decide) rfl ?_
  intro p e s m args below meth c s₁ B hml hv
  obtain ⟨rfl, hP, hK⟩ := hv
  have hx := B.exec
  have hb := B.bytes
  have hr := B.returns
  have hts := atoms_spec (ws := wsX8_linesPrinted) B.pre
  have hown : s.vm.findClass RX8 = some m.cls := findClass_of_methodNamed B.named
  have hlocks := B.notSynchronized
  have hl := lv_entry ([.ref (ta 0), .int x]) (n := 4) (Nat.le_of_ble_eq_true rfl)
  rw [lg_entry_eq]
  generalize (lg_sl ([.ref (ta 0), .int x]) ++ List.replicate (4 - (lg_sl ([.ref (ta 0), .int x])).length) Slot.unset).toArray = ls at hl ⊢
  have hl : lv_has ls 4 [(0, .ref (ta 0)), (1, .int x)] := hl
  refine lv_iconst (v := 0) hx hb dX8_linesPrinted_0 (by decide) ?_
  refine lv_istore_n (lv' := [(2, .int 0), (0, .ref (ta 0)), (1, .int x)]) hx hb dX8_linesPrinted_1 rfl hl (by decide) rfl (fun ls hl => ?_)
  refine lv_iconst (v := (nI 0)) hx hb dX8_linesPrinted_2 (by decide) ?_
  refine lv_istore_n (lv' := [(3, .int (nI 0)), (2, .int 0), (0, .ref (ta 0)), (1, .int x)]) hx hb dX8_linesPrinted_3 rfl hl (by decide) rfl (fun ls hl => ?_)
  refine b_loopR (N := n) (I := fun k ls => lv_has ls 4 [(3, .int (nI (k))), (2, .int (lpF nt x k)), (0, .ref (ta 0)), (1, .int x)]) (fun k hk ih1 ls hI => ?_) 0 (by omega) (lv_sub hl [0, 1, 2, 3] rfl)
  have hl := hI
  have hl : lv_has ls 4 [(3, .int (nI (k))), (2, .int (lpF nt x k)), (0, .ref (ta 0)), (1, .int x)] := hl
  refine lv_iload_n hx hb dX8_linesPrinted_4 rfl (lv_at hl 0 rfl) ?_
  refine lv_aload_n hx hb dX8_linesPrinted_5 rfl (lv_at hl 2 rfl) ?_
  refine va_get (D := D) (ci := 7) (v := .int (nI (n))) (C := RX8) (T := TX8) (N := 8) hx hb hts u_X8_linesPrinted_X8 hown hK.1 hP 0 rfl rfl 3 (by decide) (hts (.fieldLink RX8 22 "NoticeWeek$Town" "readers" "I") (List.mem_of_getElem? (i := 1) rfl)) (fun _ h9 => h9) rfl dX8_linesPrinted_6 ?_
  refine b_ge (tgt := 38) hx hb (by omega) (by omega) dX8_linesPrinted_9 (by decide) (fun c2 => ?_) (fun c2 => ?_)
  · have h_k : n = k := by omega
    subst h_k
    refine lv_iload_n hx hb dX8_linesPrinted_38 rfl (lv_at hl 1 rfl) ?_
    exact b_ret hx hb hr rfl dX8_linesPrinted_39 hlocks
  · refine lv_iload_n hx hb dX8_linesPrinted_12 rfl (lv_at hl 3 rfl) ?_
    refine lv_iload_n hx hb dX8_linesPrinted_13 rfl (lv_at hl 0 rfl) ?_
    refine lv_ishr hx hb dX8_linesPrinted_14 ?_
    refine lv_iconst (v := 1) hx hb dX8_linesPrinted_15 (by decide) ?_
    refine lv_iand hx hb dX8_linesPrinted_16 ?_
    refine lv_if_eq (tgt := 32) hx hb dX8_linesPrinted_17 (by decide) (fun c3 => ?_) (fun c3 => ?_)
    · refine lv_iinc (v := (nI (k + 1))) (lv' := [(3, .int (nI (k + 1))), (2, .int (lpF nt x k)), (0, .ref (ta 0)), (1, .int x)]) hx hb dX8_linesPrinted_32 hl (k := 0) rfl (nI_add _ _) (by decide) rfl (fun ls hl => ?_)
      refine lv_goto (tgt := 4) hx hb dX8_linesPrinted_35 (by decide) ?_
      have st4 : (lpF nt x k) = (lpF nt x (k + 1)) := (by show _ = (if ((x >>> (nI k &&& 31)) &&& 1) = 0 then _ else _); rw [if_pos c3]; rfl)
      rw [st4] at hl
      exact ih1 (by omega) ls (lv_sub hl [0, 1, 2, 3] rfl)
    · refine lv_iload_n hx hb dX8_linesPrinted_20 rfl (lv_at hl 1 rfl) ?_
      refine lv_aload_n hx hb dX8_linesPrinted_21 rfl (lv_at hl 2 rfl) ?_
      refine va_get (D := D) (ci := 7) (v := .ref (ta 3)) (C := RX8) (T := TX8) (N := 8) hx hb hts u_X8_linesPrinted_X8 hown hK.1 hP 0 rfl rfl 6 (by decide) (hts (.fieldLink RX8 32 "NoticeWeek$Town" "notice" "[I") (List.mem_of_getElem? (i := 2) rfl)) (fun _ h9 => h9) rfl dX8_linesPrinted_22 ?_
      refine lv_iload_n hx hb dX8_linesPrinted_25 rfl (lv_at hl 0 rfl) ?_
      refine b_ald hx hb hK hP 3 rfl (by omega) (by decide) dX8_linesPrinted_26 ?_
      refine b_call (va_runS (As := [.int (nt k)]) (rest := [.int (lpF nt x k)]) ⟨hx, hb, hml, hown, hts⟩ (c_J6_bitCount_0f7a4 l D cI cZ cT (nt k)) (va_cwS 1 hts gX8_linesPrinted_J6_bitCount_0f7a4 rfl rfl rfl (by decide +kernel) ⟨(Nat.le_of_ble_eq_true rfl), (Nat.le_of_ble_eq_true rfl)⟩) (b_pS0 hK) rfl rfl hl.1 rfl (lv_room (Nat.le_of_ble_eq_true rfl)) dX8_linesPrinted_27 ⟨Nat.zero_le _, Nat.zero_le _⟩).run ?_
      refine lv_iadd hx hb dX8_linesPrinted_30 ?_
      refine lv_topi (fun x5 ex5 => ?_)
      refine lv_istore_n (lv' := [(2, .int x5), (3, .int (nI (k))), (0, .ref (ta 0)), (1, .int x)]) hx hb dX8_linesPrinted_31 rfl hl (by decide) rfl (fun ls hl => ?_)
      refine lv_iinc (v := (nI (k + 1))) (lv' := [(3, .int (nI (k + 1))), (2, .int x5), (0, .ref (ta 0)), (1, .int x)]) hx hb dX8_linesPrinted_32 hl (k := 1) rfl (nI_add _ _) (by decide) rfl (fun ls hl => ?_)
      refine lv_goto (tgt := 4) hx hb dX8_linesPrinted_35 (by decide) ?_
      have st6 : x5 = (lpF nt x (k + 1)) := (by rw [ex5]; show _ = (if ((x >>> (nI k &&& 31)) &&& 1) = 0 then _ else _); rw [if_neg c3]; rfl)
      rw [st6] at hl
      exact ih1 (by omega) ls (lv_sub hl [0, 1, 2, 3] rfl)
theorem u_X8_deedsPrinted_X8 : ∀ w ∈ wsX80, w ∈ wsX8_deedsPrinted := fun _ h => List.mem_cons_of_mem _ (List.mem_append_right _ h)
set_option maxHeartbeats 4000000 in
set_option maxRecDepth 100000 in
theorem c_X8_deedsPrinted (l : Launch) (D : va_G) (cI cZ cT : ClassId) (ta : Nat → Nat) (st dy ln : Int32) (n : Nat) (kd dd nt lf : Nat → Int32) (x : Int32) (hn : n ≤ 6) : Met l yX8_deedsPrinted wsX8_deedsPrinted ({ frames := 1, cells := 0, slots := 0, locals := 20 }) (pR D cI cZ cT [.ref (ta 0), .int x] (wTown cI ta st dy ln (nI n) kd dd nt lf)) (QcRead (dpF dd nt x n)) 0 0 (fun _ => False) := by
  refine Met.ofW (cc := cX8_deedsPrinted) (maxL := 4) (ret := (some .int)) (by decide) rfl ?_
  intro p e s m args below meth c s₁ B hml hv
  obtain ⟨rfl, hP, hK⟩ := hv
  have hx := B.exec
  have hb := B.bytes
  have hr := B.returns
  have hts := atoms_spec (ws := wsX8_deedsPrinted) B.pre
  have hown : s.vm.findClass RX8 = some m.cls := findClass_of_methodNamed B.named
  have hlocks := B.notSynchronized
  have hl := lv_entry ([.ref (ta 0), .int x]) (n := 4) (Nat.le_of_ble_eq_true rfl)
  rw [lg_entry_eq]
  generalize (lg_sl ([.ref (ta 0), .int x]) ++ List.replicate (4 - (lg_sl ([.ref (ta 0), .int x])).length) Slot.unset).toArray = ls at hl ⊢
  have hl : lv_has ls 4 [(0, .ref (ta 0)), (1, .int x)] := hl
  refine lv_iconst (v := 0) hx hb dX8_deedsPrinted_0 (by decide) ?_
  refine lv_istore_n (lv' := [(2, .int 0), (0, .ref (ta 0)), (1, .int x)]) hx hb dX8_deedsPrinted_1 rfl hl (by decide) rfl (fun ls hl => ?_)
  refine lv_iconst (v := (nI 0)) hx hb dX8_deedsPrinted_2 (by decide) ?_
  refine lv_istore_n (lv' := [(3, .int (nI 0)), (2, .int 0), (0, .ref (ta 0)), (1, .int x)]) hx hb dX8_deedsPrinted_3 rfl hl (by decide) rfl (fun ls hl => ?_)
  refine b_loopR (N := n) (I := fun k ls => lv_has ls 4 [(3, .int (nI (k))), (2, .int (dpF dd nt x k)), (0, .ref (ta 0)), (1, .int x)]) (fun k hk ih1 ls hI => ?_) 0 (by omega) (lv_sub hl [0, 1, 2, 3] rfl)
  have hl := hI
  have hl : lv_has ls 4 [(3, .int (nI (k))), (2, .int (dpF dd nt x k)), (0, .ref (ta 0)), (1, .int x)] := hl
  refine lv_iload_n hx hb dX8_deedsPrinted_4 rfl (lv_at hl 0 rfl) ?_
  refine lv_aload_n hx hb dX8_deedsPrinted_5 rfl (lv_at hl 2 rfl) ?_
  refine va_get (D := D) (ci := 7) (v := .int (nI (n))) (C := RX8) (T := TX8) (N := 8) hx hb hts u_X8_deedsPrinted_X8 hown hK.1 hP 0 rfl rfl 3 (by decide) (hts (.fieldLink RX8 22 "NoticeWeek$Town" "readers" "I") (List.mem_of_getElem? (i := 1) rfl)) (fun _ h9 => h9) rfl dX8_deedsPrinted_6 ?_
  refine b_ge (tgt := 45) hx hb (by omega) (by omega) dX8_deedsPrinted_9 (by decide) (fun c2 => ?_) (fun c2 => ?_)
  · have h_k : n = k := by omega
    subst h_k
    refine lv_iload_n hx hb dX8_deedsPrinted_45 rfl (lv_at hl 1 rfl) ?_
    exact b_ret hx hb hr rfl dX8_deedsPrinted_46 hlocks
  · refine lv_iload_n hx hb dX8_deedsPrinted_12 rfl (lv_at hl 3 rfl) ?_
    refine lv_iload_n hx hb dX8_deedsPrinted_13 rfl (lv_at hl 0 rfl) ?_
    refine lv_ishr hx hb dX8_deedsPrinted_14 ?_
    refine lv_iconst (v := 1) hx hb dX8_deedsPrinted_15 (by decide) ?_
    refine lv_iand hx hb dX8_deedsPrinted_16 ?_
    refine lv_if_eq (tgt := 39) hx hb dX8_deedsPrinted_17 (by decide) (fun c3 => ?_) (fun c3 => ?_)
    · refine lv_iinc (v := (nI (k + 1))) (lv' := [(3, .int (nI (k + 1))), (2, .int (dpF dd nt x k)), (0, .ref (ta 0)), (1, .int x)]) hx hb dX8_deedsPrinted_39 hl (k := 0) rfl (nI_add _ _) (by decide) rfl (fun ls hl => ?_)
      refine lv_goto (tgt := 4) hx hb dX8_deedsPrinted_42 (by decide) ?_
      have st4 : (dpF dd nt x k) = (dpF dd nt x (k + 1)) := (by show _ = (if ((x >>> (nI k &&& 31)) &&& 1) = 0 then _ else _); rw [if_pos c3]; rfl)
      rw [st4] at hl
      exact ih1 (by omega) ls (lv_sub hl [0, 1, 2, 3] rfl)
    · refine lv_iload_n hx hb dX8_deedsPrinted_20 rfl (lv_at hl 1 rfl) ?_
      refine lv_aload_n hx hb dX8_deedsPrinted_21 rfl (lv_at hl 2 rfl) ?_
      refine va_get (D := D) (ci := 7) (v := .ref (ta 3)) (C := RX8) (T := TX8) (N := 8) hx hb hts u_X8_deedsPrinted_X8 hown hK.1 hP 0 rfl rfl 6 (by decide) (hts (.fieldLink RX8 32 "NoticeWeek$Town" "notice" "[I") (List.mem_of_getElem? (i := 2) rfl)) (fun _ h9 => h9) rfl dX8_deedsPrinted_22 ?_
      refine lv_iload_n hx hb dX8_deedsPrinted_25 rfl (lv_at hl 0 rfl) ?_
      refine b_ald hx hb hK hP 3 rfl (by omega) (by decide) dX8_deedsPrinted_26 ?_
      refine lv_aload_n hx hb dX8_deedsPrinted_27 rfl (lv_at hl 2 rfl) ?_
      refine va_get (D := D) (ci := 7) (v := .ref (ta 2)) (C := RX8) (T := TX8) (N := 8) hx hb hts u_X8_deedsPrinted_X8 hown hK.1 hP 0 rfl rfl 5 (by decide) (hts (.fieldLink RX8 29 "NoticeWeek$Town" "did" "[I") (List.mem_of_getElem? (i := 3) rfl)) (fun _ h9 => h9) rfl dX8_deedsPrinted_28 ?_
      refine lv_iload_n hx hb dX8_deedsPrinted_31 rfl (lv_at hl 0 rfl) ?_
      refine b_ald hx hb hK hP 2 rfl (by omega) (by decide) dX8_deedsPrinted_32 ?_
      refine lv_iand hx hb dX8_deedsPrinted_33 ?_
      refine b_call (va_runS (As := [.int ((nt k) &&& (dd k))]) (rest := [.int (dpF dd nt x k)]) ⟨hx, hb, hml, hown, hts⟩ (c_J6_bitCount_0f7a4 l D cI cZ cT ((nt k) &&& (dd k))) (va_cwS 1 hts gX8_deedsPrinted_J6_bitCount_0f7a4 rfl rfl rfl (by decide +kernel) ⟨(Nat.le_of_ble_eq_true rfl), (Nat.le_of_ble_eq_true rfl)⟩) (b_pS0 hK) rfl rfl hl.1 rfl (lv_room (Nat.le_of_ble_eq_true rfl)) dX8_deedsPrinted_34 ⟨Nat.zero_le _, Nat.zero_le _⟩).run ?_
      refine lv_iadd hx hb dX8_deedsPrinted_37 ?_
      refine lv_topi (fun x5 ex5 => ?_)
      refine lv_istore_n (lv' := [(2, .int x5), (3, .int (nI (k))), (0, .ref (ta 0)), (1, .int x)]) hx hb dX8_deedsPrinted_38 rfl hl (by decide) rfl (fun ls hl => ?_)
      refine lv_iinc (v := (nI (k + 1))) (lv' := [(3, .int (nI (k + 1))), (2, .int x5), (0, .ref (ta 0)), (1, .int x)]) hx hb dX8_deedsPrinted_39 hl (k := 1) rfl (nI_add _ _) (by decide) rfl (fun ls hl => ?_)
      refine lv_goto (tgt := 4) hx hb dX8_deedsPrinted_42 (by decide) ?_
      have st6 : x5 = (dpF dd nt x (k + 1)) := (by rw [ex5]; show _ = (if ((x >>> (nI k &&& 31)) &&& 1) = 0 then _ else _); rw [if_neg c3]; rfl)
      rw [st6] at hl
      exact ih1 (by omega) ls (lv_sub hl [0, 1, 2, 3] rfl)
set_option maxHeartbeats 4000000 in
set_option maxRecDepth 100000 in
theorem c_X8_isBetterPrinted (l : Launch) (D : va_G) (cI cZ cT : ClassId) (ta : Nat → Nat) (st dy ln : Int32) (n : Nat) (kd dd nt lf : Nat → Int32) (x b : Int32) (hn : n ≤ 6) : Met l yX8_isBetterPrinted wsX8_isBetterPrinted ({ frames := 2, cells := 0, slots := 0, locals := 43 }) (pR D cI cZ cT [.ref (ta 0), .int x, .int b] (wTown cI ta st dy ln (nI n) kd dd nt lf)) (QcRead (bI (btP dd nt n x b))) 0 0 (fun _ => False) := by
  refine Met.ofW (cc := cX8_isBetterPrinted) (maxL := 4) (ret := (some .boolean)) (by decide) rfl ?_
  intro p e s m args below meth c s₁ B hml hv
  obtain ⟨rfl, hP, hK⟩ := hv
  have hx := B.exec
  have hb := B.bytes
  have hr := B.returns
  have hts := atoms_spec (ws := wsX8_isBetterPrinted) B.pre
  have hown : s.vm.findClass RX8 = some m.cls := findClass_of_methodNamed B.named
  have hlocks := B.notSynchronized
  have hl := lv_entry ([.ref (ta 0), .int x, .int b]) (n := 4) (Nat.le_of_ble_eq_true rfl)
  rw [lg_entry_eq]
  generalize (lg_sl ([.ref (ta 0), .int x, .int b]) ++ List.replicate (4 - (lg_sl ([.ref (ta 0), .int x, .int b])).length) Slot.unset).toArray = ls at hl ⊢
  have hl : lv_has ls 4 [(0, .ref (ta 0)), (1, .int x), (2, .int b)] := hl
  refine lv_aload_n hx hb dX8_isBetterPrinted_0 rfl (lv_at hl 0 rfl) ?_
  refine lv_iload_n hx hb dX8_isBetterPrinted_1 rfl (lv_at hl 1 rfl) ?_
  refine b_call (va_runV (As := [.int x]) (rest := []) ⟨hx, hb, hml, hown, hts⟩ (c_X8_deedsPrinted l D cI cZ cT ta st dy ln n kd dd nt lf x hn) (cwV 1 hts gX8_isBetterPrinted_X8_deedsPrinted rfl rfl rfl (by decide +kernel) ⟨(Nat.le_of_ble_eq_true rfl), (Nat.le_of_ble_eq_true rfl)⟩) (b_pV hK hP [0, 1, 2, 3, 4] rfl 0 rfl rfl) rfl rfl hl.1 rfl (lv_room (Nat.le_of_ble_eq_true rfl)) dX8_isBetterPrinted_2 ⟨Nat.zero_le _, Nat.zero_le _⟩).run ?_
  refine lv_aload_n hx hb dX8_isBetterPrinted_5 rfl (lv_at hl 0 rfl) ?_
  refine lv_iload_n hx hb dX8_isBetterPrinted_6 rfl (lv_at hl 2 rfl) ?_
  refine b_call (va_runV (As := [.int b]) (rest := [.int (dpF dd nt x n)]) ⟨hx, hb, hml, hown, hts⟩ (c_X8_deedsPrinted l D cI cZ cT ta st dy ln n kd dd nt lf b hn) (cwV 1 hts gX8_isBetterPrinted_X8_deedsPrinted rfl rfl rfl (by decide +kernel) ⟨(Nat.le_of_ble_eq_true rfl), (Nat.le_of_ble_eq_true rfl)⟩) (b_pV hK hP [0, 1, 2, 3, 4] rfl 0 rfl rfl) rfl rfl hl.1 rfl (lv_room (Nat.le_of_ble_eq_true rfl)) dX8_isBetterPrinted_7 ⟨Nat.zero_le _, Nat.zero_le _⟩).run ?_
  refine lv_isub hx hb dX8_isBetterPrinted_10 ?_
  refine lv_topi (fun x1 ex1 => ?_)
  refine lv_istore_n (lv' := [(3, .int x1), (0, .ref (ta 0)), (1, .int x), (2, .int b)]) hx hb dX8_isBetterPrinted_11 rfl hl (by decide) rfl (fun ls hl => ?_)
  refine lv_iload_n hx hb dX8_isBetterPrinted_12 rfl (lv_at hl 0 rfl) ?_
  refine lv_if_gt (tgt := 31) hx hb dX8_isBetterPrinted_13 (by decide) (fun c2 => ?_) (fun c2 => ?_)
  · refine lv_iconst (v := 1) hx hb dX8_isBetterPrinted_31 (by decide) ?_
    refine lv_goto (tgt := 36) hx hb dX8_isBetterPrinted_32 (by decide) ?_
    exact b_zret hx hb hr (by subst ex1; first | with_reducible rfl | (simp only [bI, btP, eq_true c2, not_true_eq_false, not_false_eq_true, ite_true, ite_false, if_true, if_false, and_self, and_true, true_and, false_and, and_false, or_true, true_or, or_false, false_or]; done) | (simp [bI, btP, eq_true c2]; done) | omega) dX8_isBetterPrinted_36 hlocks
  · refine lv_iload_n hx hb dX8_isBetterPrinted_16 rfl (lv_at hl 0 rfl) ?_
    refine lv_if_ne (tgt := 35) hx hb dX8_isBetterPrinted_17 (by decide) (fun c3 => ?_) (fun c3 => ?_)
    · refine lv_iconst (v := 0) hx hb dX8_isBetterPrinted_35 (by decide) ?_
      exact b_zret hx hb hr (by subst ex1; first | with_reducible rfl | (simp only [bI, btP, eq_false c2, eq_false c3, not_true_eq_false, not_false_eq_true, ite_true, ite_false, if_true, if_false, and_self, and_true, true_and, false_and, and_false, or_true, true_or, or_false, false_or]; done) | (simp [bI, btP, eq_false c2, eq_false c3]; done) | omega) dX8_isBetterPrinted_36 hlocks
    · refine lv_iload_n hx hb dX8_isBetterPrinted_20 rfl (lv_at hl 2 rfl) ?_
      refine b_call (va_runS (As := [.int x]) (rest := []) ⟨hx, hb, hml, hown, hts⟩ (c_J6_bitCount_0f7a4 l D cI cZ cT x) (va_cwS 1 hts gX8_isBetterPrinted_J6_bitCount_0f7a4 rfl rfl rfl (by decide +kernel) ⟨(Nat.le_of_ble_eq_true rfl), (Nat.le_of_ble_eq_true rfl)⟩) (b_pS0 hK) rfl rfl hl.1 rfl (lv_room (Nat.le_of_ble_eq_true rfl)) dX8_isBetterPrinted_21 ⟨Nat.zero_le _, Nat.zero_le _⟩).run ?_
      refine lv_iload_n hx hb dX8_isBetterPrinted_24 rfl (lv_at hl 3 rfl) ?_
      refine b_call (va_runS (As := [.int b]) (rest := [.int (bc32 x)]) ⟨hx, hb, hml, hown, hts⟩ (c_J6_bitCount_0f7a4 l D cI cZ cT b) (va_cwS 1 hts gX8_isBetterPrinted_J6_bitCount_0f7a4 rfl rfl rfl (by decide +kernel) ⟨(Nat.le_of_ble_eq_true rfl), (Nat.le_of_ble_eq_true rfl)⟩) (b_pS0 hK) rfl rfl hl.1 rfl (lv_room (Nat.le_of_ble_eq_true rfl)) dX8_isBetterPrinted_25 ⟨Nat.zero_le _, Nat.zero_le _⟩).run ?_
      refine lv_icmp_ge (tgt := 35) hx hb dX8_isBetterPrinted_28 (by decide) (fun c4 => ?_) (fun c4 => ?_)
      · refine lv_iconst (v := 0) hx hb dX8_isBetterPrinted_35 (by decide) ?_
        exact b_zret hx hb hr (by subst ex1; first | with_reducible rfl | (simp only [bI, btP, eq_false c2, eq_true c3, eq_true c4, not_true_eq_false, not_false_eq_true, ite_true, ite_false, if_true, if_false, and_self, and_true, true_and, false_and, and_false, or_true, true_or, or_false, false_or]; done) | (simp [bI, btP, eq_false c2, eq_true c3, eq_true c4]; done) | omega) dX8_isBetterPrinted_36 hlocks
      · refine lv_iconst (v := 1) hx hb dX8_isBetterPrinted_31 (by decide) ?_
        refine lv_goto (tgt := 36) hx hb dX8_isBetterPrinted_32 (by decide) ?_
        exact b_zret hx hb hr (by subst ex1; first | with_reducible rfl | (simp only [bI, btP, eq_false c2, eq_true c3, eq_false c4, not_true_eq_false, not_false_eq_true, ite_true, ite_false, if_true, if_false, and_self, and_true, true_and, false_and, and_false, or_true, true_or, or_false, false_or]; done) | (simp [bI, btP, eq_false c2, eq_true c3, eq_false c4]; done) | omega) dX8_isBetterPrinted_36 hlocks
theorem u_X8_readersToPrint_X8 : ∀ w ∈ wsX80, w ∈ wsX8_readersToPrint := fun _ h => List.mem_cons_of_mem _ (List.mem_append_right _ h)
set_option maxHeartbeats 4000000 in
set_option maxRecDepth 100000 in
theorem c_X8_readersToPrint (l : Launch) (D : va_G) (cI cZ cT : ClassId) (ta : Nat → Nat) (st dy ln : Int32) (n : Nat) (kd dd nt lf : Nat → Int32) (hn : n ≤ 6) : Met l yX8_readersToPrint wsX8_readersToPrint ({ frames := 3, cells := 0, slots := 0, locals := 66 }) (pR D cI cZ cT [.ref (ta 0)] (wTown cI ta st dy ln (nI n) kd dd nt lf)) (QcRead (rpF ln dd nt n (2 ^ n - 1))) 0 0 (fun _ => False) := by
  refine Met.ofW (cc := cX8_readersToPrint) (maxL := 3) (ret := (some .int)) (by decide) rfl ?_
  intro p e s m args below meth c s₁ B hml hv
  obtain ⟨rfl, hP, hK⟩ := hv
  have hx := B.exec
  have hb := B.bytes
  have hr := B.returns
  have hts := atoms_spec (ws := wsX8_readersToPrint) B.pre
  have hown : s.vm.findClass RX8 = some m.cls := findClass_of_methodNamed B.named
  have hlocks := B.notSynchronized
  have hl := lv_entry ([.ref (ta 0)]) (n := 3) (Nat.le_of_ble_eq_true rfl)
  rw [lg_entry_eq]
  generalize (lg_sl ([.ref (ta 0)]) ++ List.replicate (3 - (lg_sl ([.ref (ta 0)])).length) Slot.unset).toArray = ls at hl ⊢
  have hl : lv_has ls 3 [(0, .ref (ta 0))] := hl
  obtain ⟨pw, hpw1, hpw64, hpw2, hpw⟩ := shl1 hn
  refine lv_iconst (v := 0) hx hb dX8_readersToPrint_0 (by decide) ?_
  refine lv_istore_n (lv' := [(1, .int 0), (0, .ref (ta 0))]) hx hb dX8_readersToPrint_1 rfl hl (by decide) rfl (fun ls hl => ?_)
  refine lv_iconst (v := (nI 1)) hx hb dX8_readersToPrint_2 (by decide) ?_
  refine lv_istore_n (lv' := [(2, .int (nI 1)), (1, .int 0), (0, .ref (ta 0))]) hx hb dX8_readersToPrint_3 rfl hl (by decide) rfl (fun ls hl => ?_)
  refine b_loopR (N := pw - 1) (I := fun j ls => lv_has ls 3 [(2, .int (nI (j + 1))), (1, .int (rpF ln dd nt n j)), (0, .ref (ta 0))]) (fun j hj ih1 ls hI => ?_) 0 (by omega) (lv_sub hl [0, 1, 2] rfl)
  have hl := hI
  have hl : lv_has ls 3 [(2, .int (nI (j + 1))), (1, .int (rpF ln dd nt n j)), (0, .ref (ta 0))] := hl
  refine lv_iload_n hx hb dX8_readersToPrint_4 rfl (lv_at hl 0 rfl) ?_
  refine lv_iconst (v := 1) hx hb dX8_readersToPrint_5 (by decide) ?_
  refine lv_aload_n hx hb dX8_readersToPrint_6 rfl (lv_at hl 2 rfl) ?_
  refine va_get (D := D) (ci := 7) (v := .int (nI (n))) (C := RX8) (T := TX8) (N := 8) hx hb hts u_X8_readersToPrint_X8 hown hK.1 hP 0 rfl rfl 3 (by decide) (hts (.fieldLink RX8 22 "NoticeWeek$Town" "readers" "I") (List.mem_of_getElem? (i := 1) rfl)) (fun _ h9 => h9) rfl dX8_readersToPrint_7 ?_
  refine lv_ishl hx hb dX8_readersToPrint_10 ?_
  rw [hpw]
  refine b_ge (tgt := 43) hx hb (by omega) (by omega) dX8_readersToPrint_11 (by decide) (fun c2 => ?_) (fun c2 => ?_)
  · refine lv_iload_n hx hb dX8_readersToPrint_43 rfl (lv_at hl 1 rfl) ?_
    exact b_ret hx hb hr (by rw [← hpw2, show pw - 1 = j by omega]) dX8_readersToPrint_44 hlocks
  · refine lv_aload_n hx hb dX8_readersToPrint_14 rfl (lv_at hl 2 rfl) ?_
    refine lv_iload_n hx hb dX8_readersToPrint_15 rfl (lv_at hl 0 rfl) ?_
    refine b_call (va_runV (As := [.int (nI (j + 1))]) (rest := []) ⟨hx, hb, hml, hown, hts⟩ (c_X8_linesPrinted l D cI cZ cT ta st dy ln n kd dd nt lf (nI (j + 1)) hn) (cwV 1 hts gX8_readersToPrint_X8_linesPrinted rfl rfl rfl (by decide +kernel) ⟨(Nat.le_of_ble_eq_true rfl), (Nat.le_of_ble_eq_true rfl)⟩) (b_pV hK hP [0, 1, 2, 3, 4] rfl 0 rfl rfl) rfl rfl hl.1 rfl (lv_room (Nat.le_of_ble_eq_true rfl)) dX8_readersToPrint_16 ⟨Nat.zero_le _, Nat.zero_le _⟩).run ?_
    refine lv_aload_n hx hb dX8_readersToPrint_19 rfl (lv_at hl 2 rfl) ?_
    refine va_get (D := D) (ci := 7) (v := .int ln) (C := RX8) (T := TX8) (N := 8) hx hb hts u_X8_readersToPrint_X8 hown hK.1 hP 0 rfl rfl 2 (by decide) (hts (.fieldLink RX8 19 "NoticeWeek$Town" "lines" "I") (List.mem_of_getElem? (i := 2) rfl)) (fun _ h9 => h9) rfl dX8_readersToPrint_20 ?_
    refine lv_icmp_gt (tgt := 37) hx hb dX8_readersToPrint_23 (by decide) (fun c3 => ?_) (fun c3 => ?_)
    · refine lv_iinc (v := (nI (j + 1 + 1))) (lv' := [(2, .int (nI (j + 1 + 1))), (1, .int (rpF ln dd nt n j)), (0, .ref (ta 0))]) hx hb dX8_readersToPrint_37 hl (k := 0) rfl (nI_add _ _) (by decide) rfl (fun ls hl => ?_)
      refine lv_goto (tgt := 4) hx hb dX8_readersToPrint_40 (by decide) ?_
      have st4 : (rpF ln dd nt n j) = (rpF ln dd nt n (j + 1)) := (by show _ = (if ¬ ln < lpF nt (nI (j + 1)) n ∧ btP dd nt n (nI (j + 1)) (rpF ln dd nt n j) then _ else _); rw [if_neg (fun z => z.1 c3)]; rfl)
      rw [st4] at hl
      exact ih1 (by omega) ls (lv_sub hl [0, 1, 2] rfl)
    · refine lv_aload_n hx hb dX8_readersToPrint_26 rfl (lv_at hl 2 rfl) ?_
      refine lv_iload_n hx hb dX8_readersToPrint_27 rfl (lv_at hl 0 rfl) ?_
      refine lv_iload_n hx hb dX8_readersToPrint_28 rfl (lv_at hl 1 rfl) ?_
      refine b_call (va_runV (As := [.int (nI (j + 1)), .int (rpF ln dd nt n j)]) (rest := []) ⟨hx, hb, hml, hown, hts⟩ (c_X8_isBetterPrinted l D cI cZ cT ta st dy ln n kd dd nt lf (nI (j + 1)) (rpF ln dd nt n j) hn) (cwV 2 hts gX8_readersToPrint_X8_isBetterPrinted rfl rfl rfl (by decide +kernel) ⟨(Nat.le_of_ble_eq_true rfl), (Nat.le_of_ble_eq_true rfl)⟩) (b_pV hK hP [0, 1, 2, 3, 4] rfl 0 rfl rfl) rfl rfl hl.1 rfl (lv_room (Nat.le_of_ble_eq_true rfl)) dX8_readersToPrint_29 ⟨Nat.zero_le _, Nat.zero_le _⟩).run ?_
      refine b_ifeq (tgt := 37) hx hb dX8_readersToPrint_32 (by decide) (fun c5 => ?_) (fun c5 => ?_)
      · refine lv_iinc (v := (nI (j + 1 + 1))) (lv' := [(2, .int (nI (j + 1 + 1))), (1, .int (rpF ln dd nt n j)), (0, .ref (ta 0))]) hx hb dX8_readersToPrint_37 hl (k := 0) rfl (nI_add _ _) (by decide) rfl (fun ls hl => ?_)
        refine lv_goto (tgt := 4) hx hb dX8_readersToPrint_40 (by decide) ?_
        have st6 : (rpF ln dd nt n j) = (rpF ln dd nt n (j + 1)) := (by show _ = (if ¬ ln < lpF nt (nI (j + 1)) n ∧ btP dd nt n (nI (j + 1)) (rpF ln dd nt n j) then _ else _); rw [if_neg (fun z => c5 z.2)]; rfl)
        rw [st6] at hl
        exact ih1 (by omega) ls (lv_sub hl [0, 1, 2] rfl)
      · refine lv_iload_n hx hb dX8_readersToPrint_35 rfl (lv_at hl 0 rfl) ?_
        refine lv_istore_n (lv' := [(1, .int (nI (j + 1))), (2, .int (nI (j + 1))), (0, .ref (ta 0))]) hx hb dX8_readersToPrint_36 rfl hl (by decide) rfl (fun ls hl => ?_)
        refine lv_iinc (v := (nI (j + 1 + 1))) (lv' := [(2, .int (nI (j + 1 + 1))), (1, .int (nI (j + 1))), (0, .ref (ta 0))]) hx hb dX8_readersToPrint_37 hl (k := 1) rfl (nI_add _ _) (by decide) rfl (fun ls hl => ?_)
        refine lv_goto (tgt := 4) hx hb dX8_readersToPrint_40 (by decide) ?_
        have st7 : (nI (j + 1)) = (rpF ln dd nt n (j + 1)) := (by show _ = (if ¬ ln < lpF nt (nI (j + 1)) n ∧ btP dd nt n (nI (j + 1)) (rpF ln dd nt n j) then _ else _); rw [if_pos ⟨c3, c5⟩])
        rw [st7] at hl
        exact ih1 (by omega) ls (lv_sub hl [0, 1, 2] rfl)
set_option maxHeartbeats 4000000 in
set_option maxRecDepth 100000 in
theorem c_X3_deedsOn (l : Launch) (D : va_G) (cI cZ cT : ClassId) (xa : Nat) (day did nt : Int32)  : Met l yX3_deedsOn wsX3_deedsOn ({ frames := 1, cells := 0, slots := 0, locals := 20 }) (pR D cI cZ cT [.ref xa, .int day, .int did, .int nt] ([])) (QcRead (lst (tld did nt))) 0 0 (fun _ => False) := by
  refine Met.ofW (cc := cX3_deedsOn) (maxL := 4) (ret := (some .int)) (by decide) rfl ?_
  intro p e s m args below meth c s₁ B hml hv
  obtain ⟨rfl, hP, hK⟩ := hv
  have hx := B.exec
  have hb := B.bytes
  have hr := B.returns
  have hts := atoms_spec (ws := wsX3_deedsOn) B.pre
  have hown : s.vm.findClass RX3 = some m.cls := findClass_of_methodNamed B.named
  have hlocks := B.notSynchronized
  have hl := lv_entry ([.ref xa, .int day, .int did, .int nt]) (n := 4) (Nat.le_of_ble_eq_true rfl)
  rw [lg_entry_eq]
  generalize (lg_sl ([.ref xa, .int day, .int did, .int nt]) ++ List.replicate (4 - (lg_sl ([.ref xa, .int day, .int did, .int nt])).length) Slot.unset).toArray = ls at hl ⊢
  have hl : lv_has ls 4 [(0, .ref xa), (1, .int day), (2, .int did), (3, .int nt)] := hl
  refine lv_iload_n hx hb dX3_deedsOn_0 rfl (lv_at hl 3 rfl) ?_
  refine lv_iload_n hx hb dX3_deedsOn_1 rfl (lv_at hl 2 rfl) ?_
  refine lv_iconst (v := (-1)) hx hb dX3_deedsOn_2 (by decide) ?_
  refine lv_ixor hx hb dX3_deedsOn_3 ?_
  refine lv_iand hx hb dX3_deedsOn_4 ?_
  refine b_call (va_runSN (As := [.int (nt &&& (did ^^^ (-1)))]) (rest := []) ⟨hx, hb, hml, hown, hts⟩ (c_X11_least l D cI cZ cT (nt &&& (did ^^^ (-1)))) ⟨va_cnB (host := RX11) 1 hts gX3_deedsOn_X11_least_n7 rfl rfl rfl (hK.2.1 _ (List.mem_of_getElem? (i := 15) rfl)) (hts (.initialized RX11) (List.mem_of_getElem? (i := 2) rfl)) (by decide +kernel) ⟨(Nat.le_of_ble_eq_true rfl), (Nat.le_of_ble_eq_true rfl)⟩, hts (.static yX11_least) (List.mem_of_getElem? (i := 1) rfl), trivial⟩ (b_pS0 hK) rfl rfl hl.1 rfl (lv_room (Nat.le_of_ble_eq_true rfl)) dX3_deedsOn_5 ⟨Nat.zero_le _, Nat.zero_le _⟩).run ?_
  exact b_ret hx hb hr (by first | with_reducible rfl | (simp only [bI, not_true_eq_false, not_false_eq_true, ite_true, ite_false, if_true, if_false, and_self, and_true, true_and, false_and, and_false, or_true, true_or, or_false, false_or]; done) | (simp [bI]; done) | omega) dX3_deedsOn_8 hlocks
set_option maxHeartbeats 4000000 in
set_option maxRecDepth 100000 in
theorem c_X10_deedsOn (l : Launch) (D : va_G) (cI cZ cT : ClassId) (xa : Nat) (day did nt : Int32)  : Met l yX10_deedsOn wsX10_deedsOn ({ frames := 2, cells := 0, slots := 0, locals := 43 }) (pR D cI cZ cT [.ref xa, .int day, .int did, .int nt] (wTmp 9 xa)) (QcRead (lst (tld did nt) ||| lst (tld did nt &&& (lst (tld did nt) ^^^ (-1))))) 0 0 (fun _ => False) := by
  refine Met.ofW (cc := cX10_deedsOn) (maxL := 5) (ret := (some .int)) (by decide) rfl ?_
  intro p e s m args below meth c s₁ B hml hv
  obtain ⟨rfl, hP, hK⟩ := hv
  have hx := B.exec
  have hb := B.bytes
  have hr := B.returns
  have hts := atoms_spec (ws := wsX10_deedsOn) B.pre
  have hown : s.vm.findClass RX10 = some m.cls := findClass_of_methodNamed B.named
  have hlocks := B.notSynchronized
  have hl := lv_entry ([.ref xa, .int day, .int did, .int nt]) (n := 5) (Nat.le_of_ble_eq_true rfl)
  rw [lg_entry_eq]
  generalize (lg_sl ([.ref xa, .int day, .int did, .int nt]) ++ List.replicate (5 - (lg_sl ([.ref xa, .int day, .int did, .int nt])).length) Slot.unset).toArray = ls at hl ⊢
  have hl : lv_has ls 5 [(0, .ref xa), (1, .int day), (2, .int did), (3, .int nt)] := hl
  refine lv_aload_n hx hb dX10_deedsOn_0 rfl (lv_at hl 0 rfl) ?_
  refine lv_iload_n hx hb dX10_deedsOn_1 rfl (lv_at hl 1 rfl) ?_
  refine lv_iload_n hx hb dX10_deedsOn_2 rfl (lv_at hl 2 rfl) ?_
  refine lv_iload_n hx hb dX10_deedsOn_3 rfl (lv_at hl 3 rfl) ?_
  refine b_call (va_runSU (As := [.int day, .int did, .int nt]) (rest := []) (hK.1.1 9 _ rfl).2 ⟨hx, hb, hml, hown, hts⟩ (c_X3_deedsOn l D cI cZ cT xa day did nt) (va_cwSU 3 hts gX10_deedsOn_X3_deedsOn_s7 rfl rfl rfl (by decide +kernel) ⟨(Nat.le_of_ble_eq_true rfl), (Nat.le_of_ble_eq_true rfl)⟩) (b_pV hK hP [] rfl 0 rfl rfl) rfl rfl hl.1 rfl (lv_room (Nat.le_of_ble_eq_true rfl)) dX10_deedsOn_4 ⟨Nat.zero_le _, Nat.zero_le _⟩).run ?_
  refine lv_topi (fun x1 ex1 => ?_)
  refine lv_istore (lv' := [(4, .int x1), (0, .ref xa), (1, .int day), (2, .int did), (3, .int nt)]) hx hb dX10_deedsOn_7 hl (by decide) rfl (fun ls hl => ?_)
  refine lv_iload hx hb dX10_deedsOn_9 (lv_at hl 0 rfl) ?_
  refine lv_iload_n hx hb dX10_deedsOn_11 rfl (lv_at hl 4 rfl) ?_
  refine lv_iload_n hx hb dX10_deedsOn_12 rfl (lv_at hl 3 rfl) ?_
  refine lv_iconst (v := (-1)) hx hb dX10_deedsOn_13 (by decide) ?_
  refine lv_ixor hx hb dX10_deedsOn_14 ?_
  refine lv_iand hx hb dX10_deedsOn_15 ?_
  refine lv_iload hx hb dX10_deedsOn_16 (lv_at hl 0 rfl) ?_
  refine lv_iconst (v := (-1)) hx hb dX10_deedsOn_18 (by decide) ?_
  refine lv_ixor hx hb dX10_deedsOn_19 ?_
  refine lv_iand hx hb dX10_deedsOn_20 ?_
  refine b_call (va_runSN (As := [.int ((nt &&& (did ^^^ (-1))) &&& (x1 ^^^ (-1)))]) (rest := [.int x1]) ⟨hx, hb, hml, hown, hts⟩ (c_X11_least l D cI cZ cT ((nt &&& (did ^^^ (-1))) &&& (x1 ^^^ (-1)))) ⟨va_cnB (host := RX11) 1 hts gX10_deedsOn_X11_least_n11 rfl rfl rfl (hK.2.1 _ (List.mem_of_getElem? (i := 16) rfl)) (hts (.initialized RX11) (List.mem_of_getElem? (i := 8) rfl)) (by decide +kernel) ⟨(Nat.le_of_ble_eq_true rfl), (Nat.le_of_ble_eq_true rfl)⟩, hts (.static yX11_least) (List.mem_of_getElem? (i := 7) rfl), trivial⟩ (b_pS0 hK) rfl rfl hl.1 rfl (lv_room (Nat.le_of_ble_eq_true rfl)) dX10_deedsOn_21 ⟨Nat.zero_le _, Nat.zero_le _⟩).run ?_
  refine lv_ior hx hb dX10_deedsOn_24 ?_
  exact b_ret hx hb hr (by subst ex1; first | with_reducible rfl | (simp only [bI, not_true_eq_false, not_false_eq_true, ite_true, ite_false, if_true, if_false, and_self, and_true, true_and, false_and, and_false, or_true, true_or, or_false, false_or]; done) | (simp [bI]; done) | omega) dX10_deedsOn_25 hlocks
set_option maxHeartbeats 4000000 in
set_option maxRecDepth 100000 in
theorem c_X5_deedsOn (l : Launch) (D : va_G) (cI cZ cT : ClassId) (xa : Nat) (day did nt : Int32)  : Met l yX5_deedsOn wsX5_deedsOn ({ frames := 2, cells := 0, slots := 0, locals := 43 }) (pR D cI cZ cT [.ref xa, .int day, .int did, .int nt] (wTmp 5 xa)) (QcRead (if 2 < bc32 (tld did nt) then 0 else lst (tld did nt))) 0 0 (fun _ => False) := by
  refine Met.ofW (cc := cX5_deedsOn) (maxL := 4) (ret := (some .int)) (by decide) rfl ?_
  intro p e s m args below meth c s₁ B hml hv
  obtain ⟨rfl, hP, hK⟩ := hv
  have hx := B.exec
  have hb := B.bytes
  have hr := B.returns
  have hts := atoms_spec (ws := wsX5_deedsOn) B.pre
  have hown : s.vm.findClass RX5 = some m.cls := findClass_of_methodNamed B.named
  have hlocks := B.notSynchronized
  have hl := lv_entry ([.ref xa, .int day, .int did, .int nt]) (n := 4) (Nat.le_of_ble_eq_true rfl)
  rw [lg_entry_eq]
  generalize (lg_sl ([.ref xa, .int day, .int did, .int nt]) ++ List.replicate (4 - (lg_sl ([.ref xa, .int day, .int did, .int nt])).length) Slot.unset).toArray = ls at hl ⊢
  have hl : lv_has ls 4 [(0, .ref xa), (1, .int day), (2, .int did), (3, .int nt)] := hl
  refine lv_iload_n hx hb dX5_deedsOn_0 rfl (lv_at hl 3 rfl) ?_
  refine lv_iload_n hx hb dX5_deedsOn_1 rfl (lv_at hl 2 rfl) ?_
  refine lv_iconst (v := (-1)) hx hb dX5_deedsOn_2 (by decide) ?_
  refine lv_ixor hx hb dX5_deedsOn_3 ?_
  refine lv_iand hx hb dX5_deedsOn_4 ?_
  refine b_call (va_runS (As := [.int (nt &&& (did ^^^ (-1)))]) (rest := []) ⟨hx, hb, hml, hown, hts⟩ (c_J6_bitCount_0f7a4 l D cI cZ cT (nt &&& (did ^^^ (-1)))) (va_cwS 1 hts gX5_deedsOn_J6_bitCount_0f7a4 rfl rfl rfl (by decide +kernel) ⟨(Nat.le_of_ble_eq_true rfl), (Nat.le_of_ble_eq_true rfl)⟩) (b_pS0 hK) rfl rfl hl.1 rfl (lv_room (Nat.le_of_ble_eq_true rfl)) dX5_deedsOn_5 ⟨Nat.zero_le _, Nat.zero_le _⟩).run ?_
  refine lv_iconst (v := 2) hx hb dX5_deedsOn_8 (by decide) ?_
  refine lv_icmp_gt (tgt := 22) hx hb dX5_deedsOn_9 (by decide) (fun c1 => ?_) (fun c1 => ?_)
  · refine lv_iconst (v := 0) hx hb dX5_deedsOn_22 (by decide) ?_
    exact b_ret hx hb hr (by first | with_reducible rfl | (simp only [bI, eq_true c1, not_true_eq_false, not_false_eq_true, ite_true, ite_false, if_true, if_false, and_self, and_true, true_and, false_and, and_false, or_true, true_or, or_false, false_or]; done) | (simp [bI, eq_true c1]; done) | omega) dX5_deedsOn_23 hlocks
  · refine lv_aload_n hx hb dX5_deedsOn_12 rfl (lv_at hl 0 rfl) ?_
    refine lv_iload_n hx hb dX5_deedsOn_13 rfl (lv_at hl 1 rfl) ?_
    refine lv_iload_n hx hb dX5_deedsOn_14 rfl (lv_at hl 2 rfl) ?_
    refine lv_iload_n hx hb dX5_deedsOn_15 rfl (lv_at hl 3 rfl) ?_
    refine b_call (va_runSU (As := [.int day, .int did, .int nt]) (rest := []) (hK.1.1 5 _ rfl).2 ⟨hx, hb, hml, hown, hts⟩ (c_X3_deedsOn l D cI cZ cT xa day did nt) (va_cwSU 3 hts gX5_deedsOn_X3_deedsOn_s15 rfl rfl rfl (by decide +kernel) ⟨(Nat.le_of_ble_eq_true rfl), (Nat.le_of_ble_eq_true rfl)⟩) (b_pV hK hP [] rfl 0 rfl rfl) rfl rfl hl.1 rfl (lv_room (Nat.le_of_ble_eq_true rfl)) dX5_deedsOn_16 ⟨Nat.zero_le _, Nat.zero_le _⟩).run ?_
    refine lv_goto (tgt := 23) hx hb dX5_deedsOn_19 (by decide) ?_
    exact b_ret hx hb hr (by first | with_reducible rfl | (simp only [bI, eq_false c1, not_true_eq_false, not_false_eq_true, ite_true, ite_false, if_true, if_false, and_self, and_true, true_and, false_and, and_false, or_true, true_or, or_false, false_or]; done) | (simp [bI, eq_false c1]; done) | omega) dX5_deedsOn_23 hlocks
set_option maxHeartbeats 4000000 in
set_option maxRecDepth 100000 in
theorem c_X1_deedsOn (l : Launch) (D : va_G) (cI cZ cT : ClassId) (xa : Nat) (day did nt : Int32)  : Met l yX1_deedsOn wsX1_deedsOn ({ frames := 1, cells := 0, slots := 0, locals := 20 }) (pR D cI cZ cT [.ref xa, .int day, .int did, .int nt] ([])) (QcRead (lst (oth did nt))) 0 0 (fun _ => False) := by
  refine Met.ofW (cc := cX1_deedsOn) (maxL := 4) (ret := (some .int)) (by decide) rfl ?_
  intro p e s m args below meth c s₁ B hml hv
  obtain ⟨rfl, hP, hK⟩ := hv
  have hx := B.exec
  have hb := B.bytes
  have hr := B.returns
  have hts := atoms_spec (ws := wsX1_deedsOn) B.pre
  have hown : s.vm.findClass RX1 = some m.cls := findClass_of_methodNamed B.named
  have hlocks := B.notSynchronized
  have hl := lv_entry ([.ref xa, .int day, .int did, .int nt]) (n := 4) (Nat.le_of_ble_eq_true rfl)
  rw [lg_entry_eq]
  generalize (lg_sl ([.ref xa, .int day, .int did, .int nt]) ++ List.replicate (4 - (lg_sl ([.ref xa, .int day, .int did, .int nt])).length) Slot.unset).toArray = ls at hl ⊢
  have hl : lv_has ls 4 [(0, .ref xa), (1, .int day), (2, .int did), (3, .int nt)] := hl
  refine lv_bipush (v := 63) hx hb dX1_deedsOn_0 (by decide) ?_
  refine lv_iload_n hx hb dX1_deedsOn_2 rfl (lv_at hl 3 rfl) ?_
  refine lv_iconst (v := (-1)) hx hb dX1_deedsOn_3 (by decide) ?_
  refine lv_ixor hx hb dX1_deedsOn_4 ?_
  refine lv_iand hx hb dX1_deedsOn_5 ?_
  refine lv_iload_n hx hb dX1_deedsOn_6 rfl (lv_at hl 2 rfl) ?_
  refine lv_iconst (v := (-1)) hx hb dX1_deedsOn_7 (by decide) ?_
  refine lv_ixor hx hb dX1_deedsOn_8 ?_
  refine lv_iand hx hb dX1_deedsOn_9 ?_
  refine b_call (va_runSN (As := [.int ((63 &&& (nt ^^^ (-1))) &&& (did ^^^ (-1)))]) (rest := []) ⟨hx, hb, hml, hown, hts⟩ (c_X11_least l D cI cZ cT ((63 &&& (nt ^^^ (-1))) &&& (did ^^^ (-1)))) ⟨va_cnB (host := RX11) 1 hts gX1_deedsOn_X11_least_n9 rfl rfl rfl (hK.2.1 _ (List.mem_of_getElem? (i := 14) rfl)) (hts (.initialized RX11) (List.mem_of_getElem? (i := 2) rfl)) (by decide +kernel) ⟨(Nat.le_of_ble_eq_true rfl), (Nat.le_of_ble_eq_true rfl)⟩, hts (.static yX11_least) (List.mem_of_getElem? (i := 1) rfl), trivial⟩ (b_pS0 hK) rfl rfl hl.1 rfl (lv_room (Nat.le_of_ble_eq_true rfl)) dX1_deedsOn_10 ⟨Nat.zero_le _, Nat.zero_le _⟩).run ?_
  exact b_ret hx hb hr (by first | with_reducible rfl | (simp only [bI, not_true_eq_false, not_false_eq_true, ite_true, ite_false, if_true, if_false, and_self, and_true, true_and, false_and, and_false, or_true, true_or, or_false, false_or]; done) | (simp [bI]; done) | omega) dX1_deedsOn_13 hlocks
set_option maxHeartbeats 4000000 in
set_option maxRecDepth 100000 in
theorem c_X0_deedsOn (l : Launch) (D : va_G) (cI cZ cT : ClassId) (xa : Nat) (day did nt : Int32)  : Met l yX0_deedsOn wsX0_deedsOn ({ frames := 2, cells := 0, slots := 0, locals := 43 }) (pR D cI cZ cT [.ref xa, .int day, .int did, .int nt] (wTmp 0 xa)) (QcRead (if day - day / 2 * 2 = 0 then lst (oth did nt) else 0)) 0 0 (fun _ => False) := by
  refine Met.ofW (cc := cX0_deedsOn) (maxL := 4) (ret := (some .int)) (by decide) rfl ?_
  intro p e s m args below meth c s₁ B hml hv
  obtain ⟨rfl, hP, hK⟩ := hv
  have hx := B.exec
  have hb := B.bytes
  have hr := B.returns
  have hts := atoms_spec (ws := wsX0_deedsOn) B.pre
  have hown : s.vm.findClass RX0 = some m.cls := findClass_of_methodNamed B.named
  have hlocks := B.notSynchronized
  have hl := lv_entry ([.ref xa, .int day, .int did, .int nt]) (n := 4) (Nat.le_of_ble_eq_true rfl)
  rw [lg_entry_eq]
  generalize (lg_sl ([.ref xa, .int day, .int did, .int nt]) ++ List.replicate (4 - (lg_sl ([.ref xa, .int day, .int did, .int nt])).length) Slot.unset).toArray = ls at hl ⊢
  have hl : lv_has ls 4 [(0, .ref xa), (1, .int day), (2, .int did), (3, .int nt)] := hl
  refine lv_iload_n hx hb dX0_deedsOn_0 rfl (lv_at hl 1 rfl) ?_
  refine lv_iconst (v := 2) hx hb dX0_deedsOn_1 (by decide) ?_
  refine lv_irem hx hb dX0_deedsOn_2 (by decide) ?_
  refine lv_if_ne (tgt := 16) hx hb dX0_deedsOn_3 (by decide) (fun c1 => ?_) (fun c1 => ?_)
  · refine lv_iconst (v := 0) hx hb dX0_deedsOn_16 (by decide) ?_
    exact b_ret hx hb hr (by first | with_reducible rfl | (simp only [bI, eq_false c1, not_true_eq_false, not_false_eq_true, ite_true, ite_false, if_true, if_false, and_self, and_true, true_and, false_and, and_false, or_true, true_or, or_false, false_or]; done) | (simp [bI, eq_false c1]; done) | omega) dX0_deedsOn_17 hlocks
  · refine lv_aload_n hx hb dX0_deedsOn_6 rfl (lv_at hl 0 rfl) ?_
    refine lv_iload_n hx hb dX0_deedsOn_7 rfl (lv_at hl 1 rfl) ?_
    refine lv_iload_n hx hb dX0_deedsOn_8 rfl (lv_at hl 2 rfl) ?_
    refine lv_iload_n hx hb dX0_deedsOn_9 rfl (lv_at hl 3 rfl) ?_
    refine b_call (va_runSU (As := [.int day, .int did, .int nt]) (rest := []) (hK.1.1 0 _ rfl).2 ⟨hx, hb, hml, hown, hts⟩ (c_X1_deedsOn l D cI cZ cT xa day did nt) (va_cwSU 3 hts gX0_deedsOn_X1_deedsOn_s7 rfl rfl rfl (by decide +kernel) ⟨(Nat.le_of_ble_eq_true rfl), (Nat.le_of_ble_eq_true rfl)⟩) (b_pV hK hP [] rfl 0 rfl rfl) rfl rfl hl.1 rfl (lv_room (Nat.le_of_ble_eq_true rfl)) dX0_deedsOn_10 ⟨Nat.zero_le _, Nat.zero_le _⟩).run ?_
    refine lv_goto (tgt := 17) hx hb dX0_deedsOn_13 (by decide) ?_
    exact b_ret hx hb hr (by first | with_reducible rfl | (simp only [bI, eq_true c1, not_true_eq_false, not_false_eq_true, ite_true, ite_false, if_true, if_false, and_self, and_true, true_and, false_and, and_false, or_true, true_or, or_false, false_or]; done) | (simp [bI, eq_true c1]; done) | omega) dX0_deedsOn_17 hlocks
