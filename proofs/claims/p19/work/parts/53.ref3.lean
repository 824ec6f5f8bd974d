theorem l2_Mo_layHead1 {d : Nat} {h : am_H} (hS : mo_Pg h) (i4 : am_I h 72 4 = 1) (i5 : am_I h 72 5 = 1) (i24 : am_I h 72 24 = 0) : am_Rt nm_pr (d + 2) mi_Mo_layHead [.ref 72] h (fun o h' => o = .inl none ∧ am_fi [91] h h' ∧ am_I h' 91 = (fun j => if j < 128 then hd_1 j else am_I h 91 j) ∧ am_L h' = am_L h) := by
  refine am_in' mt_Mo_layHead 4 rfl rfl rfl ?_
  refine am_go [] 2 ?_
  simp only [am_wp, am_stp, am_en, am_as, am_pad, am_nth, am_set, am_st1, am_st2, am_kl, am_kill, am_mem, am_fv, am_tk, am_wt, am_bk, Option.toList, List.cons_append, List.nil_append, Nat.reduceAdd, Nat.reduceEqDiff, Nat.reduceLeDiff, reduceIte, Nat.reduceLT, or_self, true_or, or_true, if_true, if_false, and_self, and_true, true_and, not_false_eq_true, not_true_eq_false, fd_Mo_layHead_0, fd_Mo_layHead_1, hS.1]
  refine am_call (l2_Mo_clear hS) (fun o h1 q => ?_)
  obtain ⟨rfl, a1, a2, a3⟩ := q
  simp only [am_wp, am_stp, am_en, am_as, am_pad, am_nth, am_set, am_st1, am_st2, am_kl, am_kill, am_mem, am_fv, am_tk, am_wt, am_bk, Option.toList, List.cons_append, List.nil_append, Nat.reduceAdd, Nat.reduceEqDiff, Nat.reduceLeDiff, reduceIte, Nat.reduceLT, or_self, true_or, or_true, if_true, if_false, and_self, and_true, true_and, not_false_eq_true, not_true_eq_false]
  have S1 := hS.fi a1
  obtain ⟨k1, r1, r2, k2, n2, k3, n3⟩ := id S1
  have e72 : am_I h1 72 = am_I h 72 := a1.2.2.2.2.2.2.1 72 (by simp)
  have j4 : am_I h1 72 4 = 1 := by rw [e72]; exact i4
  have j5 : am_I h1 72 5 = 1 := by rw [e72]; exact i5
  have j24 : am_I h1 72 24 = 0 := by rw [e72]; exact i24
  refine am_go [] 7 ?_
  simp only [am_wp, am_stp, am_en, am_as, am_pad, am_nth, am_set, am_st1, am_st2, am_kl, am_kill, am_mem, am_fv, am_tk, am_wt, am_bk, Option.toList, List.cons_append, List.nil_append, Nat.reduceAdd, Nat.reduceEqDiff, Nat.reduceLeDiff, reduceIte, Nat.reduceLT, or_self, true_or, or_true, if_true, if_false, and_self, and_true, true_and, not_false_eq_true, not_true_eq_false, fd_Mo_layHead_4, fd_Mo_layHead_5, fd_Mo_layHead_6, fd_Mo_layHead_7, fd_Mo_layHead_10, fd_Mo_layHead_12, fd_Mo_layHead_13, k1, j4]
  refine am_call (l2_Mo_put2 (u := 0) S1 (by decide)) (fun o h2 q => ?_)
  obtain ⟨rfl, rfl⟩ := q
  simp only [am_wp, am_stp, am_en, am_as, am_pad, am_nth, am_set, am_st1, am_st2, am_kl, am_kill, am_mem, am_fv, am_tk, am_wt, am_bk, Option.toList, List.cons_append, List.nil_append, Nat.reduceAdd, Nat.reduceEqDiff, Nat.reduceLeDiff, reduceIte, Nat.reduceLT, or_self, true_or, or_true, if_true, if_false, and_self, and_true, true_and, not_false_eq_true, not_true_eq_false]
  refine am_go [] 6 ?_
  simp only [am_wp, am_stp, am_en, am_as, am_pad, am_nth, am_set, am_st1, am_st2, am_kl, am_kill, am_mem, am_fv, am_tk, am_wt, am_bk, Option.toList, List.cons_append, List.nil_append, Nat.reduceAdd, Nat.reduceEqDiff, Nat.reduceLeDiff, reduceIte, Nat.reduceLT, or_self, true_or, or_true, if_true, if_false, and_self, and_true, true_and, not_false_eq_true, not_true_eq_false, fd_Mo_layHead_16, fd_Mo_layHead_17, fd_Mo_layHead_18, fd_Mo_layHead_19, fd_Mo_layHead_20, fd_Mo_layHead_23, hx_nx_sI, hx_ce_sI, hx_sl_sI, hx_kd_sI, hx_ln_sI, hx_I_sI, hx_L_sI, hx_R_sI, hx_nx_sL, hx_ce_sL, hx_sl_sL, hx_kd_sL, hx_ln_sL, hx_I_sL, hx_L_sL, hx_R_sL, hx_nx_sR, hx_ce_sR, hx_sl_sR, hx_kd_sR, hx_ln_sR, hx_I_sR, hx_L_sR, hx_R_sR, hx_nx_al, hx_ce_al, hx_sl_al, hx_kd_al, hx_ln_al, hx_I_al, hx_L_al, hx_R_al, hx_nx_row, hx_ce_row, hx_sl_row, hx_kd_row, hx_ln_row, hx_I_row, hx_L_row, hx_R_row, hx_nx_mk, hx_kd_mk, hx_ln_mk, hx_I_mk, hx_L_mk, hx_R_mk, k1, j4]
  refine am_call (l2_Mo_put2 (u := 2) S1.sI.sI (by decide)) (fun o h2 q => ?_)
  obtain ⟨rfl, rfl⟩ := q
  simp only [am_wp, am_stp, am_en, am_as, am_pad, am_nth, am_set, am_st1, am_st2, am_kl, am_kill, am_mem, am_fv, am_tk, am_wt, am_bk, Option.toList, List.cons_append, List.nil_append, Nat.reduceAdd, Nat.reduceEqDiff, Nat.reduceLeDiff, reduceIte, Nat.reduceLT, or_self, true_or, or_true, if_true, if_false, and_self, and_true, true_and, not_false_eq_true, not_true_eq_false]
  refine am_go [] 6 ?_
  simp only [am_wp, am_stp, am_en, am_as, am_pad, am_nth, am_set, am_st1, am_st2, am_kl, am_kill, am_mem, am_fv, am_tk, am_wt, am_bk, Option.toList, List.cons_append, List.nil_append, Nat.reduceAdd, Nat.reduceEqDiff, Nat.reduceLeDiff, reduceIte, Nat.reduceLT, or_self, true_or, or_true, if_true, if_false, and_self, and_true, true_and, not_false_eq_true, not_true_eq_false, fd_Mo_layHead_26, fd_Mo_layHead_27, fd_Mo_layHead_28, fd_Mo_layHead_29, fd_Mo_layHead_30, fd_Mo_layHead_33, hx_nx_sI, hx_ce_sI, hx_sl_sI, hx_kd_sI, hx_ln_sI, hx_I_sI, hx_L_sI, hx_R_sI, hx_nx_sL, hx_ce_sL, hx_sl_sL, hx_kd_sL, hx_ln_sL, hx_I_sL, hx_L_sL, hx_R_sL, hx_nx_sR, hx_ce_sR, hx_sl_sR, hx_kd_sR, hx_ln_sR, hx_I_sR, hx_L_sR, hx_R_sR, hx_nx_al, hx_ce_al, hx_sl_al, hx_kd_al, hx_ln_al, hx_I_al, hx_L_al, hx_R_al, hx_nx_row, hx_ce_row, hx_sl_row, hx_kd_row, hx_ln_row, hx_I_row, hx_L_row, hx_R_row, hx_nx_mk, hx_kd_mk, hx_ln_mk, hx_I_mk, hx_L_mk, hx_R_mk, k1, j5]
  refine am_call (l2_Mo_put2 (u := 4) S1.sI.sI.sI.sI (by decide)) (fun o h2 q => ?_)
  obtain ⟨rfl, rfl⟩ := q
  simp only [am_wp, am_stp, am_en, am_as, am_pad, am_nth, am_set, am_st1, am_st2, am_kl, am_kill, am_mem, am_fv, am_tk, am_wt, am_bk, Option.toList, List.cons_append, List.nil_append, Nat.reduceAdd, Nat.reduceEqDiff, Nat.reduceLeDiff, reduceIte, Nat.reduceLT, or_self, true_or, or_true, if_true, if_false, and_self, and_true, true_and, not_false_eq_true, not_true_eq_false]
  refine am_go [61] 16 ?_
  have i1 := am_inb (c := 6) (N := 128) (by decide) (by decide)
  have c1 : (nI 6).toNatClampNeg = 6 := nI_clamp (by decide)
  have hlt : ¬ ((0 : Int32) < 0) := by decide
  simp only [am_wp, am_stp, am_en, am_as, am_pad, am_nth, am_set, am_st1, am_st2, am_kl, am_kill, am_mem, am_fv, am_tk, am_wt, am_bk, Option.toList, List.cons_append, List.nil_append, Nat.reduceAdd, Nat.reduceEqDiff, Nat.reduceLeDiff, reduceIte, Nat.reduceLT, or_self, true_or, or_true, if_true, if_false, and_self, and_true, true_and, not_false_eq_true, not_true_eq_false, fd_Mo_layHead_36, fd_Mo_layHead_37, fd_Mo_layHead_38, fd_Mo_layHead_41, fd_Mo_layHead_42, fd_Mo_layHead_43, fd_Mo_layHead_46, fd_Mo_layHead_47, fd_Mo_layHead_48, fd_Mo_layHead_51, fd_Mo_layHead_52, fd_Mo_layHead_53, fd_Mo_layHead_54, fd_Mo_layHead_55, fd_Mo_layHead_58, fd_Mo_layHead_129, hx_nx_sI, hx_ce_sI, hx_sl_sI, hx_kd_sI, hx_ln_sI, hx_I_sI, hx_L_sI, hx_R_sI, hx_nx_sL, hx_ce_sL, hx_sl_sL, hx_kd_sL, hx_ln_sL, hx_I_sL, hx_L_sL, hx_R_sL, hx_nx_sR, hx_ce_sR, hx_sl_sR, hx_kd_sR, hx_ln_sR, hx_I_sR, hx_L_sR, hx_R_sR, hx_nx_al, hx_ce_al, hx_sl_al, hx_kd_al, hx_ln_al, hx_I_al, hx_L_al, hx_R_al, hx_nx_row, hx_ce_row, hx_sl_row, hx_kd_row, hx_ln_row, hx_I_row, hx_L_row, hx_R_row, hx_nx_mk, hx_kd_mk, hx_ln_mk, hx_I_mk, hx_L_mk, hx_R_mk, k1, r2, k3, n3, j24, i1, c1, hlt]
  have i2 : ¬ (nI 6 < 0) := nI_pos (by decide)
  simp only [i2, am_wp, am_stp, am_en, am_as, am_pad, am_nth, am_set, am_st1, am_st2, am_kl, am_kill, am_mem, am_fv, am_tk, am_wt, am_bk, Option.toList, List.cons_append, List.nil_append, Nat.reduceAdd, Nat.reduceEqDiff, Nat.reduceLeDiff, reduceIte, Nat.reduceLT, or_self, true_or, or_true, if_true, if_false, and_self, and_true, true_and, not_false_eq_true, not_true_eq_false]
  refine ⟨?_, ?_, a3⟩
  · refine (((((((a1.sI ?_).sI ?_).sI ?_).sI ?_).sI ?_).sI ?_).sI ?_)
    all_goals simp
  · funext j
    simp only [hx_nx_sI, hx_ce_sI, hx_sl_sI, hx_kd_sI, hx_ln_sI, hx_I_sI, hx_L_sI, hx_R_sI, hx_nx_sL, hx_ce_sL, hx_sl_sL, hx_kd_sL, hx_ln_sL, hx_I_sL, hx_L_sL, hx_R_sL, hx_nx_sR, hx_ce_sR, hx_sl_sR, hx_kd_sR, hx_ln_sR, hx_I_sR, hx_L_sR, hx_R_sR, hx_nx_al, hx_ce_al, hx_sl_al, hx_kd_al, hx_ln_al, hx_I_al, hx_L_al, hx_R_al, hx_nx_row, hx_ce_row, hx_sl_row, hx_kd_row, hx_ln_row, hx_I_row, hx_L_row, hx_R_row, hx_nx_mk, hx_kd_mk, hx_ln_mk, hx_I_mk, hx_L_mk, hx_R_mk, am_wp, am_stp, am_en, am_as, am_pad, am_nth, am_set, am_st1, am_st2, am_kl, am_kill, am_mem, am_fv, am_tk, am_wt, am_bk, Option.toList, List.cons_append, List.nil_append, Nat.reduceAdd, Nat.reduceEqDiff, Nat.reduceLeDiff, reduceIte, Nat.reduceLT, or_self, true_or, or_true, if_true, if_false, and_self, and_true, true_and, not_false_eq_true, not_true_eq_false, a2]
    unfold hd_1
    have e0 : am_b8 0 = 0 := by decide
    have e1 : am_b8 1 = 1 := by decide
    have e2 : am_b8 ((1 : Int32) >>> (8 &&& 31)) = 0 := by decide
    have e3 : am_b8 (Int32.toUInt32 1 >>> (Int32.toUInt32 16 &&& Int32.toUInt32 31)).toInt32 = 0 := by decide
    have e4 : am_b8 ((Int32.toUInt32 1 >>> (Int32.toUInt32 16 &&& Int32.toUInt32 31)).toInt32 >>> (8 &&& 31)) = 0 := by decide
    simp only [am_b8_b8, e0, e1, e2, e3, e4]
    (repeat' split) <;> first | rfl | omega
/-- a new reference -/
def mo_All (P : Nat) (h : am_H) : Prop := mo_Pg h ∧ (am_I h 72 = fun j => if j = 1 then nI P else if j = 4 then 1 else if j = 5 then 1 else 0) ∧ (∀ j, am_L h 72 j = 0) ∧ (∀ j, am_R h 72 j = mo_fd j 0 73 mo_l) ∧ (∀ i q, i ≠ 0 → i ≠ 18 → mo_l[i]? = some q → fr_C h (73 + i) q.1 q.2.1 (fun _ => 0)) ∧
  (am_I h 73 = fun j => if 128 ≤ j ∧ j < 256 then hd_p (j - 128) else 0) ∧ (am_I h 91 = fun j => if j < 128 then hd_p j else 0)
theorem pg_mo (x : Int32) : (if x < 4 then (4 : Int32) else if 1024 < x then 1024 else x) = nI (pg_n x) := by
  rw [← (pg_spec x).1]
  unfold am_mx am_mn
  have h4 : (4 : Int32).toInt = 4 := by decide
  have h1024 : (1024 : Int32).toInt = 1024 := by decide
  simp only [Int32.lt_iff_toInt_lt, h4, h1024]
  by_cases e1 : x.toInt < 1024
  · rw [if_pos e1]
    by_cases e2 : x.toInt < 4
    · rw [if_pos e2, if_neg (by omega)]
    · rw [if_neg e2, if_neg (by omega)]
      by_cases e3 : 4 < x.toInt
      · rw [if_pos e3]
      · rw [if_neg e3]
        exact Int32.toInt_inj.mp (by omega)
  · rw [if_neg e1, if_neg (show ¬ x.toInt < 4 by omega), h1024]
    have e9 : (if (4 : Int) < 1024 then (1024 : Int32) else 4) = 1024 := if_pos (by decide)
    rw [e9]
    by_cases e2 : 1024 < x.toInt
    · rw [if_pos e2]
    · rw [if_neg e2]
      exact Int32.toInt_inj.mp (by omega)
theorem l2_Mo_init {d : Nat} {x : Int32} {h : am_H} (hq : am_nx h = 73) (hk : am_kd h 72 = 12) (hI : am_I h 72 = fun _ => 0) (hL : am_L h 72 = fun _ => 0) (hR : am_R h 72 = fun _ => 0) : am_Rt nm_pr (d + 3) mi_Mo_init [.ref 72, .int x] h (fun o h' => o = .inl none ∧ am_nx h' = 108 ∧ am_ce h' = am_ce h + 35 ∧ am_sl h' = am_sl h + 744309 ∧ mo_All (pg_n x) h' ∧ am_xt [72] 73 h h') := by
  refine am_in' mt_Mo_init 3 rfl rfl rfl ?_
  show am_Ex nm_pr (d + 2) mt_Mo_init (0, [.ref 72, .int x, .retAddr 0], [], h) _
  refine l2_Mo_1 hk hq ?_
  obtain ⟨o1, o2, o3⟩ := mo_own (t := 72) mo_l h (by omega)
  have n1 : am_nx (mo_mk 72 h mo_l) = 108 := by rw [mo_nx, hq]; rfl
  have n2 : am_ce (mo_mk 72 h mo_l) = am_ce h + 35 := mo_ce mo_l h
  have n3 : am_sl (mo_mk 72 h mo_l) = am_sl h + 744309 := mo_sl mo_l h
  have nR : ∀ j, am_R (mo_mk 72 h mo_l) 72 j = mo_fd j 0 73 mo_l := fun j => by rw [mo_R mo_l h (by omega), hR, hq]
  have nN : ∀ i q, mo_l[i]? = some q → fr_C (mo_mk 72 h mo_l) (73 + i) q.1 q.2.1 (fun _ => 0) := fun i q hi => by
    have := mo_new (t := 72) mo_l h i q (by omega) hi
    rw [hq] at this
    exact this
  have nX := mo_xt (t := 72) mo_l h
  rw [hq] at nX
  generalize mo_mk 72 h mo_l = g at *
  have k1 : am_kd g 72 = 12 := o1.trans hk
  have z1 : ∀ j, am_I g 72 j = 0 := fun j => by rw [o2, hI]
  have r2 : am_R g 72 2 = 73 := (nR 2).trans rfl
  have r30 : am_R g 72 30 = 91 := (nR 30).trans rfl
  have c73 := nN 0 _ rfl
  have c91 := nN 18 _ rfl
  refine am_go [326] 20 ?_
  simp only [am_wp, am_stp, am_en, am_as, am_pad, am_nth, am_set, am_st1, am_st2, am_kl, am_kill, am_mem, am_fv, am_tk, am_wt, am_bk, Option.toList, List.cons_append, List.nil_append, Nat.reduceAdd, Nat.reduceEqDiff, Nat.reduceLeDiff, reduceIte, Nat.reduceLT, or_self, true_or, or_true, if_true, if_false, and_self, and_true, true_and, not_false_eq_true, not_true_eq_false, fd_Mo_init_289, fd_Mo_init_290, fd_Mo_init_291, fd_Mo_init_292, fd_Mo_init_295, fd_Mo_init_296, fd_Mo_init_299, fd_Mo_init_300, fd_Mo_init_303, fd_Mo_init_306, fd_Mo_init_309, fd_Mo_init_312, fd_Mo_init_313, fd_Mo_init_316, fd_Mo_init_317, fd_Mo_init_318, fd_Mo_init_321, fd_Mo_init_322, fd_Mo_init_323, hx_nx_sI, hx_ce_sI, hx_sl_sI, hx_kd_sI, hx_ln_sI, hx_I_sI, hx_L_sI, hx_R_sI, hx_nx_sL, hx_ce_sL, hx_sl_sL, hx_kd_sL, hx_ln_sL, hx_I_sL, hx_L_sL, hx_R_sL, hx_nx_sR, hx_ce_sR, hx_sl_sR, hx_kd_sR, hx_ln_sR, hx_I_sR, hx_L_sR, hx_R_sR, hx_nx_al, hx_ce_al, hx_sl_al, hx_kd_al, hx_ln_al, hx_I_al, hx_L_al, hx_R_al, hx_nx_row, hx_ce_row, hx_sl_row, hx_kd_row, hx_ln_row, hx_I_row, hx_L_row, hx_R_row, hx_nx_mk, hx_kd_mk, hx_ln_mk, hx_I_mk, hx_L_mk, hx_R_mk, k1]
  have key : am_Ex nm_pr (d + 2) mt_Mo_init (326, [.ref 72, .int x, .retAddr 0], [], am_sI (am_sI (am_sI g 72 1 (nI (pg_n x))) 72 4 1) 72 5 1) (fun o h' => o = .inl none ∧ am_nx h' = 108 ∧ am_ce h' = am_ce h + 35 ∧ am_sl h' = am_sl h + 744309 ∧ mo_All (pg_n x) h' ∧ am_xt [72] 73 h h') := by
    have Pg0 : mo_Pg g := ⟨k1, r2, r30, c73.1, c73.2.1, c91.1, c91.2.1⟩
    have Pg1 : mo_Pg (am_sI (am_sI (am_sI g 72 1 (nI (pg_n x))) 72 4 1) 72 5 1) := Pg0.sI.sI.sI
    have f1 : am_fi [72] g (am_sI (am_sI (am_sI g 72 1 (nI (pg_n x))) 72 4 1) 72 5 1) := ((am_fi.refl.sI (by simp)).sI (by simp)).sI (by simp)
    have w1 : ∀ j, am_I (am_sI (am_sI (am_sI g 72 1 (nI (pg_n x))) 72 4 1) 72 5 1) 72 j = if j = 1 then nI (pg_n x) else if j = 4 then 1 else if j = 5 then 1 else 0 := fun j => by
      simp only [hx_nx_sI, hx_ce_sI, hx_sl_sI, hx_kd_sI, hx_ln_sI, hx_I_sI, hx_L_sI, hx_R_sI, hx_nx_sL, hx_ce_sL, hx_sl_sL, hx_kd_sL, hx_ln_sL, hx_I_sL, hx_L_sL, hx_R_sL, hx_nx_sR, hx_ce_sR, hx_sl_sR, hx_kd_sR, hx_ln_sR, hx_I_sR, hx_L_sR, hx_R_sR, hx_nx_al, hx_ce_al, hx_sl_al, hx_kd_al, hx_ln_al, hx_I_al, hx_L_al, hx_R_al, hx_nx_row, hx_ce_row, hx_sl_row, hx_kd_row, hx_ln_row, hx_I_row, hx_L_row, hx_R_row, hx_nx_mk, hx_kd_mk, hx_ln_mk, hx_I_mk, hx_L_mk, hx_R_mk, am_wp, am_stp, am_en, am_as, am_pad, am_nth, am_set, am_st1, am_st2, am_kl, am_kill, am_mem, am_fv, am_tk, am_wt, am_bk, Option.toList, List.cons_append, List.nil_append, Nat.reduceAdd, Nat.reduceEqDiff, Nat.reduceLeDiff, reduceIte, Nat.reduceLT, or_self, true_or, or_true, if_true, if_false, and_self, and_true, true_and, not_false_eq_true, not_true_eq_false, z1]
      (repeat' split) <;> first | rfl | omega
    have L1 : am_L (am_sI (am_sI (am_sI g 72 1 (nI (pg_n x))) 72 4 1) 72 5 1) = am_L g := rfl
    generalize am_sI (am_sI (am_sI g 72 1 (nI (pg_n x))) 72 4 1) 72 5 1 = g1 at *
    refine am_go [] 2 ?_
    simp only [am_wp, am_stp, am_en, am_as, am_pad, am_nth, am_set, am_st1, am_st2, am_kl, am_kill, am_mem, am_fv, am_tk, am_wt, am_bk, Option.toList, List.cons_append, List.nil_append, Nat.reduceAdd, Nat.reduceEqDiff, Nat.reduceLeDiff, reduceIte, Nat.reduceLT, or_self, true_or, or_true, if_true, if_false, and_self, and_true, true_and, not_false_eq_true, not_true_eq_false, fd_Mo_init_326, fd_Mo_init_327, Pg1.1]
    refine am_call (l2_Mo_layHead1 Pg1 ((w1 4).trans rfl) ((w1 5).trans rfl) ((w1 24).trans rfl)) (fun o h2 q => ?_)
    obtain ⟨rfl, a1, a2, a3⟩ := q
    simp only [am_wp, am_stp, am_en, am_as, am_pad, am_nth, am_set, am_st1, am_st2, am_kl, am_kill, am_mem, am_fv, am_tk, am_wt, am_bk, Option.toList, List.cons_append, List.nil_append, Nat.reduceAdd, Nat.reduceEqDiff, Nat.reduceLeDiff, reduceIte, Nat.reduceLT, or_self, true_or, or_true, if_true, if_false, and_self, and_true, true_and, not_false_eq_true, not_true_eq_false]
    have Pg2 := Pg1.fi a1
    have e72 : am_I h2 72 = am_I g1 72 := a1.2.2.2.2.2.2.1 72 (by simp)
    have e73 : am_I h2 73 = am_I g1 73 := a1.2.2.2.2.2.2.1 73 (by simp)
    have f73 : ∀ j, am_I g1 73 j = 0 := fun j => by rw [f1.2.2.2.2.2.2.1 73 (by simp)]; exact c73.2.2.1.1 j
    have f91 : ∀ j, am_I g1 91 j = 0 := fun j => by rw [f1.2.2.2.2.2.2.1 91 (by simp)]; exact c91.2.2.1.1 j
    have a2' : ∀ j, am_I h2 91 j = if j < 128 then hd_1 j else 0 := fun j => by rw [a2]; dsimp only; rw [f91]
    refine am_go [] 3 ?_
    simp only [am_wp, am_stp, am_en, am_as, am_pad, am_nth, am_set, am_st1, am_st2, am_kl, am_kill, am_mem, am_fv, am_tk, am_wt, am_bk, Option.toList, List.cons_append, List.nil_append, Nat.reduceAdd, Nat.reduceEqDiff, Nat.reduceLeDiff, reduceIte, Nat.reduceLT, or_self, true_or, or_true, if_true, if_false, and_self, and_true, true_and, not_false_eq_true, not_true_eq_false, fd_Mo_init_330, fd_Mo_init_331, fd_Mo_init_332, Pg2.1]
    refine am_call (l2_Mo_write (p := 1) Pg2 (by decide) (by rw [e72]; exact (w1 8).trans rfl)) (fun o h3 q => ?_)
    obtain ⟨rfl, b1, b2, b3, b4, b5⟩ := q
    simp only [am_wp, am_stp, am_en, am_as, am_pad, am_nth, am_set, am_st1, am_st2, am_kl, am_kill, am_mem, am_fv, am_tk, am_wt, am_bk, Option.toList, List.cons_append, List.nil_append, Nat.reduceAdd, Nat.reduceEqDiff, Nat.reduceLeDiff, reduceIte, Nat.reduceLT, or_self, true_or, or_true, if_true, if_false, and_self, and_true, true_and, not_false_eq_true, not_true_eq_false]
    have Pg3 := Pg2.fi b1
    refine am_go [] 10 ?_
    simp only [am_wp, am_stp, am_en, am_as, am_pad, am_nth, am_set, am_st1, am_st2, am_kl, am_kill, am_mem, am_fv, am_tk, am_wt, am_bk, Option.toList, List.cons_append, List.nil_append, Nat.reduceAdd, Nat.reduceEqDiff, Nat.reduceLeDiff, reduceIte, Nat.reduceLT, or_self, true_or, or_true, if_true, if_false, and_self, and_true, true_and, not_false_eq_true, not_true_eq_false, fd_Mo_init_335, fd_Mo_init_336, fd_Mo_init_337, fd_Mo_init_338, fd_Mo_init_341, Pg3.1]
    have fz : sm_F (am_I h2 91) (nI 1).toInt64 120 = hd_z := sm_F_ext 120 (fun j hj => by rw [a2', if_pos (by omega)])
    have f4 : am_fi [72, 73, 91] g (am_sI h3 72 7 0) := (((f1.sub (by simp)).trans (a1.sub (by simp))).trans b1).sI (by simp)
    have X4 : am_xt [72, 73, 91] 108 g (am_sI h3 72 7 0) := am_xt.refl.fi f4
    refine ⟨f4.1.trans n1, f4.2.1.trans n2, f4.2.2.1.trans n3, ⟨Pg3.sI, ?_, ?_, ?_, ?_, ?_, ?_⟩, ?_⟩
    · funext j
      simp only [hx_nx_sI, hx_ce_sI, hx_sl_sI, hx_kd_sI, hx_ln_sI, hx_I_sI, hx_L_sI, hx_R_sI, hx_nx_sL, hx_ce_sL, hx_sl_sL, hx_kd_sL, hx_ln_sL, hx_I_sL, hx_L_sL, hx_R_sL, hx_nx_sR, hx_ce_sR, hx_sl_sR, hx_kd_sR, hx_ln_sR, hx_I_sR, hx_L_sR, hx_R_sR, hx_nx_al, hx_ce_al, hx_sl_al, hx_kd_al, hx_ln_al, hx_I_al, hx_L_al, hx_R_al, hx_nx_row, hx_ce_row, hx_sl_row, hx_kd_row, hx_ln_row, hx_I_row, hx_L_row, hx_R_row, hx_nx_mk, hx_kd_mk, hx_ln_mk, hx_I_mk, hx_L_mk, hx_R_mk, am_wp, am_stp, am_en, am_as, am_pad, am_nth, am_set, am_st1, am_st2, am_kl, am_kill, am_mem, am_fv, am_tk, am_wt, am_bk, Option.toList, List.cons_append, List.nil_append, Nat.reduceAdd, Nat.reduceEqDiff, Nat.reduceLeDiff, reduceIte, Nat.reduceLT, or_self, true_or, or_true, if_true, if_false, and_self, and_true, true_and, not_false_eq_true, not_true_eq_false]
      rw [b2, e72]
      dsimp only
      rw [w1, w1]
      (repeat' split) <;> first | rfl | omega
    · intro j
      simp only [hx_nx_sI, hx_ce_sI, hx_sl_sI, hx_kd_sI, hx_ln_sI, hx_I_sI, hx_L_sI, hx_R_sI, hx_nx_sL, hx_ce_sL, hx_sl_sL, hx_kd_sL, hx_ln_sL, hx_I_sL, hx_L_sL, hx_R_sL, hx_nx_sR, hx_ce_sR, hx_sl_sR, hx_kd_sR, hx_ln_sR, hx_I_sR, hx_L_sR, hx_R_sR, hx_nx_al, hx_ce_al, hx_sl_al, hx_kd_al, hx_ln_al, hx_I_al, hx_L_al, hx_R_al, hx_nx_row, hx_ce_row, hx_sl_row, hx_kd_row, hx_ln_row, hx_I_row, hx_L_row, hx_R_row, hx_nx_mk, hx_kd_mk, hx_ln_mk, hx_I_mk, hx_L_mk, hx_R_mk]
      rw [b5, a3, L1, o3, hL]
    · intro j
      rw [f4.2.2.2.2.2.1]
      exact nR j
    · intro i q h0 h18 hi
      have hlt : i < 35 := by
        have := (List.getElem?_eq_some_iff.mp hi).1
        exact this
      exact (nN i q hi).xt X4 (by omega) (by simp; omega)
    · funext j
      simp only [hx_nx_sI, hx_ce_sI, hx_sl_sI, hx_kd_sI, hx_ln_sI, hx_I_sI, hx_L_sI, hx_R_sI, hx_nx_sL, hx_ce_sL, hx_sl_sL, hx_kd_sL, hx_ln_sL, hx_I_sL, hx_L_sL, hx_R_sL, hx_nx_sR, hx_ce_sR, hx_sl_sR, hx_kd_sR, hx_ln_sR, hx_I_sR, hx_L_sR, hx_R_sR, hx_nx_al, hx_ce_al, hx_sl_al, hx_kd_al, hx_ln_al, hx_I_al, hx_L_al, hx_R_al, hx_nx_row, hx_ce_row, hx_sl_row, hx_kd_row, hx_ln_row, hx_I_row, hx_L_row, hx_R_row, hx_nx_mk, hx_kd_mk, hx_ln_mk, hx_I_mk, hx_L_mk, hx_R_mk, am_wp, am_stp, am_en, am_as, am_pad, am_nth, am_set, am_st1, am_st2, am_kl, am_kill, am_mem, am_fv, am_tk, am_wt, am_bk, Option.toList, List.cons_append, List.nil_append, Nat.reduceAdd, Nat.reduceEqDiff, Nat.reduceLeDiff, reduceIte, Nat.reduceLT, or_self, true_or, or_true, if_true, if_false, and_self, and_true, true_and, not_false_eq_true, not_true_eq_false]
      rw [b4]
      dsimp only
      rw [fz, e73, f73]
      by_cases e : 128 ≤ j ∧ j < 256
      · rw [if_pos (by omega), if_pos e]
        unfold hd_p
        have eb : ∀ i, am_b8 (hd_1 i) = hd_1 i := fun i => by unfold hd_1; (repeat' split) <;> decide
        by_cases e2 : 120 ≤ j - 128
        · rw [if_pos (by omega), if_neg (by omega), show j - 1 * 128 - 120 = j - 128 - 120 by omega]
          unfold sm_O
          exact am_b8_b8 _
        · rw [if_neg (by omega), if_pos (by omega), a2', if_pos (by omega), show j - 1 * 128 = j - 128 by omega]
          exact eb _
      · rw [if_neg (by omega), if_neg e]
    · funext j
      simp only [hx_nx_sI, hx_ce_sI, hx_sl_sI, hx_kd_sI, hx_ln_sI, hx_I_sI, hx_L_sI, hx_R_sI, hx_nx_sL, hx_ce_sL, hx_sl_sL, hx_kd_sL, hx_ln_sL, hx_I_sL, hx_L_sL, hx_R_sL, hx_nx_sR, hx_ce_sR, hx_sl_sR, hx_kd_sR, hx_ln_sR, hx_I_sR, hx_L_sR, hx_R_sR, hx_nx_al, hx_ce_al, hx_sl_al, hx_kd_al, hx_ln_al, hx_I_al, hx_L_al, hx_R_al, hx_nx_row, hx_ce_row, hx_sl_row, hx_kd_row, hx_ln_row, hx_I_row, hx_L_row, hx_R_row, hx_nx_mk, hx_kd_mk, hx_ln_mk, hx_I_mk, hx_L_mk, hx_R_mk, am_wp, am_stp, am_en, am_as, am_pad, am_nth, am_set, am_st1, am_st2, am_kl, am_kill, am_mem, am_fv, am_tk, am_wt, am_bk, Option.toList, List.cons_append, List.nil_append, Nat.reduceAdd, Nat.reduceEqDiff, Nat.reduceLeDiff, reduceIte, Nat.reduceLT, or_self, true_or, or_true, if_true, if_false, and_self, and_true, true_and, not_false_eq_true, not_true_eq_false]
      rw [b3]
      dsimp only
      rw [fz, a2']
      unfold hd_p
      by_cases e2 : j < 120
      · rw [if_neg (by omega), if_pos (show j < 128 by omega), if_pos (show j < 128 by omega), if_pos e2]
      · by_cases e : j < 128
        · rw [if_pos (by omega), if_pos e, if_neg e2]
        · rw [if_neg (by omega), if_neg e, if_neg e]
    · refine (nX.trans (am_xt.sub (S' := [72]) (S := [72]) (fun q hq hS => ?_ : am_xt [72] 73 g (am_sI h3 72 7 0)) (by simp)) (Nat.le_refl _))
      exact X4 q (by omega) (by simp at hS ⊢; omega)
  have e := pg_mo x
  by_cases e1 : x < 4
  · rw [if_pos e1] at e ⊢
    rw [← e] at key
    exact key
  · rw [if_neg e1] at e ⊢
    by_cases e2 : 1024 < x
    · rw [if_pos e2] at e ⊢
      rw [← e] at key
      exact key
    · rw [if_neg e2] at e ⊢
      rw [← e] at key
      exact key
