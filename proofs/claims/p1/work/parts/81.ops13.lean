/-! range ON A NEW OBJECT -/
theorem l2_Bl_begin {d : Nat} {b : Int32} {h : am_H} (k : am_kd h 25 = 2) (hb : b = 0 ∨ b = 1) : am_Rt nm_pr (d + 1) mi_Blend_begin [.ref 25, .int b] h (fun o h' => o = .inl none ∧ am_fi [25] h h' ∧ am_I h' 25 5 = 0 ∧ am_I h' 25 6 = 0 ∧ am_I h' 25 7 = b) := by
  refine am_in' mt_Blend_begin 2 rfl rfl rfl ?_
  have b1 : b &&& 1 = b := by rcases hb with e | e <;> subst e <;> decide
  refine am_go [] 12 ?_
  have f : am_fi [25] h (am_sI (am_sI (am_sI h 25 7 b) 25 5 0) 25 6 0) := ((am_fi.refl.sI (by simp)).sI (by simp)).sI (by simp)
  simp only [am_wp, am_stp, am_en, am_as, am_pad, am_nth, am_set, am_st1, am_st2, am_kl, am_kill, am_mem, am_fv, am_tk, am_wt, am_bk, Option.toList, List.cons_append, List.nil_append, Nat.reduceAdd, Nat.reduceEqDiff, Nat.reduceLeDiff, reduceIte, Nat.reduceLT, or_self, true_or, or_true, if_true, if_false, and_self, and_true, true_and, not_false_eq_true, not_true_eq_false, fd_Blend_begin_0, fd_Blend_begin_1, fd_Blend_begin_2, fd_Blend_begin_5, fd_Blend_begin_6, fd_Blend_begin_7, fd_Blend_begin_10, fd_Blend_begin_11, fd_Blend_begin_12, fd_Blend_begin_15, hx_nx_sI, hx_ce_sI, hx_sl_sI, hx_kd_sI, hx_ln_sI, hx_I_sI, hx_L_sI, hx_R_sI, hx_nx_sL, hx_ce_sL, hx_sl_sL, hx_kd_sL, hx_ln_sL, hx_I_sL, hx_L_sL, hx_R_sL, hx_nx_sR, hx_ce_sR, hx_sl_sR, hx_kd_sR, hx_ln_sR, hx_I_sR, hx_L_sR, hx_R_sR, hx_nx_al, hx_ce_al, hx_sl_al, hx_kd_al, hx_ln_al, hx_I_al, hx_L_al, hx_R_al, hx_nx_row, hx_ce_row, hx_sl_row, hx_kd_row, hx_ln_row, hx_I_row, hx_L_row, hx_R_row, hx_nx_mk, hx_kd_mk, hx_ln_mk, hx_I_mk, hx_L_mk, hx_R_mk, k, b1]
  simp [f]
  exact hb
/-- an empty table's stream -/
theorem l2_addTable0 {d : Nat} {h : am_H} (T : tb_S h 0) (k25 : am_kd h 25 = 2) (r252 : am_R h 25 2 = 29) (r254 : am_R h 25 4 = 28) (k29 : am_kd h 29 = 11) (r294 : am_R h 29 4 = 3) (k28 : am_kd h 28 = 203) (n28 : am_ln h 28 = 10) (r28 : am_R h 28 0 = 29) (i5 : am_I h 25 5 = 0) : am_Rt nm_pr (d + 2) mi_Blend_addTable [.ref 25] h (fun o h' => o = .inl none ∧ am_fi [25, 29] h h' ∧ am_I h' 25 5 = 1 ∧ am_I h' 29 0 = 0) := by
  have i3 : am_I h 3 4 = 0 := T.2.2.2.2.2.2.2.2.2.2.2.2.1
  have k3 := T.1
  refine am_in' (d := d + 1) mt_Blend_addTable 1 rfl rfl rfl ?_
  refine am_go [] 3 ?_
  simp only [am_wp, am_stp, am_en, am_as, am_pad, am_nth, am_set, am_st1, am_st2, am_kl, am_kill, am_mem, am_fv, am_tk, am_wt, am_bk, Option.toList, List.cons_append, List.nil_append, Nat.reduceAdd, Nat.reduceEqDiff, Nat.reduceLeDiff, reduceIte, Nat.reduceLT, or_self, true_or, or_true, if_true, if_false, and_self, and_true, true_and, not_false_eq_true, not_true_eq_false, fd_Blend_addTable_0, fd_Blend_addTable_1, fd_Blend_addTable_4, k25, r252, k29]
  refine am_call (Q := fun o h' => o = .inl none ∧ h' = am_sI h 29 5 0) ?_ (fun o h1 q => ?_)
  · refine am_in' (d := d) mt_TableStream_start 1 rfl rfl rfl ?_
    refine am_go [] 5 ?_
    simp only [am_wp, am_stp, am_en, am_as, am_pad, am_nth, am_set, am_st1, am_st2, am_kl, am_kill, am_mem, am_fv, am_tk, am_wt, am_bk, Option.toList, List.cons_append, List.nil_append, Nat.reduceAdd, Nat.reduceEqDiff, Nat.reduceLeDiff, reduceIte, Nat.reduceLT, or_self, true_or, or_true, if_true, if_false, and_self, and_true, true_and, not_false_eq_true, not_true_eq_false, fd_TableStream_start_0, fd_TableStream_start_1, fd_TableStream_start_2, fd_TableStream_start_5, k29]
  obtain ⟨rfl, rfl⟩ := q
  simp only [am_wp, am_stp, am_en, am_as, am_pad, am_nth, am_set, am_st1, am_st2, am_kl, am_kill, am_mem, am_fv, am_tk, am_wt, am_bk, Option.toList, List.cons_append, List.nil_append, Nat.reduceAdd, Nat.reduceEqDiff, Nat.reduceLeDiff, reduceIte, Nat.reduceLT, or_self, true_or, or_true, if_true, if_false, and_self, and_true, true_and, not_false_eq_true, not_true_eq_false]
  refine am_go [] 3 ?_
  simp only [am_wp, am_stp, am_en, am_as, am_pad, am_nth, am_set, am_st1, am_st2, am_kl, am_kill, am_mem, am_fv, am_tk, am_wt, am_bk, Option.toList, List.cons_append, List.nil_append, Nat.reduceAdd, Nat.reduceEqDiff, Nat.reduceLeDiff, reduceIte, Nat.reduceLT, or_self, true_or, or_true, if_true, if_false, and_self, and_true, true_and, not_false_eq_true, not_true_eq_false, fd_Blend_addTable_7, fd_Blend_addTable_8, fd_Blend_addTable_11, hx_nx_sI, hx_ce_sI, hx_sl_sI, hx_kd_sI, hx_ln_sI, hx_I_sI, hx_L_sI, hx_R_sI, hx_nx_sL, hx_ce_sL, hx_sl_sL, hx_kd_sL, hx_ln_sL, hx_I_sL, hx_L_sL, hx_R_sL, hx_nx_sR, hx_ce_sR, hx_sl_sR, hx_kd_sR, hx_ln_sR, hx_I_sR, hx_L_sR, hx_R_sR, hx_nx_al, hx_ce_al, hx_sl_al, hx_kd_al, hx_ln_al, hx_I_al, hx_L_al, hx_R_al, hx_nx_row, hx_ce_row, hx_sl_row, hx_kd_row, hx_ln_row, hx_I_row, hx_L_row, hx_R_row, hx_nx_mk, hx_kd_mk, hx_ln_mk, hx_I_mk, hx_L_mk, hx_R_mk, k25, r252, k29]
  refine am_call (Q := fun o h' => o = .inl none ∧ h' = am_sI (am_sI h 29 5 0) 29 0 0) ?_ (fun o h1 q => ?_)
  · refine am_in' (d := d) mt_TableStream_step 1 rfl rfl rfl ?_
    have le0 : ¬ ((0 : Int32) < 0) := by decide
    have a01 : (0 : Int32) &&& 1 = 0 := by decide
    refine am_go [15, 28] 7 ?_
    simp only [am_wp, am_stp, am_en, am_as, am_pad, am_nth, am_set, am_st1, am_st2, am_kl, am_kill, am_mem, am_fv, am_tk, am_wt, am_bk, Option.toList, List.cons_append, List.nil_append, Nat.reduceAdd, Nat.reduceEqDiff, Nat.reduceLeDiff, reduceIte, Nat.reduceLT, or_self, true_or, or_true, if_true, if_false, and_self, and_true, true_and, not_false_eq_true, not_true_eq_false, fd_TableStream_step_0, fd_TableStream_step_1, fd_TableStream_step_2, fd_TableStream_step_5, fd_TableStream_step_6, fd_TableStream_step_9, fd_TableStream_step_12, hx_nx_sI, hx_ce_sI, hx_sl_sI, hx_kd_sI, hx_ln_sI, hx_I_sI, hx_L_sI, hx_R_sI, hx_nx_sL, hx_ce_sL, hx_sl_sL, hx_kd_sL, hx_ln_sL, hx_I_sL, hx_L_sL, hx_R_sL, hx_nx_sR, hx_ce_sR, hx_sl_sR, hx_kd_sR, hx_ln_sR, hx_I_sR, hx_L_sR, hx_R_sR, hx_nx_al, hx_ce_al, hx_sl_al, hx_kd_al, hx_ln_al, hx_I_al, hx_L_al, hx_R_al, hx_nx_row, hx_ce_row, hx_sl_row, hx_kd_row, hx_ln_row, hx_I_row, hx_L_row, hx_R_row, hx_nx_mk, hx_kd_mk, hx_ln_mk, hx_I_mk, hx_L_mk, hx_R_mk, k29, r294, k3, i3, le0]
    refine am_go [39] 8 ?_
    simp only [am_wp, am_stp, am_en, am_as, am_pad, am_nth, am_set, am_st1, am_st2, am_kl, am_kill, am_mem, am_fv, am_tk, am_wt, am_bk, Option.toList, List.cons_append, List.nil_append, Nat.reduceAdd, Nat.reduceEqDiff, Nat.reduceLeDiff, reduceIte, Nat.reduceLT, or_self, true_or, or_true, if_true, if_false, and_self, and_true, true_and, not_false_eq_true, not_true_eq_false, fd_TableStream_step_28, fd_TableStream_step_29, fd_TableStream_step_32, fd_TableStream_step_33, fd_TableStream_step_36, fd_TableStream_step_97, hx_nx_sI, hx_ce_sI, hx_sl_sI, hx_kd_sI, hx_ln_sI, hx_I_sI, hx_L_sI, hx_R_sI, hx_nx_sL, hx_ce_sL, hx_sl_sL, hx_kd_sL, hx_ln_sL, hx_I_sL, hx_L_sL, hx_R_sL, hx_nx_sR, hx_ce_sR, hx_sl_sR, hx_kd_sR, hx_ln_sR, hx_I_sR, hx_L_sR, hx_R_sR, hx_nx_al, hx_ce_al, hx_sl_al, hx_kd_al, hx_ln_al, hx_I_al, hx_L_al, hx_R_al, hx_nx_row, hx_ce_row, hx_sl_row, hx_kd_row, hx_ln_row, hx_I_row, hx_L_row, hx_R_row, hx_nx_mk, hx_kd_mk, hx_ln_mk, hx_I_mk, hx_L_mk, hx_R_mk, k29, a01]
  obtain ⟨rfl, rfl⟩ := q
  simp only [am_wp, am_stp, am_en, am_as, am_pad, am_nth, am_set, am_st1, am_st2, am_kl, am_kill, am_mem, am_fv, am_tk, am_wt, am_bk, Option.toList, List.cons_append, List.nil_append, Nat.reduceAdd, Nat.reduceEqDiff, Nat.reduceLeDiff, reduceIte, Nat.reduceLT, or_self, true_or, or_true, if_true, if_false, and_self, and_true, true_and, not_false_eq_true, not_true_eq_false]
  refine am_go [] 4 ?_
  simp only [am_wp, am_stp, am_en, am_as, am_pad, am_nth, am_set, am_st1, am_st2, am_kl, am_kill, am_mem, am_fv, am_tk, am_wt, am_bk, Option.toList, List.cons_append, List.nil_append, Nat.reduceAdd, Nat.reduceEqDiff, Nat.reduceLeDiff, reduceIte, Nat.reduceLT, or_self, true_or, or_true, if_true, if_false, and_self, and_true, true_and, not_false_eq_true, not_true_eq_false, fd_Blend_addTable_14, fd_Blend_addTable_15, fd_Blend_addTable_16, fd_Blend_addTable_19, hx_nx_sI, hx_ce_sI, hx_sl_sI, hx_kd_sI, hx_ln_sI, hx_I_sI, hx_L_sI, hx_R_sI, hx_nx_sL, hx_ce_sL, hx_sl_sL, hx_kd_sL, hx_ln_sL, hx_I_sL, hx_L_sL, hx_R_sL, hx_nx_sR, hx_ce_sR, hx_sl_sR, hx_kd_sR, hx_ln_sR, hx_I_sR, hx_L_sR, hx_R_sR, hx_nx_al, hx_ce_al, hx_sl_al, hx_kd_al, hx_ln_al, hx_I_al, hx_L_al, hx_R_al, hx_nx_row, hx_ce_row, hx_sl_row, hx_kd_row, hx_ln_row, hx_I_row, hx_L_row, hx_R_row, hx_nx_mk, hx_kd_mk, hx_ln_mk, hx_I_mk, hx_L_mk, hx_R_mk, k25, r252]
  have sr : am_sR h 28 0 29 = h := hx_sR_id r28
  refine am_call (Q := fun o h' => o = .inl none ∧ am_fi [25, 29] h h' ∧ am_I h' 25 5 = 1 ∧ am_I h' 29 0 = 0) ?_ (fun o h1 q => ?_)
  · have f1 : am_fi [25, 29] h (am_sI (am_sI h 29 5 0) 29 0 0) := (am_fi.refl.sI (by simp)).sI (by simp)
    have y5 : am_I (am_sI (am_sI h 29 5 0) 29 0 0) 25 5 = 0 := by simp only [hx_nx_sI, hx_ce_sI, hx_sl_sI, hx_kd_sI, hx_ln_sI, hx_I_sI, hx_L_sI, hx_R_sI, hx_nx_sL, hx_ce_sL, hx_sl_sL, hx_kd_sL, hx_ln_sL, hx_I_sL, hx_L_sL, hx_R_sL, hx_nx_sR, hx_ce_sR, hx_sl_sR, hx_kd_sR, hx_ln_sR, hx_I_sR, hx_L_sR, hx_R_sR, hx_nx_al, hx_ce_al, hx_sl_al, hx_kd_al, hx_ln_al, hx_I_al, hx_L_al, hx_R_al, hx_nx_row, hx_ce_row, hx_sl_row, hx_kd_row, hx_ln_row, hx_I_row, hx_L_row, hx_R_row, hx_nx_mk, hx_kd_mk, hx_ln_mk, hx_I_mk, hx_L_mk, hx_R_mk, am_wp, am_stp, am_en, am_as, am_pad, am_nth, am_set, am_st1, am_st2, am_kl, am_kill, am_mem, am_fv, am_tk, am_wt, am_bk, Option.toList, List.cons_append, List.nil_append, Nat.reduceAdd, Nat.reduceEqDiff, Nat.reduceLeDiff, reduceIte, Nat.reduceLT, or_self, true_or, or_true, if_true, if_false, and_self, and_true, true_and, not_false_eq_true, not_true_eq_false]; exact i5
    have y0 : am_I (am_sI (am_sI h 29 5 0) 29 0 0) 29 0 = 0 := by simp only [hx_nx_sI, hx_ce_sI, hx_sl_sI, hx_kd_sI, hx_ln_sI, hx_I_sI, hx_L_sI, hx_R_sI, hx_nx_sL, hx_ce_sL, hx_sl_sL, hx_kd_sL, hx_ln_sL, hx_I_sL, hx_L_sL, hx_R_sL, hx_nx_sR, hx_ce_sR, hx_sl_sR, hx_kd_sR, hx_ln_sR, hx_I_sR, hx_L_sR, hx_R_sR, hx_nx_al, hx_ce_al, hx_sl_al, hx_kd_al, hx_ln_al, hx_I_al, hx_L_al, hx_R_al, hx_nx_row, hx_ce_row, hx_sl_row, hx_kd_row, hx_ln_row, hx_I_row, hx_L_row, hx_R_row, hx_nx_mk, hx_kd_mk, hx_ln_mk, hx_I_mk, hx_L_mk, hx_R_mk, am_wp, am_stp, am_en, am_as, am_pad, am_nth, am_set, am_st1, am_st2, am_kl, am_kill, am_mem, am_fv, am_tk, am_wt, am_bk, Option.toList, List.cons_append, List.nil_append, Nat.reduceAdd, Nat.reduceEqDiff, Nat.reduceLeDiff, reduceIte, Nat.reduceLT, or_self, true_or, or_true, if_true, if_false, and_self, and_true, true_and, not_false_eq_true, not_true_eq_false]
    generalize am_sI (am_sI h 29 5 0) 29 0 0 = g at *
    have q25 : am_kd g 25 = 2 := by rw [f1.2.2.2.1]; exact k25
    have w254 : am_R g 25 4 = 28 := by rw [f1.2.2.2.2.2.1]; exact r254
    have q28 : am_kd g 28 = 203 := by rw [f1.2.2.2.1]; exact k28
    have l28 : am_ln g 28 = 10 := by rw [f1.2.2.2.2.1]; exact n28
    have w28 : am_R g 28 0 = 29 := by rw [f1.2.2.2.2.2.1]; exact r28
    have q29 : am_kd g 29 = 11 := by rw [f1.2.2.2.1]; exact k29
    have sr : am_sR g 28 0 29 = g := hx_sR_id w28
    have l10 : (0 : Int32) < 10 := by decide
    have n1 : (200 ≤ 203 ∧ 203 < 204) := by decide
    have i0 : ¬ ((0 : Int32) < 0 ∨ 10 ≤ (0 : Int32).toNatClampNeg) := by decide
    have c0 : (0 : Int32).toNatClampNeg = 0 := by decide
    have le0 : ¬ ((0 : Int32) < 0) := by decide
    have e01 : (0 : Int32) + 1 = 1 := by decide
    refine am_in' (d := d) mt_Blend_addInput 2 rfl rfl rfl ?_
    refine am_go [29, 9] 4 ?_
    simp only [am_wp, am_stp, am_en, am_as, am_pad, am_nth, am_set, am_st1, am_st2, am_kl, am_kill, am_mem, am_fv, am_tk, am_wt, am_bk, Option.toList, List.cons_append, List.nil_append, Nat.reduceAdd, Nat.reduceEqDiff, Nat.reduceLeDiff, reduceIte, Nat.reduceLT, or_self, true_or, or_true, if_true, if_false, and_self, and_true, true_and, not_false_eq_true, not_true_eq_false, fd_Blend_addInput_0, fd_Blend_addInput_1, fd_Blend_addInput_4, fd_Blend_addInput_6, q25, y5, l10]
    refine am_go [] 6 ?_
    simp only [am_wp, am_stp, am_en, am_as, am_pad, am_nth, am_set, am_st1, am_st2, am_kl, am_kill, am_mem, am_fv, am_tk, am_wt, am_bk, Option.toList, List.cons_append, List.nil_append, Nat.reduceAdd, Nat.reduceEqDiff, Nat.reduceLeDiff, reduceIte, Nat.reduceLT, or_self, true_or, or_true, if_true, if_false, and_self, and_true, true_and, not_false_eq_true, not_true_eq_false, fd_Blend_addInput_9, fd_Blend_addInput_10, fd_Blend_addInput_13, fd_Blend_addInput_14, fd_Blend_addInput_17, fd_Blend_addInput_18, q25, w254, y5, q28, l28, n1, i0, c0, le0, q29]
    rw [sr]
    refine am_go [] 8 ?_
    simp only [am_wp, am_stp, am_en, am_as, am_pad, am_nth, am_set, am_st1, am_st2, am_kl, am_kill, am_mem, am_fv, am_tk, am_wt, am_bk, Option.toList, List.cons_append, List.nil_append, Nat.reduceAdd, Nat.reduceEqDiff, Nat.reduceLeDiff, reduceIte, Nat.reduceLT, or_self, true_or, or_true, if_true, if_false, and_self, and_true, true_and, not_false_eq_true, not_true_eq_false, fd_Blend_addInput_19, fd_Blend_addInput_20, fd_Blend_addInput_21, fd_Blend_addInput_24, fd_Blend_addInput_25, fd_Blend_addInput_26, fd_Blend_addInput_29, q25, y5, e01, hx_nx_sI, hx_ce_sI, hx_sl_sI, hx_kd_sI, hx_ln_sI, hx_I_sI, hx_L_sI, hx_R_sI, hx_nx_sL, hx_ce_sL, hx_sl_sL, hx_kd_sL, hx_ln_sL, hx_I_sL, hx_L_sL, hx_R_sL, hx_nx_sR, hx_ce_sR, hx_sl_sR, hx_kd_sR, hx_ln_sR, hx_I_sR, hx_L_sR, hx_R_sR, hx_nx_al, hx_ce_al, hx_sl_al, hx_kd_al, hx_ln_al, hx_I_al, hx_L_al, hx_R_al, hx_nx_row, hx_ce_row, hx_sl_row, hx_kd_row, hx_ln_row, hx_I_row, hx_L_row, hx_R_row, hx_nx_mk, hx_kd_mk, hx_ln_mk, hx_I_mk, hx_L_mk, hx_R_mk, y0]
    exact f1.sI (by simp)
  obtain ⟨rfl, f, f5, f0⟩ := q
  simp only [am_wp, am_stp, am_en, am_as, am_pad, am_nth, am_set, am_st1, am_st2, am_kl, am_kill, am_mem, am_fv, am_tk, am_wt, am_bk, Option.toList, List.cons_append, List.nil_append, Nat.reduceAdd, Nat.reduceEqDiff, Nat.reduceLeDiff, reduceIte, Nat.reduceLT, or_self, true_or, or_true, if_true, if_false, and_self, and_true, true_and, not_false_eq_true, not_true_eq_false]
  refine am_go [] 2 ?_
  simp only [am_wp, am_stp, am_en, am_as, am_pad, am_nth, am_set, am_st1, am_st2, am_kl, am_kill, am_mem, am_fv, am_tk, am_wt, am_bk, Option.toList, List.cons_append, List.nil_append, Nat.reduceAdd, Nat.reduceEqDiff, Nat.reduceLeDiff, reduceIte, Nat.reduceLT, or_self, true_or, or_true, if_true, if_false, and_self, and_true, true_and, not_false_eq_true, not_true_eq_false, fd_Blend_addTable_22, f5, f0]
  exact f
theorem l2_advance0 {d : Nat} {h : am_H} (k25 : am_kd h 25 = 2) (r254 : am_R h 25 4 = 28) (k29 : am_kd h 29 = 11) (k28 : am_kd h 28 = 203) (n28 : am_ln h 28 = 10) (r28 : am_R h 28 0 = 29) (i5 : am_I h 25 5 = 1) (i0 : am_I h 29 0 = 0) : am_Rt nm_pr (d + 2) mi_Blend_advance [.ref 25] h (fun o h' => o = .inl (some (.int 0)) ∧ h' = h) := by
  have o0 : (0 : Int32) = 0 ∨ (0 : Int32) = 1 := by decide
  have lm : (0 : Int32) < 1000000 := by decide
  have l01 : (0 : Int32) < 1 := by decide
  have l11 : ¬ (1 : Int32) < 1 := by decide
  have n1 : (200 ≤ 203 ∧ 203 < 204) := by decide
  have ii : ¬ ((0 : Int32) < 0 ∨ 10 ≤ (0 : Int32).toNatClampNeg) := by decide
  have c0 : (0 : Int32).toNatClampNeg = 0 := by decide
  have le0 : ¬ ((0 : Int32) < 0) := by decide
  have e01 : (0 : Int32) + 1 = 1 := by decide
  refine am_in' (d := d + 1) mt_Blend_advance 4 rfl rfl rfl ?_
  refine am_go [121, 8] 5 ?_
  simp only [am_wp, am_stp, am_en, am_as, am_pad, am_nth, am_set, am_st1, am_st2, am_kl, am_kill, am_mem, am_fv, am_tk, am_wt, am_bk, Option.toList, List.cons_append, List.nil_append, Nat.reduceAdd, Nat.reduceEqDiff, Nat.reduceLeDiff, reduceIte, Nat.reduceLT, or_self, true_or, or_true, if_true, if_false, and_self, and_true, true_and, not_false_eq_true, not_true_eq_false, fd_Blend_advance_0, fd_Blend_advance_1, fd_Blend_advance_2, fd_Blend_advance_3, fd_Blend_advance_5, lm]
  refine am_go [] 2 ?_
  simp only [am_wp, am_stp, am_en, am_as, am_pad, am_nth, am_set, am_st1, am_st2, am_kl, am_kill, am_mem, am_fv, am_tk, am_wt, am_bk, Option.toList, List.cons_append, List.nil_append, Nat.reduceAdd, Nat.reduceEqDiff, Nat.reduceLeDiff, reduceIte, Nat.reduceLT, or_self, true_or, or_true, if_true, if_false, and_self, and_true, true_and, not_false_eq_true, not_true_eq_false, fd_Blend_advance_8, fd_Blend_advance_9, k25]
  refine am_call (Q := fun o h' => o = .inl (some (.int 0)) ∧ h' = h) ?_ (fun o h1 q => ?_)
  · refine am_in' (d := d) mt_Blend_findLeast 4 rfl rfl rfl ?_
    refine am_go [12, 58] 8 ?_
    simp only [am_wp, am_stp, am_en, am_as, am_pad, am_nth, am_set, am_st1, am_st2, am_kl, am_kill, am_mem, am_fv, am_tk, am_wt, am_bk, Option.toList, List.cons_append, List.nil_append, Nat.reduceAdd, Nat.reduceEqDiff, Nat.reduceLeDiff, reduceIte, Nat.reduceLT, or_self, true_or, or_true, if_true, if_false, and_self, and_true, true_and, not_false_eq_true, not_true_eq_false, fd_Blend_findLeast_0, fd_Blend_findLeast_1, fd_Blend_findLeast_2, fd_Blend_findLeast_3, fd_Blend_findLeast_4, fd_Blend_findLeast_5, fd_Blend_findLeast_6, fd_Blend_findLeast_9, k25, i5, l01]
    refine am_go [26, 52] 8 ?_
    simp only [am_wp, am_stp, am_en, am_as, am_pad, am_nth, am_set, am_st1, am_st2, am_kl, am_kill, am_mem, am_fv, am_tk, am_wt, am_bk, Option.toList, List.cons_append, List.nil_append, Nat.reduceAdd, Nat.reduceEqDiff, Nat.reduceLeDiff, reduceIte, Nat.reduceLT, or_self, true_or, or_true, if_true, if_false, and_self, and_true, true_and, not_false_eq_true, not_true_eq_false, fd_Blend_findLeast_12, fd_Blend_findLeast_13, fd_Blend_findLeast_16, fd_Blend_findLeast_17, fd_Blend_findLeast_18, fd_Blend_findLeast_19, fd_Blend_findLeast_20, fd_Blend_findLeast_23, k25, r254, k28, n28, n1, ii, c0, le0, r28, k29, i0]
    refine am_go [4] 2 ?_
    simp only [am_wp, am_stp, am_en, am_as, am_pad, am_nth, am_set, am_st1, am_st2, am_kl, am_kill, am_mem, am_fv, am_tk, am_wt, am_bk, Option.toList, List.cons_append, List.nil_append, Nat.reduceAdd, Nat.reduceEqDiff, Nat.reduceLeDiff, reduceIte, Nat.reduceLT, or_self, true_or, or_true, if_true, if_false, and_self, and_true, true_and, not_false_eq_true, not_true_eq_false, fd_Blend_findLeast_52, fd_Blend_findLeast_55, e01]
    refine am_go [12] 7 ?_
    simp only [am_wp, am_stp, am_en, am_as, am_pad, am_nth, am_set, am_st1, am_st2, am_kl, am_kill, am_mem, am_fv, am_tk, am_wt, am_bk, Option.toList, List.cons_append, List.nil_append, Nat.reduceAdd, Nat.reduceEqDiff, Nat.reduceLeDiff, reduceIte, Nat.reduceLT, or_self, true_or, or_true, if_true, if_false, and_self, and_true, true_and, not_false_eq_true, not_true_eq_false, fd_Blend_findLeast_4, fd_Blend_findLeast_5, fd_Blend_findLeast_6, fd_Blend_findLeast_9, fd_Blend_findLeast_58, fd_Blend_findLeast_59, k25, i5, l11, o0]
  obtain ⟨rfl, rfl⟩ := q
  simp only [am_wp, am_stp, am_en, am_as, am_pad, am_nth, am_set, am_st1, am_st2, am_kl, am_kill, am_mem, am_fv, am_tk, am_wt, am_bk, Option.toList, List.cons_append, List.nil_append, Nat.reduceAdd, Nat.reduceEqDiff, Nat.reduceLeDiff, reduceIte, Nat.reduceLT, or_self, true_or, or_true, if_true, if_false, and_self, and_true, true_and, not_false_eq_true, not_true_eq_false]
  refine am_go [15] 4 ?_
  simp only [am_wp, am_stp, am_en, am_as, am_pad, am_nth, am_set, am_st1, am_st2, am_kl, am_kill, am_mem, am_fv, am_tk, am_wt, am_bk, Option.toList, List.cons_append, List.nil_append, Nat.reduceAdd, Nat.reduceEqDiff, Nat.reduceLeDiff, reduceIte, Nat.reduceLT, or_self, true_or, or_true, if_true, if_false, and_self, and_true, true_and, not_false_eq_true, not_true_eq_false, fd_Blend_advance_12, fd_Blend_advance_121, fd_Blend_advance_122, o0]
theorem l2_gather0 {d : Nat} {a b : Int64} {h : am_H} (k2 : am_kd h 2 = 1) (r5 : am_R h 2 5 = 25) (k25 : am_kd h 25 = 2) (r254 : am_R h 25 4 = 28) (k29 : am_kd h 29 = 11) (k28 : am_kd h 28 = 203) (n28 : am_ln h 28 = 10) (r28 : am_R h 28 0 = 29) (i5 : am_I h 25 5 = 1) (i0 : am_I h 29 0 = 0) : am_Rt nm_pr (d + 3) mi_SR_gatherAnswers [.ref 2, .long a, .long b] h (fun o h' => o = .inl (some (.int 0)) ∧ h' = h) := by
  have lm : (0 : Int32) < 1000000 := by decide
  refine am_in' (d := d + 2) mt_SR_gatherAnswers 7 rfl rfl rfl ?_
  refine am_go [13, 77] 7 ?_
  simp only [am_wp, am_stp, am_en, am_as, am_pad, am_nth, am_set, am_st1, am_st2, am_kl, am_kill, am_mem, am_fv, am_tk, am_wt, am_bk, Option.toList, List.cons_append, List.nil_append, Nat.reduceAdd, Nat.reduceEqDiff, Nat.reduceLeDiff, reduceIte, Nat.reduceLT, or_self, true_or, or_true, if_true, if_false, and_self, and_true, true_and, not_false_eq_true, not_true_eq_false, fd_SR_gatherAnswers_0, fd_SR_gatherAnswers_1, fd_SR_gatherAnswers_3, fd_SR_gatherAnswers_4, fd_SR_gatherAnswers_6, fd_SR_gatherAnswers_8, fd_SR_gatherAnswers_10, lm]
  refine am_go [] 3 ?_
  simp only [am_wp, am_stp, am_en, am_as, am_pad, am_nth, am_set, am_st1, am_st2, am_kl, am_kill, am_mem, am_fv, am_tk, am_wt, am_bk, Option.toList, List.cons_append, List.nil_append, Nat.reduceAdd, Nat.reduceEqDiff, Nat.reduceLeDiff, reduceIte, Nat.reduceLT, or_self, true_or, or_true, if_true, if_false, and_self, and_true, true_and, not_false_eq_true, not_true_eq_false, fd_SR_gatherAnswers_13, fd_SR_gatherAnswers_14, fd_SR_gatherAnswers_17, k2, r5, k25]
  refine am_call (l2_advance0 k25 r254 k29 k28 n28 r28 i5 i0) (fun o h1 q => ?_)
  obtain ⟨rfl, rfl⟩ := q
  simp only [am_wp, am_stp, am_en, am_as, am_pad, am_nth, am_set, am_st1, am_st2, am_kl, am_kill, am_mem, am_fv, am_tk, am_wt, am_bk, Option.toList, List.cons_append, List.nil_append, Nat.reduceAdd, Nat.reduceEqDiff, Nat.reduceLeDiff, reduceIte, Nat.reduceLT, or_self, true_or, or_true, if_true, if_false, and_self, and_true, true_and, not_false_eq_true, not_true_eq_false]
  refine am_go [23] 4 ?_
  simp only [am_wp, am_stp, am_en, am_as, am_pad, am_nth, am_set, am_st1, am_st2, am_kl, am_kill, am_mem, am_fv, am_tk, am_wt, am_bk, Option.toList, List.cons_append, List.nil_append, Nat.reduceAdd, Nat.reduceEqDiff, Nat.reduceLeDiff, reduceIte, Nat.reduceLT, or_self, true_or, or_true, if_true, if_false, and_self, and_true, true_and, not_false_eq_true, not_true_eq_false, fd_SR_gatherAnswers_20, fd_SR_gatherAnswers_77, fd_SR_gatherAnswers_79]
theorem lc_gt (a b : Int64) : (0 < (if a < b then (-1 : Int32) else if a = b then 0 else 1)) = (b < a) := by
  have n : ∀ z : Int64, ¬ z < z := fun z hz => by rw [Int64.lt_iff_toInt_lt] at hz; omega
  by_cases h1 : a < b
  · have h2 : ¬ b < a := fun q => n a (l_tr h1 q)
    simp only [h1, if_true, h2]; decide
  · by_cases h2 : a = b
    · subst h2
      simp only [h1, if_false, if_true]; decide
    · have h3 : b < a := by
        have : a.toInt ≠ b.toInt := fun e => h2 (Int64.toInt_inj.mp e)
        rw [Int64.lt_iff_toInt_lt] at *
        omega
      simp only [h1, if_false, h2, h3]; decide
/-- the class's answer, of an object that is new and the mark -1 -/
theorem l2_SR_range0 {d P : Nat} {a b : Int64} {xs : Nat → Int32} {h : am_H} (G : lw_G 8 xs h) (F : fr_All P h) : am_Rt nm_pr (d + 4) mi_SR_range [.ref 2, .int (-1), .long a, .long b] h (fun o h' => (b < a ∧ o = .inr (1, am_nx h) ∧ h' = am_al h 0 0 6) ∨ (¬ b < a ∧ o = .inl (some (.int 0)) ∧ am_fi [2, 25, 29] h h')) := by
  obtain ⟨s1, s2, s3⟩ := F.2.2.2.2.2.2.2.2.2.2.2.2.2.2
  have r5 : am_R h 2 5 = 25 := by rw [s2]; rfl
  have i11 : am_I h 2 11 = 0 := by rw [s3]; rfl
  have k8 : am_kd h 8 = 6 := F.1.2.1.1
  have i8 : am_I h 8 1 = 0 := F.1.2.1.2.2.1.1 1
  obtain ⟨f25, f26, f27, f28, f29, -⟩ := F.2.2.2.2.2.2.2.2.2.2.2.1
  have T := tb_S_new F.1.1
  have le0 : ¬ ((0 : Int32) < 0) := by decide
  have one0 : ¬ (1 : Int32) = 0 := by decide
  refine am_in' (d := d + 3) mt_SR_range 8 rfl rfl rfl ?_
  refine am_go [] 3 ?_
  simp only [am_wp, am_stp, am_en, am_as, am_pad, am_nth, am_set, am_st1, am_st2, am_kl, am_kill, am_mem, am_fv, am_tk, am_wt, am_bk, Option.toList, List.cons_append, List.nil_append, Nat.reduceAdd, Nat.reduceEqDiff, Nat.reduceLeDiff, reduceIte, Nat.reduceLT, or_self, true_or, or_true, if_true, if_false, and_self, and_true, true_and, not_false_eq_true, not_true_eq_false, fd_SR_range_0, fd_SR_range_1, fd_SR_range_2, s1]
  refine am_call (l2_SR_runsOf0 G) (fun o h1 q => ?_)
  rcases q with ⟨-, rfl, rfl⟩ | ⟨q, -⟩
  · simp only [am_wp, am_stp, am_en, am_as, am_pad, am_nth, am_set, am_st1, am_st2, am_kl, am_kill, am_mem, am_fv, am_tk, am_wt, am_bk, Option.toList, List.cons_append, List.nil_append, Nat.reduceAdd, Nat.reduceEqDiff, Nat.reduceLeDiff, reduceIte, Nat.reduceLT, or_self, true_or, or_true, if_true, if_false, and_self, and_true, true_and, not_false_eq_true, not_true_eq_false]
    refine am_go [14, 25] 5 ?_
    simp only [am_wp, am_stp, am_en, am_as, am_pad, am_nth, am_set, am_st1, am_st2, am_kl, am_kill, am_mem, am_fv, am_tk, am_wt, am_bk, Option.toList, List.cons_append, List.nil_append, Nat.reduceAdd, Nat.reduceEqDiff, Nat.reduceLeDiff, reduceIte, Nat.reduceLT, or_self, true_or, or_true, if_true, if_false, and_self, and_true, true_and, not_false_eq_true, not_true_eq_false, fd_SR_range_5, fd_SR_range_7, fd_SR_range_8, fd_SR_range_10, fd_SR_range_11]
    simp only [lc_gt]
    by_cases e : b < a
    · simp only [e, am_wp, am_stp, am_en, am_as, am_pad, am_nth, am_set, am_st1, am_st2, am_kl, am_kill, am_mem, am_fv, am_tk, am_wt, am_bk, Option.toList, List.cons_append, List.nil_append, Nat.reduceAdd, Nat.reduceEqDiff, Nat.reduceLeDiff, reduceIte, Nat.reduceLT, or_self, true_or, or_true, if_true, if_false, and_self, and_true, true_and, not_false_eq_true, not_true_eq_false]
      refine am_go [] 3 ?_
      simp only [am_wp, am_stp, am_en, am_as, am_pad, am_nth, am_set, am_st1, am_st2, am_kl, am_kill, am_mem, am_fv, am_tk, am_wt, am_bk, Option.toList, List.cons_append, List.nil_append, Nat.reduceAdd, Nat.reduceEqDiff, Nat.reduceLeDiff, reduceIte, Nat.reduceLT, or_self, true_or, or_true, if_true, if_false, and_self, and_true, true_and, not_false_eq_true, not_true_eq_false, fd_SR_range_14]
    simp only [e, am_wp, am_stp, am_en, am_as, am_pad, am_nth, am_set, am_st1, am_st2, am_kl, am_kill, am_mem, am_fv, am_tk, am_wt, am_bk, Option.toList, List.cons_append, List.nil_append, Nat.reduceAdd, Nat.reduceEqDiff, Nat.reduceLeDiff, reduceIte, Nat.reduceLT, or_self, true_or, or_true, if_true, if_false, and_self, and_true, true_and, not_false_eq_true, not_true_eq_false]
    have z : am_sI h1 2 11 0 = h1 := hx_sI_id i11
    refine am_go [30] 3 ?_
    simp only [am_wp, am_stp, am_en, am_as, am_pad, am_nth, am_set, am_st1, am_st2, am_kl, am_kill, am_mem, am_fv, am_tk, am_wt, am_bk, Option.toList, List.cons_append, List.nil_append, Nat.reduceAdd, Nat.reduceEqDiff, Nat.reduceLeDiff, reduceIte, Nat.reduceLT, or_self, true_or, or_true, if_true, if_false, and_self, and_true, true_and, not_false_eq_true, not_true_eq_false, fd_SR_range_25, fd_SR_range_26, fd_SR_range_27, s1]
    rw [z]
    refine am_go [] 6 ?_
    simp only [am_wp, am_stp, am_en, am_as, am_pad, am_nth, am_set, am_st1, am_st2, am_kl, am_kill, am_mem, am_fv, am_tk, am_wt, am_bk, Option.toList, List.cons_append, List.nil_append, Nat.reduceAdd, Nat.reduceEqDiff, Nat.reduceLeDiff, reduceIte, Nat.reduceLT, or_self, true_or, or_true, if_true, if_false, and_self, and_true, true_and, not_false_eq_true, not_true_eq_false, fd_SR_range_30, fd_SR_range_31, fd_SR_range_33, fd_SR_range_34, fd_SR_range_36, fd_SR_range_39, s1, k8, i8]
    refine am_call (Q := fun o h' => o = .inl (some (.int 1)) ∧ h' = h1) ?_ (fun o h2 q => ?_)
    · have o1 : (1 : Int32) = 0 ∨ (1 : Int32) = 1 := by decide
      refine am_in' (d := d + 2) mt_SR_readRuns 8 rfl rfl rfl ?_
      refine am_go [9] 8 ?_
      simp only [am_wp, am_stp, am_en, am_as, am_pad, am_nth, am_set, am_st1, am_st2, am_kl, am_kill, am_mem, am_fv, am_tk, am_wt, am_bk, Option.toList, List.cons_append, List.nil_append, Nat.reduceAdd, Nat.reduceEqDiff, Nat.reduceLeDiff, reduceIte, Nat.reduceLT, or_self, true_or, or_true, if_true, if_false, and_self, and_true, true_and, not_false_eq_true, not_true_eq_false, fd_SR_readRuns_0, fd_SR_readRuns_1, fd_SR_readRuns_3, fd_SR_readRuns_5, fd_SR_readRuns_6, fd_SR_readRuns_82, fd_SR_readRuns_83, le0, o1]
    obtain ⟨rfl, rfl⟩ := q
    simp only [am_wp, am_stp, am_en, am_as, am_pad, am_nth, am_set, am_st1, am_st2, am_kl, am_kill, am_mem, am_fv, am_tk, am_wt, am_bk, Option.toList, List.cons_append, List.nil_append, Nat.reduceAdd, Nat.reduceEqDiff, Nat.reduceLeDiff, reduceIte, Nat.reduceLT, or_self, true_or, or_true, if_true, if_false, and_self, and_true, true_and, not_false_eq_true, not_true_eq_false]
    refine am_go [45, 57] 5 ?_
    simp only [am_wp, am_stp, am_en, am_as, am_pad, am_nth, am_set, am_st1, am_st2, am_kl, am_kill, am_mem, am_fv, am_tk, am_wt, am_bk, Option.toList, List.cons_append, List.nil_append, Nat.reduceAdd, Nat.reduceEqDiff, Nat.reduceLeDiff, reduceIte, Nat.reduceLT, or_self, true_or, or_true, if_true, if_false, and_self, and_true, true_and, not_false_eq_true, not_true_eq_false, fd_SR_range_42, fd_SR_range_52, fd_SR_range_53, fd_SR_range_54, s1, one0]
    have f1 : am_fi [2, 25, 29] h2 (am_sI h2 2 14 1) := am_fi.refl.sI (by simp)
    refine am_go [] 4 ?_
    simp only [am_wp, am_stp, am_en, am_as, am_pad, am_nth, am_set, am_st1, am_st2, am_kl, am_kill, am_mem, am_fv, am_tk, am_wt, am_bk, Option.toList, List.cons_append, List.nil_append, Nat.reduceAdd, Nat.reduceEqDiff, Nat.reduceLeDiff, reduceIte, Nat.reduceLT, or_self, true_or, or_true, if_true, if_false, and_self, and_true, true_and, not_false_eq_true, not_true_eq_false, fd_SR_range_57, fd_SR_range_58, fd_SR_range_61, fd_SR_range_62, hx_nx_sI, hx_ce_sI, hx_sl_sI, hx_kd_sI, hx_ln_sI, hx_I_sI, hx_L_sI, hx_R_sI, hx_nx_sL, hx_ce_sL, hx_sl_sL, hx_kd_sL, hx_ln_sL, hx_I_sL, hx_L_sL, hx_R_sL, hx_nx_sR, hx_ce_sR, hx_sl_sR, hx_kd_sR, hx_ln_sR, hx_I_sR, hx_L_sR, hx_R_sR, hx_nx_al, hx_ce_al, hx_sl_al, hx_kd_al, hx_ln_al, hx_I_al, hx_L_al, hx_R_al, hx_nx_row, hx_ce_row, hx_sl_row, hx_kd_row, hx_ln_row, hx_I_row, hx_L_row, hx_R_row, hx_nx_mk, hx_kd_mk, hx_ln_mk, hx_I_mk, hx_L_mk, hx_R_mk, s1, r5, f25.1]
    refine am_call (l2_Bl_begin (by simp only [hx_nx_sI, hx_ce_sI, hx_sl_sI, hx_kd_sI, hx_ln_sI, hx_I_sI, hx_L_sI, hx_R_sI, hx_nx_sL, hx_ce_sL, hx_sl_sL, hx_kd_sL, hx_ln_sL, hx_I_sL, hx_L_sL, hx_R_sL, hx_nx_sR, hx_ce_sR, hx_sl_sR, hx_kd_sR, hx_ln_sR, hx_I_sR, hx_L_sR, hx_R_sR, hx_nx_al, hx_ce_al, hx_sl_al, hx_kd_al, hx_ln_al, hx_I_al, hx_L_al, hx_R_al, hx_nx_row, hx_ce_row, hx_sl_row, hx_kd_row, hx_ln_row, hx_I_row, hx_L_row, hx_R_row, hx_nx_mk, hx_kd_mk, hx_ln_mk, hx_I_mk, hx_L_mk, hx_R_mk]; exact f25.1) (Or.inr rfl)) (fun o g q => ?_)
    obtain ⟨rfl, f2, b5, -, -⟩ := q
    simp only [am_wp, am_stp, am_en, am_as, am_pad, am_nth, am_set, am_st1, am_st2, am_kl, am_kill, am_mem, am_fv, am_tk, am_wt, am_bk, Option.toList, List.cons_append, List.nil_append, Nat.reduceAdd, Nat.reduceEqDiff, Nat.reduceLeDiff, reduceIte, Nat.reduceLT, or_self, true_or, or_true, if_true, if_false, and_self, and_true, true_and, not_false_eq_true, not_true_eq_false]
    have f3 := f1.trans (f2.sub (by simp))
    clear f1 f2
    have q2 : am_kd g 2 = 1 := by rw [f3.2.2.2.1]; exact s1
    have w5 : am_R g 2 5 = 25 := by rw [f3.2.2.2.2.2.1]; exact r5
    have q25 : am_kd g 25 = 2 := by rw [f3.2.2.2.1]; exact f25.1
    have w252 : am_R g 25 2 = 29 := by rw [f3.2.2.2.2.2.1, f25.2.2.2]; rfl
    have w254 : am_R g 25 4 = 28 := by rw [f3.2.2.2.2.2.1, f25.2.2.2]; rfl
    have q29 : am_kd g 29 = 11 := by rw [f3.2.2.2.1]; exact f29.1
    have w294 : am_R g 29 4 = 3 := by rw [f3.2.2.2.2.2.1, f29.2.2.2]; rfl
    have q28 : am_kd g 28 = 203 := by rw [f3.2.2.2.1]; exact f28.1
    have l28 : am_ln g 28 = 10 := by rw [f3.2.2.2.2.1]; exact f28.2.1
    have w28 : am_R g 28 0 = 29 := by rw [f3.2.2.2.2.2.1, f28.2.2.2]; rfl
    refine am_go [77, 70] 3 ?_
    simp only [am_wp, am_stp, am_en, am_as, am_pad, am_nth, am_set, am_st1, am_st2, am_kl, am_kill, am_mem, am_fv, am_tk, am_wt, am_bk, Option.toList, List.cons_append, List.nil_append, Nat.reduceAdd, Nat.reduceEqDiff, Nat.reduceLeDiff, reduceIte, Nat.reduceLT, or_self, true_or, or_true, if_true, if_false, and_self, and_true, true_and, not_false_eq_true, not_true_eq_false, fd_SR_range_65, fd_SR_range_66, fd_SR_range_67]
    refine am_go [] 3 ?_
    simp only [am_wp, am_stp, am_en, am_as, am_pad, am_nth, am_set, am_st1, am_st2, am_kl, am_kill, am_mem, am_fv, am_tk, am_wt, am_bk, Option.toList, List.cons_append, List.nil_append, Nat.reduceAdd, Nat.reduceEqDiff, Nat.reduceLeDiff, reduceIte, Nat.reduceLT, or_self, true_or, or_true, if_true, if_false, and_self, and_true, true_and, not_false_eq_true, not_true_eq_false, fd_SR_range_70, fd_SR_range_71, fd_SR_range_74, q2, w5, q25]
    refine am_call (l2_addTable0 (T.fi f3 (by simp)) q25 w252 w254 q29 w294 q28 l28 w28 b5) (fun o g2 q => ?_)
    obtain ⟨rfl, f4, d5, d0⟩ := q
    simp only [am_wp, am_stp, am_en, am_as, am_pad, am_nth, am_set, am_st1, am_st2, am_kl, am_kill, am_mem, am_fv, am_tk, am_wt, am_bk, Option.toList, List.cons_append, List.nil_append, Nat.reduceAdd, Nat.reduceEqDiff, Nat.reduceLeDiff, reduceIte, Nat.reduceLT, or_self, true_or, or_true, if_true, if_false, and_self, and_true, true_and, not_false_eq_true, not_true_eq_false]
    have f5 := f3.trans (f4.sub (by simp))
    have p2 : am_kd g2 2 = 1 := by rw [f5.2.2.2.1]; exact s1
    have v5 : am_R g2 2 5 = 25 := by rw [f5.2.2.2.2.2.1]; exact r5
    have p8 : am_kd g2 8 = 6 := by rw [f5.2.2.2.1]; exact k8
    have u8 : am_I g2 8 1 = 0 := by rw [f5.2.2.2.2.2.2.1 8 (by simp)]; exact i8
    have p25 : am_kd g2 25 = 2 := by rw [f4.2.2.2.1]; exact q25
    have v254 : am_R g2 25 4 = 28 := by rw [f4.2.2.2.2.2.1]; exact w254
    have p29 : am_kd g2 29 = 11 := by rw [f4.2.2.2.1]; exact q29
    have p28 : am_kd g2 28 = 203 := by rw [f4.2.2.2.1]; exact q28
    have m28 : am_ln g2 28 = 10 := by rw [f4.2.2.2.2.1]; exact l28
    have v28 : am_R g2 28 0 = 29 := by rw [f4.2.2.2.2.2.1]; exact w28
    refine am_go [90, 119] 7 ?_
    simp only [am_wp, am_stp, am_en, am_as, am_pad, am_nth, am_set, am_st1, am_st2, am_kl, am_kill, am_mem, am_fv, am_tk, am_wt, am_bk, Option.toList, List.cons_append, List.nil_append, Nat.reduceAdd, Nat.reduceEqDiff, Nat.reduceLeDiff, reduceIte, Nat.reduceLT, or_self, true_or, or_true, if_true, if_false, and_self, and_true, true_and, not_false_eq_true, not_true_eq_false, fd_SR_range_77, fd_SR_range_78, fd_SR_range_80, fd_SR_range_82, fd_SR_range_84, fd_SR_range_87, p8, u8, le0]
    refine am_go [] 4 ?_
    simp only [am_wp, am_stp, am_en, am_as, am_pad, am_nth, am_set, am_st1, am_st2, am_kl, am_kill, am_mem, am_fv, am_tk, am_wt, am_bk, Option.toList, List.cons_append, List.nil_append, Nat.reduceAdd, Nat.reduceEqDiff, Nat.reduceLeDiff, reduceIte, Nat.reduceLT, or_self, true_or, or_true, if_true, if_false, and_self, and_true, true_and, not_false_eq_true, not_true_eq_false, fd_SR_range_119, fd_SR_range_120, fd_SR_range_121, fd_SR_range_123, p2]
    refine am_call (l2_gather0 p2 v5 p25 v254 p29 p28 m28 v28 d5 d0) (fun o g3 q => ?_)
    obtain ⟨rfl, rfl⟩ := q
    simp only [am_wp, am_stp, am_en, am_as, am_pad, am_nth, am_set, am_st1, am_st2, am_kl, am_kill, am_mem, am_fv, am_tk, am_wt, am_bk, Option.toList, List.cons_append, List.nil_append, Nat.reduceAdd, Nat.reduceEqDiff, Nat.reduceLeDiff, reduceIte, Nat.reduceLT, or_self, true_or, or_true, if_true, if_false, and_self, and_true, true_and, not_false_eq_true, not_true_eq_false]
    refine am_go [] 2 ?_
    simp only [am_wp, am_stp, am_en, am_as, am_pad, am_nth, am_set, am_st1, am_st2, am_kl, am_kill, am_mem, am_fv, am_tk, am_wt, am_bk, Option.toList, List.cons_append, List.nil_append, Nat.reduceAdd, Nat.reduceEqDiff, Nat.reduceLeDiff, reduceIte, Nat.reduceLT, or_self, true_or, or_true, if_true, if_false, and_self, and_true, true_and, not_false_eq_true, not_true_eq_false, fd_SR_range_126]
    simp [e, f5]
  · exact absurd rfl q
theorem l2_Mo_range0 {d P : Nat} {a b : Int64} {g : am_H} (hM : mo_All P g) : am_Rt nm_pr (d + 2) mi_Mo_range [.ref 72, .int (-1), .long a, .long b] g (fun o h' => o = .inl (some (.int 0)) ∧ am_fi [72] g h' ∧ am_I h' 72 0 = if b < a then 3 else 0) := by
  have hS := hM.Sk
  have k72 := hS.1
  have j0 : am_I g 72 0 = 0 := by rw [hM.2.1]; rfl
  have j11 : am_I g 72 11 = 0 := by rw [hM.2.1]; rfl
  have j24 : am_I g 72 24 = 0 := by rw [hM.2.1]; rfl
  have one0 : ¬ (1 : Int32) = 0 := by decide
  have le0 : ¬ ((0 : Int32) < 0) := by decide
  have l200 : (0 : Int32) < 200 := by decide
  refine am_in' (d := d + 1) mt_Mo_range 8 rfl rfl rfl ?_
  refine am_go [] 3 ?_
  simp only [am_wp, am_stp, am_en, am_as, am_pad, am_nth, am_set, am_st1, am_st2, am_kl, am_kill, am_mem, am_fv, am_tk, am_wt, am_bk, Option.toList, List.cons_append, List.nil_append, Nat.reduceAdd, Nat.reduceEqDiff, Nat.reduceLeDiff, reduceIte, Nat.reduceLT, or_self, true_or, or_true, if_true, if_false, and_self, and_true, true_and, not_false_eq_true, not_true_eq_false, fd_Mo_range_0, fd_Mo_range_1, fd_Mo_range_2, k72]
  refine am_call (l2_Mo_isView0 hM) (fun o h2 q => ?_)
  rcases q with ⟨-, rfl, rfl⟩ | ⟨q, -⟩
  · simp only [am_wp, am_stp, am_en, am_as, am_pad, am_nth, am_set, am_st1, am_st2, am_kl, am_kill, am_mem, am_fv, am_tk, am_wt, am_bk, Option.toList, List.cons_append, List.nil_append, Nat.reduceAdd, Nat.reduceEqDiff, Nat.reduceLeDiff, reduceIte, Nat.reduceLT, or_self, true_or, or_true, if_true, if_false, and_self, and_true, true_and, not_false_eq_true, not_true_eq_false]
    refine am_go [8, 17, 24] 5 ?_
    simp only [am_wp, am_stp, am_en, am_as, am_pad, am_nth, am_set, am_st1, am_st2, am_kl, am_kill, am_mem, am_fv, am_tk, am_wt, am_bk, Option.toList, List.cons_append, List.nil_append, Nat.reduceAdd, Nat.reduceEqDiff, Nat.reduceLeDiff, reduceIte, Nat.reduceLT, or_self, true_or, or_true, if_true, if_false, and_self, and_true, true_and, not_false_eq_true, not_true_eq_false, fd_Mo_range_5, fd_Mo_range_10, fd_Mo_range_11, fd_Mo_range_13, fd_Mo_range_14, one0]
    simp only [lc_gt]
    by_cases e : b < a
    · simp only [e, am_wp, am_stp, am_en, am_as, am_pad, am_nth, am_set, am_st1, am_st2, am_kl, am_kill, am_mem, am_fv, am_tk, am_wt, am_bk, Option.toList, List.cons_append, List.nil_append, Nat.reduceAdd, Nat.reduceEqDiff, Nat.reduceLeDiff, reduceIte, Nat.reduceLT, or_self, true_or, or_true, if_true, if_false, and_self, and_true, true_and, not_false_eq_true, not_true_eq_false]
      refine am_go [] 6 ?_
      simp only [am_wp, am_stp, am_en, am_as, am_pad, am_nth, am_set, am_st1, am_st2, am_kl, am_kill, am_mem, am_fv, am_tk, am_wt, am_bk, Option.toList, List.cons_append, List.nil_append, Nat.reduceAdd, Nat.reduceEqDiff, Nat.reduceLeDiff, reduceIte, Nat.reduceLT, or_self, true_or, or_true, if_true, if_false, and_self, and_true, true_and, not_false_eq_true, not_true_eq_false, fd_Mo_range_17, fd_Mo_range_18, fd_Mo_range_19, fd_Mo_range_22, fd_Mo_range_23, hx_nx_sI, hx_ce_sI, hx_sl_sI, hx_kd_sI, hx_ln_sI, hx_I_sI, hx_L_sI, hx_R_sI, hx_nx_sL, hx_ce_sL, hx_sl_sL, hx_kd_sL, hx_ln_sL, hx_I_sL, hx_L_sL, hx_R_sL, hx_nx_sR, hx_ce_sR, hx_sl_sR, hx_kd_sR, hx_ln_sR, hx_I_sR, hx_L_sR, hx_R_sR, hx_nx_al, hx_ce_al, hx_sl_al, hx_kd_al, hx_ln_al, hx_I_al, hx_L_al, hx_R_al, hx_nx_row, hx_ce_row, hx_sl_row, hx_kd_row, hx_ln_row, hx_I_row, hx_L_row, hx_R_row, hx_nx_mk, hx_kd_mk, hx_ln_mk, hx_I_mk, hx_L_mk, hx_R_mk, k72]
      exact am_fi.refl.sI (by simp)
    simp only [e, am_wp, am_stp, am_en, am_as, am_pad, am_nth, am_set, am_st1, am_st2, am_kl, am_kill, am_mem, am_fv, am_tk, am_wt, am_bk, Option.toList, List.cons_append, List.nil_append, Nat.reduceAdd, Nat.reduceEqDiff, Nat.reduceLeDiff, reduceIte, Nat.reduceLT, or_self, true_or, or_true, if_true, if_false, and_self, and_true, true_and, not_false_eq_true, not_true_eq_false]
    refine am_go [39, 107] 9 ?_
    simp only [am_wp, am_stp, am_en, am_as, am_pad, am_nth, am_set, am_st1, am_st2, am_kl, am_kill, am_mem, am_fv, am_tk, am_wt, am_bk, Option.toList, List.cons_append, List.nil_append, Nat.reduceAdd, Nat.reduceEqDiff, Nat.reduceLeDiff, reduceIte, Nat.reduceLT, or_self, true_or, or_true, if_true, if_false, and_self, and_true, true_and, not_false_eq_true, not_true_eq_false, fd_Mo_range_24, fd_Mo_range_25, fd_Mo_range_26, fd_Mo_range_29, fd_Mo_range_30, fd_Mo_range_31, fd_Mo_range_34, fd_Mo_range_35, fd_Mo_range_36, hx_nx_sI, hx_ce_sI, hx_sl_sI, hx_kd_sI, hx_ln_sI, hx_I_sI, hx_L_sI, hx_R_sI, hx_nx_sL, hx_ce_sL, hx_sl_sL, hx_kd_sL, hx_ln_sL, hx_I_sL, hx_L_sL, hx_R_sL, hx_nx_sR, hx_ce_sR, hx_sl_sR, hx_kd_sR, hx_ln_sR, hx_I_sR, hx_L_sR, hx_R_sR, hx_nx_al, hx_ce_al, hx_sl_al, hx_kd_al, hx_ln_al, hx_I_al, hx_L_al, hx_R_al, hx_nx_row, hx_ce_row, hx_sl_row, hx_kd_row, hx_ln_row, hx_I_row, hx_L_row, hx_R_row, hx_nx_mk, hx_kd_mk, hx_ln_mk, hx_I_mk, hx_L_mk, hx_R_mk, k72]
    refine am_go [59, 107] 11 ?_
    simp only [am_wp, am_stp, am_en, am_as, am_pad, am_nth, am_set, am_st1, am_st2, am_kl, am_kill, am_mem, am_fv, am_tk, am_wt, am_bk, Option.toList, List.cons_append, List.nil_append, Nat.reduceAdd, Nat.reduceEqDiff, Nat.reduceLeDiff, reduceIte, Nat.reduceLT, or_self, true_or, or_true, if_true, if_false, and_self, and_true, true_and, not_false_eq_true, not_true_eq_false, fd_Mo_range_39, fd_Mo_range_40, fd_Mo_range_41, fd_Mo_range_44, fd_Mo_range_47, fd_Mo_range_48, fd_Mo_range_50, fd_Mo_range_52, fd_Mo_range_53, fd_Mo_range_56, hx_nx_sI, hx_ce_sI, hx_sl_sI, hx_kd_sI, hx_ln_sI, hx_I_sI, hx_L_sI, hx_R_sI, hx_nx_sL, hx_ce_sL, hx_sl_sL, hx_kd_sL, hx_ln_sL, hx_I_sL, hx_L_sL, hx_R_sL, hx_nx_sR, hx_ce_sR, hx_sl_sR, hx_kd_sR, hx_ln_sR, hx_I_sR, hx_L_sR, hx_R_sR, hx_nx_al, hx_ce_al, hx_sl_al, hx_kd_al, hx_ln_al, hx_I_al, hx_L_al, hx_R_al, hx_nx_row, hx_ce_row, hx_sl_row, hx_kd_row, hx_ln_row, hx_I_row, hx_L_row, hx_R_row, hx_nx_mk, hx_kd_mk, hx_ln_mk, hx_I_mk, hx_L_mk, hx_R_mk, k72, j11, le0]
    refine am_go [] 6 ?_
    simp only [am_wp, am_stp, am_en, am_as, am_pad, am_nth, am_set, am_st1, am_st2, am_kl, am_kill, am_mem, am_fv, am_tk, am_wt, am_bk, Option.toList, List.cons_append, List.nil_append, Nat.reduceAdd, Nat.reduceEqDiff, Nat.reduceLeDiff, reduceIte, Nat.reduceLT, or_self, true_or, or_true, if_true, if_false, and_self, and_true, true_and, not_false_eq_true, not_true_eq_false, fd_Mo_range_107, fd_Mo_range_108, fd_Mo_range_110, fd_Mo_range_112, fd_Mo_range_113, fd_Mo_range_114, hx_nx_sI, hx_ce_sI, hx_sl_sI, hx_kd_sI, hx_ln_sI, hx_I_sI, hx_L_sI, hx_R_sI, hx_nx_sL, hx_ce_sL, hx_sl_sL, hx_kd_sL, hx_ln_sL, hx_I_sL, hx_L_sL, hx_R_sL, hx_nx_sR, hx_ce_sR, hx_sl_sR, hx_kd_sR, hx_ln_sR, hx_I_sR, hx_L_sR, hx_R_sR, hx_nx_al, hx_ce_al, hx_sl_al, hx_kd_al, hx_ln_al, hx_I_al, hx_L_al, hx_R_al, hx_nx_row, hx_ce_row, hx_sl_row, hx_kd_row, hx_ln_row, hx_I_row, hx_L_row, hx_R_row, hx_nx_mk, hx_kd_mk, hx_ln_mk, hx_I_mk, hx_L_mk, hx_R_mk, k72]
    have f : am_fi [72] h2 (am_sI (am_sI (am_sI h2 72 45 0) 72 31 0) 72 31 0) := ((am_fi.refl.sI (by simp)).sI (by simp)).sI (by simp)
    have y0 : am_I (am_sI (am_sI (am_sI h2 72 45 0) 72 31 0) 72 31 0) 72 0 = 0 := by simp only [hx_nx_sI, hx_ce_sI, hx_sl_sI, hx_kd_sI, hx_ln_sI, hx_I_sI, hx_L_sI, hx_R_sI, hx_nx_sL, hx_ce_sL, hx_sl_sL, hx_kd_sL, hx_ln_sL, hx_I_sL, hx_L_sL, hx_R_sL, hx_nx_sR, hx_ce_sR, hx_sl_sR, hx_kd_sR, hx_ln_sR, hx_I_sR, hx_L_sR, hx_R_sR, hx_nx_al, hx_ce_al, hx_sl_al, hx_kd_al, hx_ln_al, hx_I_al, hx_L_al, hx_R_al, hx_nx_row, hx_ce_row, hx_sl_row, hx_kd_row, hx_ln_row, hx_I_row, hx_L_row, hx_R_row, hx_nx_mk, hx_kd_mk, hx_ln_mk, hx_I_mk, hx_L_mk, hx_R_mk, am_wp, am_stp, am_en, am_as, am_pad, am_nth, am_set, am_st1, am_st2, am_kl, am_kill, am_mem, am_fv, am_tk, am_wt, am_bk, Option.toList, List.cons_append, List.nil_append, Nat.reduceAdd, Nat.reduceEqDiff, Nat.reduceLeDiff, reduceIte, Nat.reduceLT, or_self, true_or, or_true, if_true, if_false, and_self, and_true, true_and, not_false_eq_true, not_true_eq_false]; exact j0
    have y24 : am_I (am_sI (am_sI (am_sI h2 72 45 0) 72 31 0) 72 31 0) 72 24 = 0 := by simp only [hx_nx_sI, hx_ce_sI, hx_sl_sI, hx_kd_sI, hx_ln_sI, hx_I_sI, hx_L_sI, hx_R_sI, hx_nx_sL, hx_ce_sL, hx_sl_sL, hx_kd_sL, hx_ln_sL, hx_I_sL, hx_L_sL, hx_R_sL, hx_nx_sR, hx_ce_sR, hx_sl_sR, hx_kd_sR, hx_ln_sR, hx_I_sR, hx_L_sR, hx_R_sR, hx_nx_al, hx_ce_al, hx_sl_al, hx_kd_al, hx_ln_al, hx_I_al, hx_L_al, hx_R_al, hx_nx_row, hx_ce_row, hx_sl_row, hx_kd_row, hx_ln_row, hx_I_row, hx_L_row, hx_R_row, hx_nx_mk, hx_kd_mk, hx_ln_mk, hx_I_mk, hx_L_mk, hx_R_mk, am_wp, am_stp, am_en, am_as, am_pad, am_nth, am_set, am_st1, am_st2, am_kl, am_kill, am_mem, am_fv, am_tk, am_wt, am_bk, Option.toList, List.cons_append, List.nil_append, Nat.reduceAdd, Nat.reduceEqDiff, Nat.reduceLeDiff, reduceIte, Nat.reduceLT, or_self, true_or, or_true, if_true, if_false, and_self, and_true, true_and, not_false_eq_true, not_true_eq_false]; exact j24
    have y31 : am_I (am_sI (am_sI (am_sI h2 72 45 0) 72 31 0) 72 31 0) 72 31 = 0 := by simp only [hx_nx_sI, hx_ce_sI, hx_sl_sI, hx_kd_sI, hx_ln_sI, hx_I_sI, hx_L_sI, hx_R_sI, hx_nx_sL, hx_ce_sL, hx_sl_sL, hx_kd_sL, hx_ln_sL, hx_I_sL, hx_L_sL, hx_R_sL, hx_nx_sR, hx_ce_sR, hx_sl_sR, hx_kd_sR, hx_ln_sR, hx_I_sR, hx_L_sR, hx_R_sR, hx_nx_al, hx_ce_al, hx_sl_al, hx_kd_al, hx_ln_al, hx_I_al, hx_L_al, hx_R_al, hx_nx_row, hx_ce_row, hx_sl_row, hx_kd_row, hx_ln_row, hx_I_row, hx_L_row, hx_R_row, hx_nx_mk, hx_kd_mk, hx_ln_mk, hx_I_mk, hx_L_mk, hx_R_mk, am_wp, am_stp, am_en, am_as, am_pad, am_nth, am_set, am_st1, am_st2, am_kl, am_kill, am_mem, am_fv, am_tk, am_wt, am_bk, Option.toList, List.cons_append, List.nil_append, Nat.reduceAdd, Nat.reduceEqDiff, Nat.reduceLeDiff, reduceIte, Nat.reduceLT, or_self, true_or, or_true, if_true, if_false, and_self, and_true, true_and, not_false_eq_true, not_true_eq_false]
    generalize am_sI (am_sI (am_sI h2 72 45 0) 72 31 0) 72 31 0 = g at *
    have q72 : am_kd g 72 = 12 := by rw [f.2.2.2.1]; exact k72
    refine am_call (Q := fun o h' => o = .inl (some (.int 0)) ∧ h' = g) ?_ (fun o h4 q => ?_)
    · refine am_in' (d := d) mt_Mo_runsOf 2 rfl rfl rfl ?_
      refine am_go [12] 8 ?_
      simp only [am_wp, am_stp, am_en, am_as, am_pad, am_nth, am_set, am_st1, am_st2, am_kl, am_kill, am_mem, am_fv, am_tk, am_wt, am_bk, Option.toList, List.cons_append, List.nil_append, Nat.reduceAdd, Nat.reduceEqDiff, Nat.reduceLeDiff, reduceIte, Nat.reduceLT, or_self, true_or, or_true, if_true, if_false, and_self, and_true, true_and, not_false_eq_true, not_true_eq_false, fd_Mo_runsOf_0, fd_Mo_runsOf_1, fd_Mo_runsOf_2, fd_Mo_runsOf_5, fd_Mo_runsOf_6, fd_Mo_runsOf_9, fd_Mo_runsOf_18, q72, y24]
    · obtain ⟨rfl, rfl⟩ := q
      simp only [am_wp, am_stp, am_en, am_as, am_pad, am_nth, am_set, am_st1, am_st2, am_kl, am_kill, am_mem, am_fv, am_tk, am_wt, am_bk, Option.toList, List.cons_append, List.nil_append, Nat.reduceAdd, Nat.reduceEqDiff, Nat.reduceLeDiff, reduceIte, Nat.reduceLT, or_self, true_or, or_true, if_true, if_false, and_self, and_true, true_and, not_false_eq_true, not_true_eq_false]
      refine am_go [120, 148] 1 ?_
      simp only [am_wp, am_stp, am_en, am_as, am_pad, am_nth, am_set, am_st1, am_st2, am_kl, am_kill, am_mem, am_fv, am_tk, am_wt, am_bk, Option.toList, List.cons_append, List.nil_append, Nat.reduceAdd, Nat.reduceEqDiff, Nat.reduceLeDiff, reduceIte, Nat.reduceLT, or_self, true_or, or_true, if_true, if_false, and_self, and_true, true_and, not_false_eq_true, not_true_eq_false, fd_Mo_range_117, le0]
      refine am_go [163, 244] 9 ?_
      simp only [am_wp, am_stp, am_en, am_as, am_pad, am_nth, am_set, am_st1, am_st2, am_kl, am_kill, am_mem, am_fv, am_tk, am_wt, am_bk, Option.toList, List.cons_append, List.nil_append, Nat.reduceAdd, Nat.reduceEqDiff, Nat.reduceLeDiff, reduceIte, Nat.reduceLT, or_self, true_or, or_true, if_true, if_false, and_self, and_true, true_and, not_false_eq_true, not_true_eq_false, fd_Mo_range_148, fd_Mo_range_149, fd_Mo_range_151, fd_Mo_range_152, fd_Mo_range_154, fd_Mo_range_156, fd_Mo_range_157, fd_Mo_range_160, q72, y31, le0]
      refine am_go [258] 12 ?_
      simp only [am_wp, am_stp, am_en, am_as, am_pad, am_nth, am_set, am_st1, am_st2, am_kl, am_kill, am_mem, am_fv, am_tk, am_wt, am_bk, Option.toList, List.cons_append, List.nil_append, Nat.reduceAdd, Nat.reduceEqDiff, Nat.reduceLeDiff, reduceIte, Nat.reduceLT, or_self, true_or, or_true, if_true, if_false, and_self, and_true, true_and, not_false_eq_true, not_true_eq_false, fd_Mo_range_244, fd_Mo_range_245, fd_Mo_range_247, fd_Mo_range_250, fd_Mo_range_253, fd_Mo_range_255, fd_Mo_range_261, fd_Mo_range_264, fd_Mo_range_265, fd_Mo_range_266, fd_Mo_range_269, fd_Mo_range_271, hx_nx_sI, hx_ce_sI, hx_sl_sI, hx_kd_sI, hx_ln_sI, hx_I_sI, hx_L_sI, hx_R_sI, hx_nx_sL, hx_ce_sL, hx_sl_sL, hx_kd_sL, hx_ln_sL, hx_I_sL, hx_L_sL, hx_R_sL, hx_nx_sR, hx_ce_sR, hx_sl_sR, hx_kd_sR, hx_ln_sR, hx_I_sR, hx_L_sR, hx_R_sR, hx_nx_al, hx_ce_al, hx_sl_al, hx_kd_al, hx_ln_al, hx_I_al, hx_L_al, hx_R_al, hx_nx_row, hx_ce_row, hx_sl_row, hx_kd_row, hx_ln_row, hx_I_row, hx_L_row, hx_R_row, hx_nx_mk, hx_kd_mk, hx_ln_mk, hx_I_mk, hx_L_mk, hx_R_mk, q72, l200, y0]
      exact (f.sI (by simp)).sI (by simp)
  · exact absurd rfl q
theorem op_range (xs : Nat → Int32) : lw_op xs 958 := by
  refine ox_range (fun d h G => ?_)
  obtain ⟨g1, g2, g3, g4, g5, g6, g7, g8, g9, g10⟩ := id G
  obtain ⟨s1, s2, s3⟩ := g4.2.2.2.2.2.2.2.2.2.2.2.2.2.2
  have hh : mt_La_range.2.2 = [(0, 13, 16, 0), (0, 13, 20, 2), (0, 13, 24, 1)] := rfl
  have h3 : mt_SR_range.2.2 = [] := rfl
  have i0 : ¬ ((0 : Int32) < 0 ∨ 1 ≤ (0 : Int32).toNatClampNeg) := by decide
  have c0 : (0 : Int32).toNatClampNeg = 0 := by decide
  have le0 : ¬ ((0 : Int32) < 0) := by decide
  generalize lg_2 (xs 3) (xs 4) = a
  generalize lg_2 (xs 5) (xs 6) = b
  generalize xs 2 = m
  refine am_in' (d := d + 11) mt_La_range 8 rfl rfl rfl ?_
  refine am_go [] 7 ?_
  simp only [am_wp, am_stp, am_en, am_as, am_pad, am_nth, am_set, am_st1, am_st2, am_kl, am_kill, am_mem, am_fv, am_tk, am_wt, am_bk, Option.toList, List.cons_append, List.nil_append, Nat.reduceAdd, Nat.reduceEqDiff, Nat.reduceLeDiff, reduceIte, Nat.reduceLT, or_self, true_or, or_true, if_true, if_false, and_self, and_true, true_and, not_false_eq_true, not_true_eq_false, fd_La_range_0, fd_La_range_2, fd_La_range_3, fd_La_range_4, fd_La_range_5, fd_La_range_6, fd_La_range_8, s1]
  by_cases em : m = -1
  · subst em
    refine am_call (l2_SR_range0 (d := d + 7) G g4) (fun o h1 q => ?_)
    rcases q with ⟨e, rfl, rfl⟩ | ⟨e, rfl, hf⟩
    · simp only [am_wp, am_stp, am_en, am_as, am_pad, am_nth, am_set, am_st1, am_st2, am_kl, am_kill, am_mem, am_fv, am_tk, am_wt, am_bk, Option.toList, List.cons_append, List.nil_append, Nat.reduceAdd, Nat.reduceEqDiff, Nat.reduceLeDiff, reduceIte, Nat.reduceLT, or_self, true_or, or_true, if_true, if_false, and_self, and_true, true_and, not_false_eq_true, not_true_eq_false, hh, am_hd]
      refine am_go [] 10 ?_
      simp only [am_wp, am_stp, am_en, am_as, am_pad, am_nth, am_set, am_st1, am_st2, am_kl, am_kill, am_mem, am_fv, am_tk, am_wt, am_bk, Option.toList, List.cons_append, List.nil_append, Nat.reduceAdd, Nat.reduceEqDiff, Nat.reduceLeDiff, reduceIte, Nat.reduceLT, or_self, true_or, or_true, if_true, if_false, and_self, and_true, true_and, not_false_eq_true, not_true_eq_false, fd_La_range_24, fd_La_range_26, fd_La_range_27]
      have C := lw_C.ex G
      refine ⟨3, 0, rfl, C, fun e => absurd e (by decide), ?_⟩
      refine am_call (l2_Mo_range0 (d := d + 10) (C.mo g5)) (fun o h2 q => ?_)
      obtain ⟨rfl, q2, q3⟩ := q
      rw [if_pos e] at q3
      exact ⟨0, rfl, lw_D.fi q2 (by simp), q3, fun e => absurd e (by decide)⟩
    · simp only [am_wp, am_stp, am_en, am_as, am_pad, am_nth, am_set, am_st1, am_st2, am_kl, am_kill, am_mem, am_fv, am_tk, am_wt, am_bk, Option.toList, List.cons_append, List.nil_append, Nat.reduceAdd, Nat.reduceEqDiff, Nat.reduceLeDiff, reduceIte, Nat.reduceLT, or_self, true_or, or_true, if_true, if_false, and_self, and_true, true_and, not_false_eq_true, not_true_eq_false]
      have k108 : am_kd h1 108 = 101 := by rw [hf.2.2.2.1]; exact g9
      have l108 : am_ln h1 108 = 1 := by rw [hf.2.2.2.2.1]; exact g10
      refine am_go [] 10 ?_
      simp only [am_wp, am_stp, am_en, am_as, am_pad, am_nth, am_set, am_st1, am_st2, am_kl, am_kill, am_mem, am_fv, am_tk, am_wt, am_bk, Option.toList, List.cons_append, List.nil_append, Nat.reduceAdd, Nat.reduceEqDiff, Nat.reduceLeDiff, reduceIte, Nat.reduceLT, or_self, true_or, or_true, if_true, if_false, and_self, and_true, true_and, not_false_eq_true, not_true_eq_false, fd_La_range_11, fd_La_range_12, fd_La_range_13, fd_La_range_28, fd_La_range_29, k108, l108, i0, c0, le0]
      have C := lw_C.fi (S := [2, 25, 29, 108]) G ((hf.sub (by simp)).sL (q := 108) (j := 0) (v := (0 : Int32).toInt64) (by simp)) (by simp)
      refine ⟨0, (0 : Int32).toInt64, rfl, C, fun _ => by simp only [hx_nx_sI, hx_ce_sI, hx_sl_sI, hx_kd_sI, hx_ln_sI, hx_I_sI, hx_L_sI, hx_R_sI, hx_nx_sL, hx_ce_sL, hx_sl_sL, hx_kd_sL, hx_ln_sL, hx_I_sL, hx_L_sL, hx_R_sL, hx_nx_sR, hx_ce_sR, hx_sl_sR, hx_kd_sR, hx_ln_sR, hx_I_sR, hx_L_sR, hx_R_sR, hx_nx_al, hx_ce_al, hx_sl_al, hx_kd_al, hx_ln_al, hx_I_al, hx_L_al, hx_R_al, hx_nx_row, hx_ce_row, hx_sl_row, hx_kd_row, hx_ln_row, hx_I_row, hx_L_row, hx_R_row, hx_nx_mk, hx_kd_mk, hx_ln_mk, hx_I_mk, hx_L_mk, hx_R_mk, am_wp, am_stp, am_en, am_as, am_pad, am_nth, am_set, am_st1, am_st2, am_kl, am_kill, am_mem, am_fv, am_tk, am_wt, am_bk, Option.toList, List.cons_append, List.nil_append, Nat.reduceAdd, Nat.reduceEqDiff, Nat.reduceLeDiff, reduceIte, Nat.reduceLT, or_self, true_or, or_true, if_true, if_false, and_self, and_true, true_and, not_false_eq_true, not_true_eq_false], ?_⟩
      refine am_call (l2_Mo_range0 (d := d + 10) (C.mo g5)) (fun o h2 q => ?_)
      obtain ⟨rfl, q2, q3⟩ := q
      rw [if_neg e] at q3
      exact ⟨0, rfl, lw_D.fi q2 (by simp), q3, fun _ => rfl⟩
  · refine am_call (Q := fun o h' => o = .inr (2, am_nx h) ∧ h' = am_al h 0 0 6) ?_ (fun o h1 q => ?_)
    · refine am_in' (d := d + 10) mt_SR_range 8 rfl rfl rfl ?_
      refine am_go [] 3 ?_
      simp only [am_wp, am_stp, am_en, am_as, am_pad, am_nth, am_set, am_st1, am_st2, am_kl, am_kill, am_mem, am_fv, am_tk, am_wt, am_bk, Option.toList, List.cons_append, List.nil_append, Nat.reduceAdd, Nat.reduceEqDiff, Nat.reduceLeDiff, reduceIte, Nat.reduceLT, or_self, true_or, or_true, if_true, if_false, and_self, and_true, true_and, not_false_eq_true, not_true_eq_false, fd_SR_range_0, fd_SR_range_1, fd_SR_range_2, s1]
      refine am_call (l2_SR_runsOf0 G) (fun o h1 q => ?_)
      rcases q with ⟨q, -⟩ | ⟨-, rfl, rfl⟩
      · exact absurd q em
      · simp only [am_wp, am_stp, am_en, am_as, am_pad, am_nth, am_set, am_st1, am_st2, am_kl, am_kill, am_mem, am_fv, am_tk, am_wt, am_bk, Option.toList, List.cons_append, List.nil_append, Nat.reduceAdd, Nat.reduceEqDiff, Nat.reduceLeDiff, reduceIte, Nat.reduceLT, or_self, true_or, or_true, if_true, if_false, and_self, and_true, true_and, not_false_eq_true, not_true_eq_false, h3, am_hd]
    · obtain ⟨rfl, rfl⟩ := q
      simp only [am_wp, am_stp, am_en, am_as, am_pad, am_nth, am_set, am_st1, am_st2, am_kl, am_kill, am_mem, am_fv, am_tk, am_wt, am_bk, Option.toList, List.cons_append, List.nil_append, Nat.reduceAdd, Nat.reduceEqDiff, Nat.reduceLeDiff, reduceIte, Nat.reduceLT, or_self, true_or, or_true, if_true, if_false, and_self, and_true, true_and, not_false_eq_true, not_true_eq_false, hh, am_hd]
      refine am_go [] 10 ?_
      simp only [am_wp, am_stp, am_en, am_as, am_pad, am_nth, am_set, am_st1, am_st2, am_kl, am_kill, am_mem, am_fv, am_tk, am_wt, am_bk, Option.toList, List.cons_append, List.nil_append, Nat.reduceAdd, Nat.reduceEqDiff, Nat.reduceLeDiff, reduceIte, Nat.reduceLT, or_self, true_or, or_true, if_true, if_false, and_self, and_true, true_and, not_false_eq_true, not_true_eq_false, fd_La_range_20, fd_La_range_22, fd_La_range_23]
      have C := lw_C.ex G
      refine ⟨2, 0, rfl, C, fun e => absurd e (by decide), ?_⟩
      have hM := C.mo g5
      have k72 := hM.1.1
      generalize am_al h 0 0 6 = g at *
      refine am_call (Q := fun o h' => o = .inl (some (.int 0)) ∧ h' = am_sI g 72 0 2) ?_ (fun o h2 q => ?_)
      · refine am_in' (d := d + 11) mt_Mo_range 8 rfl rfl rfl ?_
        refine am_go [] 3 ?_
        simp only [am_wp, am_stp, am_en, am_as, am_pad, am_nth, am_set, am_st1, am_st2, am_kl, am_kill, am_mem, am_fv, am_tk, am_wt, am_bk, Option.toList, List.cons_append, List.nil_append, Nat.reduceAdd, Nat.reduceEqDiff, Nat.reduceLeDiff, reduceIte, Nat.reduceLT, or_self, true_or, or_true, if_true, if_false, and_self, and_true, true_and, not_false_eq_true, not_true_eq_false, fd_Mo_range_0, fd_Mo_range_1, fd_Mo_range_2, k72]
        refine am_call (l2_Mo_isView0 hM) (fun o h2 q => ?_)
        rcases q with ⟨q, -⟩ | ⟨-, rfl, rfl⟩
        · exact absurd q em
        · simp only [am_wp, am_stp, am_en, am_as, am_pad, am_nth, am_set, am_st1, am_st2, am_kl, am_kill, am_mem, am_fv, am_tk, am_wt, am_bk, Option.toList, List.cons_append, List.nil_append, Nat.reduceAdd, Nat.reduceEqDiff, Nat.reduceLeDiff, reduceIte, Nat.reduceLT, or_self, true_or, or_true, if_true, if_false, and_self, and_true, true_and, not_false_eq_true, not_true_eq_false]
          refine am_go [10] 4 ?_
          simp only [am_wp, am_stp, am_en, am_as, am_pad, am_nth, am_set, am_st1, am_st2, am_kl, am_kill, am_mem, am_fv, am_tk, am_wt, am_bk, Option.toList, List.cons_append, List.nil_append, Nat.reduceAdd, Nat.reduceEqDiff, Nat.reduceLeDiff, reduceIte, Nat.reduceLT, or_self, true_or, or_true, if_true, if_false, and_self, and_true, true_and, not_false_eq_true, not_true_eq_false, fd_Mo_range_5, fd_Mo_range_8, fd_Mo_range_9]
      · obtain ⟨rfl, rfl⟩ := q
        exact ⟨0, rfl, lw_D.fi (S := [72]) (am_fi.refl.sI (by simp)) (by simp), by simp only [hx_nx_sI, hx_ce_sI, hx_sl_sI, hx_kd_sI, hx_ln_sI, hx_I_sI, hx_L_sI, hx_R_sI, hx_nx_sL, hx_ce_sL, hx_sl_sL, hx_kd_sL, hx_ln_sL, hx_I_sL, hx_L_sL, hx_R_sL, hx_nx_sR, hx_ce_sR, hx_sl_sR, hx_kd_sR, hx_ln_sR, hx_I_sR, hx_L_sR, hx_R_sR, hx_nx_al, hx_ce_al, hx_sl_al, hx_kd_al, hx_ln_al, hx_I_al, hx_L_al, hx_R_al, hx_nx_row, hx_ce_row, hx_sl_row, hx_kd_row, hx_ln_row, hx_I_row, hx_L_row, hx_R_row, hx_nx_mk, hx_kd_mk, hx_ln_mk, hx_I_mk, hx_L_mk, hx_R_mk, am_wp, am_stp, am_en, am_as, am_pad, am_nth, am_set, am_st1, am_st2, am_kl, am_kill, am_mem, am_fv, am_tk, am_wt, am_bk, Option.toList, List.cons_append, List.nil_append, Nat.reduceAdd, Nat.reduceEqDiff, Nat.reduceLeDiff, reduceIte, Nat.reduceLT, or_self, true_or, or_true, if_true, if_false, and_self, and_true, true_and, not_false_eq_true, not_true_eq_false], fun e => absurd e (by decide)⟩
