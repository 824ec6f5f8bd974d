/-! A PAGE IS WRITTEN -/
theorem l2_beginPage {d : Nat} {x : Int32} {h : am_H} (hS : cl_Sh h) : am_Rt nm_pr (d + 3) mi_Sheet_beginPage [.ref 14, .int x] h (fun o h' => o = .inl none ∧ am_fi [14, 15] h h' ∧ sh_U h' 5 0 none ∧ am_L h' = am_L h) := by
  have k1 := hS.1
  refine am_in' (d := d + 2) mt_Sheet_beginPage 2 rfl rfl rfl ?_
  refine am_go [] 2 ?_
  simp only [am_wp, am_stp, am_en, am_as, am_pad, am_nth, am_set, am_st1, am_st2, am_kl, am_kill, am_mem, am_fv, am_tk, am_wt, am_bk, Option.toList, List.cons_append, List.nil_append, Nat.reduceAdd, Nat.reduceEqDiff, Nat.reduceLeDiff, reduceIte, Nat.reduceLT, or_self, true_or, or_true, if_true, if_false, and_self, and_true, true_and, not_false_eq_true, not_true_eq_false, fd_Sheet_beginPage_0, fd_Sheet_beginPage_1, k1]
  refine am_call (l2_clear (d := d + 1) hS) (fun o h1 q => ?_)
  obtain ⟨rfl, F1, a1, a2, a3⟩ := q
  have S1 := hS.fi F1
  have u1 : am_I h1 14 1 = nI 0 := by rw [a2]; rfl
  have u2 : am_I h1 14 2 = 0 := by rw [a2]; rfl
  simp only [am_wp, am_stp, am_en, am_as, am_pad, am_nth, am_set, am_st1, am_st2, am_kl, am_kill, am_mem, am_fv, am_tk, am_wt, am_bk, Option.toList, List.cons_append, List.nil_append, Nat.reduceAdd, Nat.reduceEqDiff, Nat.reduceLeDiff, reduceIte, Nat.reduceLT, or_self, true_or, or_true, if_true, if_false, and_self, and_true, true_and, not_false_eq_true, not_true_eq_false]
  refine am_go [] 3 ?_
  simp only [am_wp, am_stp, am_en, am_as, am_pad, am_nth, am_set, am_st1, am_st2, am_kl, am_kill, am_mem, am_fv, am_tk, am_wt, am_bk, Option.toList, List.cons_append, List.nil_append, Nat.reduceAdd, Nat.reduceEqDiff, Nat.reduceLeDiff, reduceIte, Nat.reduceLT, or_self, true_or, or_true, if_true, if_false, and_self, and_true, true_and, not_false_eq_true, not_true_eq_false, fd_Sheet_beginPage_4, fd_Sheet_beginPage_5, fd_Sheet_beginPage_6, S1.1]
  refine am_call (l2_two (d := d) S1 u1 (by decide)) (fun o h2 q => ?_)
  obtain ⟨rfl, e2⟩ := q
  have F2 : am_fi [14, 15] h1 h2 := by rw [e2]; exact (((am_fi.refl.sI (by simp)).sI (by simp)).sI (by simp)).sI (by simp)
  have v2 : am_I h2 14 2 = 0 := by rw [e2]; simp only [hx_nx_sI, hx_ce_sI, hx_sl_sI, hx_kd_sI, hx_ln_sI, hx_I_sI, hx_L_sI, hx_R_sI, hx_nx_sL, hx_ce_sL, hx_sl_sL, hx_kd_sL, hx_ln_sL, hx_I_sL, hx_L_sL, hx_R_sL, hx_nx_sR, hx_ce_sR, hx_sl_sR, hx_kd_sR, hx_ln_sR, hx_I_sR, hx_L_sR, hx_R_sR, hx_nx_al, hx_ce_al, hx_sl_al, hx_kd_al, hx_ln_al, hx_I_al, hx_L_al, hx_R_al, hx_nx_row, hx_ce_row, hx_sl_row, hx_kd_row, hx_ln_row, hx_I_row, hx_L_row, hx_R_row, hx_nx_mk, hx_kd_mk, hx_ln_mk, hx_I_mk, hx_L_mk, hx_R_mk, am_wp, am_stp, am_en, am_as, am_pad, am_nth, am_set, am_st1, am_st2, am_kl, am_kill, am_mem, am_fv, am_tk, am_wt, am_bk, Option.toList, List.cons_append, List.nil_append, Nat.reduceAdd, Nat.reduceEqDiff, Nat.reduceLeDiff, reduceIte, Nat.reduceLT, or_self, true_or, or_true, if_true, if_false, and_self, and_true, true_and, not_false_eq_true, not_true_eq_false]; exact u2
  have L2 : am_L h2 = am_L h1 := by rw [e2]; rfl
  clear e2
  have S2 := S1.fi F2
  simp only [am_wp, am_stp, am_en, am_as, am_pad, am_nth, am_set, am_st1, am_st2, am_kl, am_kill, am_mem, am_fv, am_tk, am_wt, am_bk, Option.toList, List.cons_append, List.nil_append, Nat.reduceAdd, Nat.reduceEqDiff, Nat.reduceLeDiff, reduceIte, Nat.reduceLT, or_self, true_or, or_true, if_true, if_false, and_self, and_true, true_and, not_false_eq_true, not_true_eq_false]
  refine am_go [] 5 ?_
  simp only [am_wp, am_stp, am_en, am_as, am_pad, am_nth, am_set, am_st1, am_st2, am_kl, am_kill, am_mem, am_fv, am_tk, am_wt, am_bk, Option.toList, List.cons_append, List.nil_append, Nat.reduceAdd, Nat.reduceEqDiff, Nat.reduceLeDiff, reduceIte, Nat.reduceLT, or_self, true_or, or_true, if_true, if_false, and_self, and_true, true_and, not_false_eq_true, not_true_eq_false, fd_Sheet_beginPage_9, fd_Sheet_beginPage_10, fd_Sheet_beginPage_11, fd_Sheet_beginPage_14, S2.1]
  refine ⟨(F1.trans F2).sI (by simp), ⟨S2, ?_, ?_, by decide, by decide, rfl⟩, ?_⟩
  · simp only [hx_nx_sI, hx_ce_sI, hx_sl_sI, hx_kd_sI, hx_ln_sI, hx_I_sI, hx_L_sI, hx_R_sI, hx_nx_sL, hx_ce_sL, hx_sl_sL, hx_kd_sL, hx_ln_sL, hx_I_sL, hx_L_sL, hx_R_sL, hx_nx_sR, hx_ce_sR, hx_sl_sR, hx_kd_sR, hx_ln_sR, hx_I_sR, hx_L_sR, hx_R_sR, hx_nx_al, hx_ce_al, hx_sl_al, hx_kd_al, hx_ln_al, hx_I_al, hx_L_al, hx_R_al, hx_nx_row, hx_ce_row, hx_sl_row, hx_kd_row, hx_ln_row, hx_I_row, hx_L_row, hx_R_row, hx_nx_mk, hx_kd_mk, hx_ln_mk, hx_I_mk, hx_L_mk, hx_R_mk, am_wp, am_stp, am_en, am_as, am_pad, am_nth, am_set, am_st1, am_st2, am_kl, am_kill, am_mem, am_fv, am_tk, am_wt, am_bk, Option.toList, List.cons_append, List.nil_append, Nat.reduceAdd, Nat.reduceEqDiff, Nat.reduceLeDiff, reduceIte, Nat.reduceLT, or_self, true_or, or_true, if_true, if_false, and_self, and_true, true_and, not_false_eq_true, not_true_eq_false]; rfl
  · simp only [hx_nx_sI, hx_ce_sI, hx_sl_sI, hx_kd_sI, hx_ln_sI, hx_I_sI, hx_L_sI, hx_R_sI, hx_nx_sL, hx_ce_sL, hx_sl_sL, hx_kd_sL, hx_ln_sL, hx_I_sL, hx_L_sL, hx_R_sL, hx_nx_sR, hx_ce_sR, hx_sl_sR, hx_kd_sR, hx_ln_sR, hx_I_sR, hx_L_sR, hx_R_sR, hx_nx_al, hx_ce_al, hx_sl_al, hx_kd_al, hx_ln_al, hx_I_al, hx_L_al, hx_R_al, hx_nx_row, hx_ce_row, hx_sl_row, hx_kd_row, hx_ln_row, hx_I_row, hx_L_row, hx_R_row, hx_nx_mk, hx_kd_mk, hx_ln_mk, hx_I_mk, hx_L_mk, hx_R_mk, am_wp, am_stp, am_en, am_as, am_pad, am_nth, am_set, am_st1, am_st2, am_kl, am_kill, am_mem, am_fv, am_tk, am_wt, am_bk, Option.toList, List.cons_append, List.nil_append, Nat.reduceAdd, Nat.reduceEqDiff, Nat.reduceLeDiff, reduceIte, Nat.reduceLT, or_self, true_or, or_true, if_true, if_false, and_self, and_true, true_and, not_false_eq_true, not_true_eq_false]; exact v2
  · show am_L h2 = am_L h
    rw [L2, a3]
theorem l2_finishPage {d : Nat} {x : Int32} {h : am_H} (hS : cl_Sh h) : am_Rt nm_pr (d + 1) mi_Sheet_finishPage [.ref 14, .int x] h (fun o h' => o = .inl none ∧ am_fi [15] h h' ∧ am_L h' = am_L h ∧ am_I h' 15 4 = am_b8 (am_I h 14 2) ∧ ∀ j, 5 ≤ j → am_I h' 15 j = am_I h 15 j) := by
  obtain ⟨k1, r1, k2, n2⟩ := id hS
  have i2 : ((2 : Int32) < 0 ∨ 128 ≤ (2 : Int32).toNatClampNeg) = False := by decide
  have i3 : ((3 : Int32) < 0 ∨ 128 ≤ (3 : Int32).toNatClampNeg) = False := by decide
  have i4 : ((4 : Int32) < 0 ∨ 128 ≤ (4 : Int32).toNatClampNeg) = False := by decide
  have c2 : (2 : Int32).toNatClampNeg = 2 := by decide
  have c3 : (3 : Int32).toNatClampNeg = 3 := by decide
  have c4 : (4 : Int32).toNatClampNeg = 4 := by decide
  refine am_in' mt_Sheet_finishPage 2 rfl rfl rfl ?_
  refine am_go [] 8 ?_
  simp only [am_wp, am_stp, am_en, am_as, am_pad, am_nth, am_set, am_st1, am_st2, am_kl, am_kill, am_mem, am_fv, am_tk, am_wt, am_bk, Option.toList, List.cons_append, List.nil_append, Nat.reduceAdd, Nat.reduceEqDiff, Nat.reduceLeDiff, reduceIte, Nat.reduceLT, or_self, true_or, or_true, if_true, if_false, and_self, and_true, true_and, not_false_eq_true, not_true_eq_false, fd_Sheet_finishPage_0, fd_Sheet_finishPage_1, fd_Sheet_finishPage_4, fd_Sheet_finishPage_5, fd_Sheet_finishPage_6, fd_Sheet_finishPage_8, fd_Sheet_finishPage_9, fd_Sheet_finishPage_10, k1, r1, k2, n2, i2]
  rw [c2]
  refine am_go [] 6 ?_
  simp only [am_wp, am_stp, am_en, am_as, am_pad, am_nth, am_set, am_st1, am_st2, am_kl, am_kill, am_mem, am_fv, am_tk, am_wt, am_bk, Option.toList, List.cons_append, List.nil_append, Nat.reduceAdd, Nat.reduceEqDiff, Nat.reduceLeDiff, reduceIte, Nat.reduceLT, or_self, true_or, or_true, if_true, if_false, and_self, and_true, true_and, not_false_eq_true, not_true_eq_false, fd_Sheet_finishPage_11, fd_Sheet_finishPage_12, fd_Sheet_finishPage_15, fd_Sheet_finishPage_16, fd_Sheet_finishPage_17, fd_Sheet_finishPage_18, hx_nx_sI, hx_ce_sI, hx_sl_sI, hx_kd_sI, hx_ln_sI, hx_I_sI, hx_L_sI, hx_R_sI, hx_nx_sL, hx_ce_sL, hx_sl_sL, hx_kd_sL, hx_ln_sL, hx_I_sL, hx_L_sL, hx_R_sL, hx_nx_sR, hx_ce_sR, hx_sl_sR, hx_kd_sR, hx_ln_sR, hx_I_sR, hx_L_sR, hx_R_sR, hx_nx_al, hx_ce_al, hx_sl_al, hx_kd_al, hx_ln_al, hx_I_al, hx_L_al, hx_R_al, hx_nx_row, hx_ce_row, hx_sl_row, hx_kd_row, hx_ln_row, hx_I_row, hx_L_row, hx_R_row, hx_nx_mk, hx_kd_mk, hx_ln_mk, hx_I_mk, hx_L_mk, hx_R_mk, k1, r1, k2, n2, i3]
  rw [c3]
  refine am_go [] 8 ?_
  simp only [am_wp, am_stp, am_en, am_as, am_pad, am_nth, am_set, am_st1, am_st2, am_kl, am_kill, am_mem, am_fv, am_tk, am_wt, am_bk, Option.toList, List.cons_append, List.nil_append, Nat.reduceAdd, Nat.reduceEqDiff, Nat.reduceLeDiff, reduceIte, Nat.reduceLT, or_self, true_or, or_true, if_true, if_false, and_self, and_true, true_and, not_false_eq_true, not_true_eq_false, fd_Sheet_finishPage_19, fd_Sheet_finishPage_20, fd_Sheet_finishPage_23, fd_Sheet_finishPage_24, fd_Sheet_finishPage_25, fd_Sheet_finishPage_28, fd_Sheet_finishPage_29, fd_Sheet_finishPage_30, hx_nx_sI, hx_ce_sI, hx_sl_sI, hx_kd_sI, hx_ln_sI, hx_I_sI, hx_L_sI, hx_R_sI, hx_nx_sL, hx_ce_sL, hx_sl_sL, hx_kd_sL, hx_ln_sL, hx_I_sL, hx_L_sL, hx_R_sL, hx_nx_sR, hx_ce_sR, hx_sl_sR, hx_kd_sR, hx_ln_sR, hx_I_sR, hx_L_sR, hx_R_sR, hx_nx_al, hx_ce_al, hx_sl_al, hx_kd_al, hx_ln_al, hx_I_al, hx_L_al, hx_R_al, hx_nx_row, hx_ce_row, hx_sl_row, hx_kd_row, hx_ln_row, hx_I_row, hx_L_row, hx_R_row, hx_nx_mk, hx_kd_mk, hx_ln_mk, hx_I_mk, hx_L_mk, hx_R_mk, k1, r1, k2, n2, i4]
  rw [c4]
  refine ⟨((am_fi.refl.sI (by simp)).sI (by simp)).sI (by simp), ?_, fun j hj => ?_⟩
  · rw [if_pos rfl, am_b8_b8]
  · rw [if_neg (by omega), if_neg (by omega), if_neg (by omega)]
theorem sm_F_b8 {f : Nat → Int32} {p : Int64} : ∀ n : Nat, sm_F (fun j => am_b8 (f j)) p n = sm_F f p n
  | 0 => rfl
  | n + 1 => by
    unfold sm_F
    rw [sm_F_b8 n, b8_and]
/-- what a page holds that was laid with its sum -/
def st_Q (P p : Nat) (h h' : am_H) : Prop := am_fi [15, 18, 19, 20] h h' ∧ am_L h' = am_L h ∧ am_I h' 18 0 = am_I h 18 0 ∧ am_I h' 18 3 = am_I h 18 3 ∧ am_I h' 18 5 = 0 ∧ (∀ j, ¬ (p * 128 ≤ j ∧ j < p * 128 + 128) → am_I h' 19 j = am_I h 19 j) ∧ (∀ j, j < 120 → am_I h' 19 (p * 128 + j) = am_b8 (am_I h 15 j)) ∧ am_I h' 20 = up_f (am_I h 20) p 1
theorem l2_store {d P p : Nat} {h : am_H} (hP : cl_Pg P h) (hS : cl_Sh h) (hp : p < P) (h5 : am_I h 18 5 = 0) : am_Rt nm_pr (d + 3) mi_Pages_store [.ref 18, .int (nI p), .ref 14] h (fun o h' => o = .inl (some (.int 1)) ∧ st_Q P p h h') := by
  have k18 := hP.1
  have k14 := hS.1
  have hP2 := hP.2.2.2.2.2.2.2.2.2
  refine am_in' (d := d + 2) mt_Pages_store 4 rfl rfl rfl ?_
  refine am_go [] 3 ?_
  simp only [am_wp, am_stp, am_en, am_as, am_pad, am_nth, am_set, am_st1, am_st2, am_kl, am_kill, am_mem, am_fv, am_tk, am_wt, am_bk, Option.toList, List.cons_append, List.nil_append, Nat.reduceAdd, Nat.reduceEqDiff, Nat.reduceLeDiff, reduceIte, Nat.reduceLT, or_self, true_or, or_true, if_true, if_false, and_self, and_true, true_and, not_false_eq_true, not_true_eq_false, fd_Pages_store_0, fd_Pages_store_1, fd_Pages_store_2, k14]
  refine am_call (l2_seal (d := d) hS) (fun o h1 q => ?_)
  obtain ⟨rfl, F1, a1, a2⟩ := q
  have k18' : am_kd h1 18 = 4 := by rw [F1.2.2.2.1]; exact k18
  have I18 : am_I h1 18 = am_I h 18 := F1.2.2.2.2.2.2.1 18 (by simp)
  have v5 : am_I h1 18 5 = 0 := by rw [I18]; exact h5
  have n01 : ¬ (0 : Int32) = 1 := by decide
  have one0 : ¬ (1 : Int32) = 0 := by decide
  have mx : am_mx 0 (0 - 1) = 0 := by decide
  simp only [am_wp, am_stp, am_en, am_as, am_pad, am_nth, am_set, am_st1, am_st2, am_kl, am_kill, am_mem, am_fv, am_tk, am_wt, am_bk, Option.toList, List.cons_append, List.nil_append, Nat.reduceAdd, Nat.reduceEqDiff, Nat.reduceLeDiff, reduceIte, Nat.reduceLT, or_self, true_or, or_true, if_true, if_false, and_self, and_true, true_and, not_false_eq_true, not_true_eq_false]
  refine am_go [27] 13 ?_
  simp only [am_wp, am_stp, am_en, am_as, am_pad, am_nth, am_set, am_st1, am_st2, am_kl, am_kill, am_mem, am_fv, am_tk, am_wt, am_bk, Option.toList, List.cons_append, List.nil_append, Nat.reduceAdd, Nat.reduceEqDiff, Nat.reduceLeDiff, reduceIte, Nat.reduceLT, or_self, true_or, or_true, if_true, if_false, and_self, and_true, true_and, not_false_eq_true, not_true_eq_false, fd_Pages_store_5, fd_Pages_store_6, fd_Pages_store_7, fd_Pages_store_10, fd_Pages_store_11, fd_Pages_store_12, fd_Pages_store_15, fd_Pages_store_16, fd_Pages_store_19, fd_Pages_store_20, fd_Pages_store_23, fd_Pages_store_24, fd_Pages_store_28, hx_nx_sI, hx_ce_sI, hx_sl_sI, hx_kd_sI, hx_ln_sI, hx_I_sI, hx_L_sI, hx_R_sI, hx_nx_sL, hx_ce_sL, hx_sl_sL, hx_kd_sL, hx_ln_sL, hx_I_sL, hx_L_sL, hx_R_sL, hx_nx_sR, hx_ce_sR, hx_sl_sR, hx_kd_sR, hx_ln_sR, hx_I_sR, hx_L_sR, hx_R_sR, hx_nx_al, hx_ce_al, hx_sl_al, hx_kd_al, hx_ln_al, hx_I_al, hx_L_al, hx_R_al, hx_nx_row, hx_ce_row, hx_sl_row, hx_kd_row, hx_ln_row, hx_I_row, hx_L_row, hx_R_row, hx_nx_mk, hx_kd_mk, hx_ln_mk, hx_I_mk, hx_L_mk, hx_R_mk, k18', v5, n01]
  refine am_go [] 8 ?_
  simp only [am_wp, am_stp, am_en, am_as, am_pad, am_nth, am_set, am_st1, am_st2, am_kl, am_kill, am_mem, am_fv, am_tk, am_wt, am_bk, Option.toList, List.cons_append, List.nil_append, Nat.reduceAdd, Nat.reduceEqDiff, Nat.reduceLeDiff, reduceIte, Nat.reduceLT, or_self, true_or, or_true, if_true, if_false, and_self, and_true, true_and, not_false_eq_true, not_true_eq_false, fd_Pages_store_29, fd_Pages_store_30, fd_Pages_store_31, fd_Pages_store_32, fd_Pages_store_35, fd_Pages_store_36, fd_Pages_store_37, fd_Pages_store_40, hx_nx_sI, hx_ce_sI, hx_sl_sI, hx_kd_sI, hx_ln_sI, hx_I_sI, hx_L_sI, hx_R_sI, hx_nx_sL, hx_ce_sL, hx_sl_sL, hx_kd_sL, hx_ln_sL, hx_I_sL, hx_L_sL, hx_R_sL, hx_nx_sR, hx_ce_sR, hx_sl_sR, hx_kd_sR, hx_ln_sR, hx_I_sR, hx_L_sR, hx_R_sR, hx_nx_al, hx_ce_al, hx_sl_al, hx_kd_al, hx_ln_al, hx_I_al, hx_L_al, hx_R_al, hx_nx_row, hx_ce_row, hx_sl_row, hx_kd_row, hx_ln_row, hx_I_row, hx_L_row, hx_R_row, hx_nx_mk, hx_kd_mk, hx_ln_mk, hx_I_mk, hx_L_mk, hx_R_mk, k18', v5, mx]
  have F2 : am_fi [18] h1 (am_sI (am_sI h1 18 4 (am_I h1 18 4 + 1)) 18 5 0) := (am_fi.refl.sI (by simp)).sI (by simp)
  have P2 : cl_Pg P (am_sI (am_sI h1 18 4 (am_I h1 18 4 + 1)) 18 5 0) := ((hP.fi F1 (by simp)).sI (Or.inr (by decide))).sI (Or.inr (by decide))
  have w0 : am_I (am_sI (am_sI h1 18 4 (am_I h1 18 4 + 1)) 18 5 0) 18 0 = am_I h 18 0 := by simp only [hx_nx_sI, hx_ce_sI, hx_sl_sI, hx_kd_sI, hx_ln_sI, hx_I_sI, hx_L_sI, hx_R_sI, hx_nx_sL, hx_ce_sL, hx_sl_sL, hx_kd_sL, hx_ln_sL, hx_I_sL, hx_L_sL, hx_R_sL, hx_nx_sR, hx_ce_sR, hx_sl_sR, hx_kd_sR, hx_ln_sR, hx_I_sR, hx_L_sR, hx_R_sR, hx_nx_al, hx_ce_al, hx_sl_al, hx_kd_al, hx_ln_al, hx_I_al, hx_L_al, hx_R_al, hx_nx_row, hx_ce_row, hx_sl_row, hx_kd_row, hx_ln_row, hx_I_row, hx_L_row, hx_R_row, hx_nx_mk, hx_kd_mk, hx_ln_mk, hx_I_mk, hx_L_mk, hx_R_mk, am_wp, am_stp, am_en, am_as, am_pad, am_nth, am_set, am_st1, am_st2, am_kl, am_kill, am_mem, am_fv, am_tk, am_wt, am_bk, Option.toList, List.cons_append, List.nil_append, Nat.reduceAdd, Nat.reduceEqDiff, Nat.reduceLeDiff, reduceIte, Nat.reduceLT, or_self, true_or, or_true, if_true, if_false, and_self, and_true, true_and, not_false_eq_true, not_true_eq_false]; rw [I18]
  have w3 : am_I (am_sI (am_sI h1 18 4 (am_I h1 18 4 + 1)) 18 5 0) 18 3 = am_I h 18 3 := by simp only [hx_nx_sI, hx_ce_sI, hx_sl_sI, hx_kd_sI, hx_ln_sI, hx_I_sI, hx_L_sI, hx_R_sI, hx_nx_sL, hx_ce_sL, hx_sl_sL, hx_kd_sL, hx_ln_sL, hx_I_sL, hx_L_sL, hx_R_sL, hx_nx_sR, hx_ce_sR, hx_sl_sR, hx_kd_sR, hx_ln_sR, hx_I_sR, hx_L_sR, hx_R_sR, hx_nx_al, hx_ce_al, hx_sl_al, hx_kd_al, hx_ln_al, hx_I_al, hx_L_al, hx_R_al, hx_nx_row, hx_ce_row, hx_sl_row, hx_kd_row, hx_ln_row, hx_I_row, hx_L_row, hx_R_row, hx_nx_mk, hx_kd_mk, hx_ln_mk, hx_I_mk, hx_L_mk, hx_R_mk, am_wp, am_stp, am_en, am_as, am_pad, am_nth, am_set, am_st1, am_st2, am_kl, am_kill, am_mem, am_fv, am_tk, am_wt, am_bk, Option.toList, List.cons_append, List.nil_append, Nat.reduceAdd, Nat.reduceEqDiff, Nat.reduceLeDiff, reduceIte, Nat.reduceLT, or_self, true_or, or_true, if_true, if_false, and_self, and_true, true_and, not_false_eq_true, not_true_eq_false]; rw [I18]
  have w5 : am_I (am_sI (am_sI h1 18 4 (am_I h1 18 4 + 1)) 18 5 0) 18 5 = 0 := by simp only [hx_nx_sI, hx_ce_sI, hx_sl_sI, hx_kd_sI, hx_ln_sI, hx_I_sI, hx_L_sI, hx_R_sI, hx_nx_sL, hx_ce_sL, hx_sl_sL, hx_kd_sL, hx_ln_sL, hx_I_sL, hx_L_sL, hx_R_sL, hx_nx_sR, hx_ce_sR, hx_sl_sR, hx_kd_sR, hx_ln_sR, hx_I_sR, hx_L_sR, hx_R_sR, hx_nx_al, hx_ce_al, hx_sl_al, hx_kd_al, hx_ln_al, hx_I_al, hx_L_al, hx_R_al, hx_nx_row, hx_ce_row, hx_sl_row, hx_kd_row, hx_ln_row, hx_I_row, hx_L_row, hx_R_row, hx_nx_mk, hx_kd_mk, hx_ln_mk, hx_I_mk, hx_L_mk, hx_R_mk, am_wp, am_stp, am_en, am_as, am_pad, am_nth, am_set, am_st1, am_st2, am_kl, am_kill, am_mem, am_fv, am_tk, am_wt, am_bk, Option.toList, List.cons_append, List.nil_append, Nat.reduceAdd, Nat.reduceEqDiff, Nat.reduceLeDiff, reduceIte, Nat.reduceLT, or_self, true_or, or_true, if_true, if_false, and_self, and_true, true_and, not_false_eq_true, not_true_eq_false]
  have wL : am_L (am_sI (am_sI h1 18 4 (am_I h1 18 4 + 1)) 18 5 0) = am_L h1 := rfl
  generalize am_sI (am_sI h1 18 4 (am_I h1 18 4 + 1)) 18 5 0 = h2 at F2 P2 w0 w3 w5 wL ⊢
  have S2 := (hS.fi F1).fi F2
  refine am_go [56] 8 ?_
  simp only [am_wp, am_stp, am_en, am_as, am_pad, am_nth, am_set, am_st1, am_st2, am_kl, am_kill, am_mem, am_fv, am_tk, am_wt, am_bk, Option.toList, List.cons_append, List.nil_append, Nat.reduceAdd, Nat.reduceEqDiff, Nat.reduceLeDiff, reduceIte, Nat.reduceLT, or_self, true_or, or_true, if_true, if_false, and_self, and_true, true_and, not_false_eq_true, not_true_eq_false, fd_Pages_store_43, fd_Pages_store_44, fd_Pages_store_45, fd_Pages_store_46, fd_Pages_store_47, fd_Pages_store_50, fd_Pages_store_53, fd_Pages_store_56, fd_Pages_store_57, fd_Pages_store_60, P2.1, one0]
  refine am_call (l2_lay (d := d) (m := 128) hp (Nat.le_refl _) P2 S2) (fun o h3 q => ?_)
  obtain ⟨rfl, F3, b1, b2⟩ := q
  have P3 := P2.fi F3 (by simp)
  simp only [am_wp, am_stp, am_en, am_as, am_pad, am_nth, am_set, am_st1, am_st2, am_kl, am_kill, am_mem, am_fv, am_tk, am_wt, am_bk, Option.toList, List.cons_append, List.nil_append, Nat.reduceAdd, Nat.reduceEqDiff, Nat.reduceLeDiff, reduceIte, Nat.reduceLT, or_self, true_or, or_true, if_true, if_false, and_self, and_true, true_and, not_false_eq_true, not_true_eq_false]
  refine am_go [] 3 ?_
  simp only [am_wp, am_stp, am_en, am_as, am_pad, am_nth, am_set, am_st1, am_st2, am_kl, am_kill, am_mem, am_fv, am_tk, am_wt, am_bk, Option.toList, List.cons_append, List.nil_append, Nat.reduceAdd, Nat.reduceEqDiff, Nat.reduceLeDiff, reduceIte, Nat.reduceLT, or_self, true_or, or_true, if_true, if_false, and_self, and_true, true_and, not_false_eq_true, not_true_eq_false, fd_Pages_store_63, fd_Pages_store_64, fd_Pages_store_65, P3.1]
  refine am_call (l2_checkSum (d := d) hp P3) (fun o h4 q => ?_)
  obtain ⟨rfl, e4⟩ := q
  have o1 : (1 : Int32) = 0 ∨ (1 : Int32) = 1 := by decide
  simp only [am_wp, am_stp, am_en, am_as, am_pad, am_nth, am_set, am_st1, am_st2, am_kl, am_kill, am_mem, am_fv, am_tk, am_wt, am_bk, Option.toList, List.cons_append, List.nil_append, Nat.reduceAdd, Nat.reduceEqDiff, Nat.reduceLeDiff, reduceIte, Nat.reduceLT, or_self, true_or, or_true, if_true, if_false, and_self, and_true, true_and, not_false_eq_true, not_true_eq_false]
  refine am_go [] 2 ?_
  simp only [am_wp, am_stp, am_en, am_as, am_pad, am_nth, am_set, am_st1, am_st2, am_kl, am_kill, am_mem, am_fv, am_tk, am_wt, am_bk, Option.toList, List.cons_append, List.nil_append, Nat.reduceAdd, Nat.reduceEqDiff, Nat.reduceLeDiff, reduceIte, Nat.reduceLT, or_self, true_or, or_true, if_true, if_false, and_self, and_true, true_and, not_false_eq_true, not_true_eq_false, fd_Pages_store_68, fd_Pages_store_69, o1]
  have I15 : am_I h2 15 = am_I h1 15 := F2.2.2.2.2.2.2.1 15 (by simp)
  have I19 : am_I h2 19 = am_I h 19 := (F2.2.2.2.2.2.2.1 19 (by simp)).trans (F1.2.2.2.2.2.2.1 19 (by simp))
  have I20 : am_I h3 20 = am_I h 20 := (F3.2.2.2.2.2.2.1 20 (by simp)).trans ((F2.2.2.2.2.2.2.1 20 (by simp)).trans (F1.2.2.2.2.2.2.1 20 (by simp)))
  have c1 : ∀ j, j < 120 → am_I h3 19 (p * 128 + j) = am_b8 (am_I h 15 j) := fun j hj => by
    rw [b1]
    dsimp only
    rw [if_pos (by omega), show p * 128 + j - p * 128 = j by omega, I15, a1]
    dsimp only
    rw [if_neg (by omega)]
  have c2 : ∀ j, j < 8 → am_I h3 19 (p * 128 + 120 + j) = sm_O (sm_F (am_I h 15) (nI p).toInt64 120) j := fun j hj => by
    rw [b1]
    dsimp only
    rw [if_pos (by omega), show p * 128 + 120 + j - p * 128 = 120 + j by omega, I15, a1]
    dsimp only
    rw [if_pos (by omega), Nat.add_sub_cancel_left]
    unfold sm_O
    exact am_b8_b8 _
  have cs : cs_B (fun j => am_I h3 19 (p * 128 + 120 + j)) (sm_F (fun j => am_I h3 19 (p * 128 + j)) (nI p).toInt64 120) 8 = 1 := by
    rw [cs_B_1]
    intro j hj
    rw [c2 j hj, sm_F_ext (g := fun j => am_b8 (am_I h 15 j)) 120 (fun j hj => c1 j hj), sm_F_b8]
  rw [cs] at e4
  subst e4
  have FA : am_fi [15, 18, 19, 20] h h3 := ((F1.sub (by simp)).trans (F2.sub (by simp))).trans (F3.sub (by simp))
  have I18' : am_I h3 18 = am_I h2 18 := F3.2.2.2.2.2.2.1 18 (by simp)
  refine ⟨FA.sI (by simp), ?_, ?_, ?_, ?_, fun j hj => ?_, fun j hj => ?_, ?_⟩
  · show am_L h3 = am_L h
    rw [b2, wL, a2]
  · simp only [hx_nx_sI, hx_ce_sI, hx_sl_sI, hx_kd_sI, hx_ln_sI, hx_I_sI, hx_L_sI, hx_R_sI, hx_nx_sL, hx_ce_sL, hx_sl_sL, hx_kd_sL, hx_ln_sL, hx_I_sL, hx_L_sL, hx_R_sL, hx_nx_sR, hx_ce_sR, hx_sl_sR, hx_kd_sR, hx_ln_sR, hx_I_sR, hx_L_sR, hx_R_sR, hx_nx_al, hx_ce_al, hx_sl_al, hx_kd_al, hx_ln_al, hx_I_al, hx_L_al, hx_R_al, hx_nx_row, hx_ce_row, hx_sl_row, hx_kd_row, hx_ln_row, hx_I_row, hx_L_row, hx_R_row, hx_nx_mk, hx_kd_mk, hx_ln_mk, hx_I_mk, hx_L_mk, hx_R_mk, am_wp, am_stp, am_en, am_as, am_pad, am_nth, am_set, am_st1, am_st2, am_kl, am_kill, am_mem, am_fv, am_tk, am_wt, am_bk, Option.toList, List.cons_append, List.nil_append, Nat.reduceAdd, Nat.reduceEqDiff, Nat.reduceLeDiff, reduceIte, Nat.reduceLT, or_self, true_or, or_true, if_true, if_false, and_self, and_true, true_and, not_false_eq_true, not_true_eq_false]; rw [I18']; exact w0
  · simp only [hx_nx_sI, hx_ce_sI, hx_sl_sI, hx_kd_sI, hx_ln_sI, hx_I_sI, hx_L_sI, hx_R_sI, hx_nx_sL, hx_ce_sL, hx_sl_sL, hx_kd_sL, hx_ln_sL, hx_I_sL, hx_L_sL, hx_R_sL, hx_nx_sR, hx_ce_sR, hx_sl_sR, hx_kd_sR, hx_ln_sR, hx_I_sR, hx_L_sR, hx_R_sR, hx_nx_al, hx_ce_al, hx_sl_al, hx_kd_al, hx_ln_al, hx_I_al, hx_L_al, hx_R_al, hx_nx_row, hx_ce_row, hx_sl_row, hx_kd_row, hx_ln_row, hx_I_row, hx_L_row, hx_R_row, hx_nx_mk, hx_kd_mk, hx_ln_mk, hx_I_mk, hx_L_mk, hx_R_mk, am_wp, am_stp, am_en, am_as, am_pad, am_nth, am_set, am_st1, am_st2, am_kl, am_kill, am_mem, am_fv, am_tk, am_wt, am_bk, Option.toList, List.cons_append, List.nil_append, Nat.reduceAdd, Nat.reduceEqDiff, Nat.reduceLeDiff, reduceIte, Nat.reduceLT, or_self, true_or, or_true, if_true, if_false, and_self, and_true, true_and, not_false_eq_true, not_true_eq_false]; rw [I18']; exact w3
  · simp only [hx_nx_sI, hx_ce_sI, hx_sl_sI, hx_kd_sI, hx_ln_sI, hx_I_sI, hx_L_sI, hx_R_sI, hx_nx_sL, hx_ce_sL, hx_sl_sL, hx_kd_sL, hx_ln_sL, hx_I_sL, hx_L_sL, hx_R_sL, hx_nx_sR, hx_ce_sR, hx_sl_sR, hx_kd_sR, hx_ln_sR, hx_I_sR, hx_L_sR, hx_R_sR, hx_nx_al, hx_ce_al, hx_sl_al, hx_kd_al, hx_ln_al, hx_I_al, hx_L_al, hx_R_al, hx_nx_row, hx_ce_row, hx_sl_row, hx_kd_row, hx_ln_row, hx_I_row, hx_L_row, hx_R_row, hx_nx_mk, hx_kd_mk, hx_ln_mk, hx_I_mk, hx_L_mk, hx_R_mk, am_wp, am_stp, am_en, am_as, am_pad, am_nth, am_set, am_st1, am_st2, am_kl, am_kill, am_mem, am_fv, am_tk, am_wt, am_bk, Option.toList, List.cons_append, List.nil_append, Nat.reduceAdd, Nat.reduceEqDiff, Nat.reduceLeDiff, reduceIte, Nat.reduceLT, or_self, true_or, or_true, if_true, if_false, and_self, and_true, true_and, not_false_eq_true, not_true_eq_false]; rw [I18']; exact w5
  · simp only [hx_nx_sI, hx_ce_sI, hx_sl_sI, hx_kd_sI, hx_ln_sI, hx_I_sI, hx_L_sI, hx_R_sI, hx_nx_sL, hx_ce_sL, hx_sl_sL, hx_kd_sL, hx_ln_sL, hx_I_sL, hx_L_sL, hx_R_sL, hx_nx_sR, hx_ce_sR, hx_sl_sR, hx_kd_sR, hx_ln_sR, hx_I_sR, hx_L_sR, hx_R_sR, hx_nx_al, hx_ce_al, hx_sl_al, hx_kd_al, hx_ln_al, hx_I_al, hx_L_al, hx_R_al, hx_nx_row, hx_ce_row, hx_sl_row, hx_kd_row, hx_ln_row, hx_I_row, hx_L_row, hx_R_row, hx_nx_mk, hx_kd_mk, hx_ln_mk, hx_I_mk, hx_L_mk, hx_R_mk, am_wp, am_stp, am_en, am_as, am_pad, am_nth, am_set, am_st1, am_st2, am_kl, am_kill, am_mem, am_fv, am_tk, am_wt, am_bk, Option.toList, List.cons_append, List.nil_append, Nat.reduceAdd, Nat.reduceEqDiff, Nat.reduceLeDiff, reduceIte, Nat.reduceLT, or_self, true_or, or_true, if_true, if_false, and_self, and_true, true_and, not_false_eq_true, not_true_eq_false]
    rw [b1]
    dsimp only
    rw [if_neg hj, I19]
  · simp only [hx_nx_sI, hx_ce_sI, hx_sl_sI, hx_kd_sI, hx_ln_sI, hx_I_sI, hx_L_sI, hx_R_sI, hx_nx_sL, hx_ce_sL, hx_sl_sL, hx_kd_sL, hx_ln_sL, hx_I_sL, hx_L_sL, hx_R_sL, hx_nx_sR, hx_ce_sR, hx_sl_sR, hx_kd_sR, hx_ln_sR, hx_I_sR, hx_L_sR, hx_R_sR, hx_nx_al, hx_ce_al, hx_sl_al, hx_kd_al, hx_ln_al, hx_I_al, hx_L_al, hx_R_al, hx_nx_row, hx_ce_row, hx_sl_row, hx_kd_row, hx_ln_row, hx_I_row, hx_L_row, hx_R_row, hx_nx_mk, hx_kd_mk, hx_ln_mk, hx_I_mk, hx_L_mk, hx_R_mk, am_wp, am_stp, am_en, am_as, am_pad, am_nth, am_set, am_st1, am_st2, am_kl, am_kill, am_mem, am_fv, am_tk, am_wt, am_bk, Option.toList, List.cons_append, List.nil_append, Nat.reduceAdd, Nat.reduceEqDiff, Nat.reduceLeDiff, reduceIte, Nat.reduceLT, or_self, true_or, or_true, if_true, if_false, and_self, and_true, true_and, not_false_eq_true, not_true_eq_false]; exact c1 j hj
  · funext j
    unfold up_f
    simp only [hx_nx_sI, hx_ce_sI, hx_sl_sI, hx_kd_sI, hx_ln_sI, hx_I_sI, hx_L_sI, hx_R_sI, hx_nx_sL, hx_ce_sL, hx_sl_sL, hx_kd_sL, hx_ln_sL, hx_I_sL, hx_L_sL, hx_R_sL, hx_nx_sR, hx_ce_sR, hx_sl_sR, hx_kd_sR, hx_ln_sR, hx_I_sR, hx_L_sR, hx_R_sR, hx_nx_al, hx_ce_al, hx_sl_al, hx_kd_al, hx_ln_al, hx_I_al, hx_L_al, hx_R_al, hx_nx_row, hx_ce_row, hx_sl_row, hx_kd_row, hx_ln_row, hx_I_row, hx_L_row, hx_R_row, hx_nx_mk, hx_kd_mk, hx_ln_mk, hx_I_mk, hx_L_mk, hx_R_mk, am_wp, am_stp, am_en, am_as, am_pad, am_nth, am_set, am_st1, am_st2, am_kl, am_kill, am_mem, am_fv, am_tk, am_wt, am_bk, Option.toList, List.cons_append, List.nil_append, Nat.reduceAdd, Nat.reduceEqDiff, Nat.reduceLeDiff, reduceIte, Nat.reduceLT, or_self, true_or, or_true, if_true, if_false, and_self, and_true, true_and, not_false_eq_true, not_true_eq_false]
    rw [I20]
