/-! THE LIST OF RUNS CHANGES -/
theorem l2_put_loop {d n a : Nat} {h : am_H} {Q : am_O → am_H → Prop} (k8 : am_kd h 8 = 6) (r8 : am_R h 8 0 = 9) (k9 : am_kd h 9 = 200) (n9 : am_ln h 9 = 9) (hn : n < 9) (hk : ∀ i, i < n → am_kd h (am_R h 9 i) = 5) (hx : ∀ g, am_fx [9] h g → am_I g = am_I h → am_L g = am_L h → am_R g 9 = sh_f (am_R h 9) 0 n → am_Ex nm_pr d mt_RunList_putFirst (39, [.ref 8, .ref a, .int (nI 0)], [], g) Q) : ∀ (i : Nat) (g : am_H), i ≤ n → am_fx [9] h g → am_I g = am_I h → am_L g = am_L h → am_R g 9 = sh_f (am_R h 9) i n →
    am_Ex nm_pr d mt_RunList_putFirst (15, [.ref 8, .ref a, .int (nI i)], [], g) Q
  | 0, g, hi, F, eI, eL, eR => by
    have l0 : ¬ (0 : Int32) < nI 0 := by decide
    refine am_go [19, 39] 2 ?_
    simp only [am_wp, am_stp, am_en, am_as, am_pad, am_nth, am_set, am_st1, am_st2, am_kl, am_kill, am_mem, am_fv, am_tk, am_wt, am_bk, Option.toList, List.cons_append, List.nil_append, Nat.reduceAdd, Nat.reduceEqDiff, Nat.reduceLeDiff, reduceIte, Nat.reduceLT, or_self, true_or, or_true, if_true, if_false, and_self, and_true, true_and, not_false_eq_true, not_true_eq_false, fd_RunList_putFirst_15, fd_RunList_putFirst_16, l0]
    exact hx g F eI eL eR
  | i + 1, g, hi, F, eI, eL, eR => by
    have l0 : (0 : Int32) < nI (i + 1) := nI_gt0 (by omega) (by omega)
    have g8 : am_kd g 8 = 6 := by rw [F.2.2.2.1]; exact k8
    have gr : am_R g 8 0 = 9 := by rw [F.2.2.2.2.2.2.2 8 (by simp)]; exact r8
    have g9 : am_kd g 9 = 200 := by rw [F.2.2.2.1]; exact k9
    have gn : am_ln g 9 = 9 := by rw [F.2.2.2.2.1]; exact n9
    have n1 : (200 ≤ 200 ∧ 200 < 204) := by decide
    have i1 := am_inb (c := i) (N := 9) (by omega) (by omega)
    have q1 : (nI i).toNatClampNeg = i := nI_clamp (by omega)
    have i2 : (nI (i + 1) < 0 ∨ 8 ≤ i) = False := eq_false (fun q => by rcases q with q | q; exact nI_pos (by omega) q; omega)
    have q2 : (nI (i + 1)).toNatClampNeg = i + 1 := nI_clamp (by omega)
    have em : nI (i + 1) - 1 = nI i := nI_pred i
    have em2 : nI (i + 1) + -1 = nI i := by rw [← em, Int32.sub_eq_add_neg]
    have vr : am_R g 9 i = am_R h 9 i := by rw [eR]; unfold sh_f; rw [if_neg (by omega)]
    have kv : am_kd g (am_R h 9 i) = 5 := by rw [F.2.2.2.1]; exact hk i (by omega)
    refine am_go [19, 39] 2 ?_
    simp only [am_wp, am_stp, am_en, am_as, am_pad, am_nth, am_set, am_st1, am_st2, am_kl, am_kill, am_mem, am_fv, am_tk, am_wt, am_bk, Option.toList, List.cons_append, List.nil_append, Nat.reduceAdd, Nat.reduceEqDiff, Nat.reduceLeDiff, reduceIte, Nat.reduceLT, or_self, true_or, or_true, if_true, if_false, and_self, and_true, true_and, not_false_eq_true, not_true_eq_false, fd_RunList_putFirst_15, fd_RunList_putFirst_16, l0]
    refine am_go [] 9 ?_
    simp only [am_wp, am_stp, am_en, am_as, am_pad, am_nth, am_set, am_st1, am_st2, am_kl, am_kill, am_mem, am_fv, am_tk, am_wt, am_bk, Option.toList, List.cons_append, List.nil_append, Nat.reduceAdd, Nat.reduceEqDiff, Nat.reduceLeDiff, reduceIte, Nat.reduceLT, or_self, true_or, or_true, if_true, if_false, and_self, and_true, true_and, not_false_eq_true, not_true_eq_false, fd_RunList_putFirst_19, fd_RunList_putFirst_20, fd_RunList_putFirst_23, fd_RunList_putFirst_24, fd_RunList_putFirst_25, fd_RunList_putFirst_28, fd_RunList_putFirst_29, fd_RunList_putFirst_30, fd_RunList_putFirst_31, g8, gr, g9, gn, n1, em, i1, q1, vr]
    refine am_go [15] 3 ?_
    simp only [am_wp, am_stp, am_en, am_as, am_pad, am_nth, am_set, am_st1, am_st2, am_kl, am_kill, am_mem, am_fv, am_tk, am_wt, am_bk, Option.toList, List.cons_append, List.nil_append, Nat.reduceAdd, Nat.reduceEqDiff, Nat.reduceLeDiff, reduceIte, Nat.reduceLT, or_self, true_or, or_true, if_true, if_false, and_self, and_true, true_and, not_false_eq_true, not_true_eq_false, fd_RunList_putFirst_32, fd_RunList_putFirst_33, fd_RunList_putFirst_36, g9, gn, kv, i2, q2, em2]
    refine l2_put_loop k8 r8 k9 n9 hn hk hx i _ (by omega) (F.sR (by simp)) eI eL ?_
    rw [← sh_s (am_R h 9) i n (by omega), ← eR]
    funext j
    simp only [hx_nx_sI, hx_ce_sI, hx_sl_sI, hx_kd_sI, hx_ln_sI, hx_I_sI, hx_L_sI, hx_R_sI, hx_nx_sL, hx_ce_sL, hx_sl_sL, hx_kd_sL, hx_ln_sL, hx_I_sL, hx_L_sL, hx_R_sL, hx_nx_sR, hx_ce_sR, hx_sl_sR, hx_kd_sR, hx_ln_sR, hx_I_sR, hx_L_sR, hx_R_sR, hx_nx_al, hx_ce_al, hx_sl_al, hx_kd_al, hx_ln_al, hx_I_al, hx_L_al, hx_R_al, hx_nx_row, hx_ce_row, hx_sl_row, hx_kd_row, hx_ln_row, hx_I_row, hx_L_row, hx_R_row, hx_nx_mk, hx_kd_mk, hx_ln_mk, hx_I_mk, hx_L_mk, hx_R_mk, am_wp, am_stp, am_en, am_as, am_pad, am_nth, am_set, am_st1, am_st2, am_kl, am_kill, am_mem, am_fv, am_tk, am_wt, am_bk, Option.toList, List.cons_append, List.nil_append, Nat.reduceAdd, Nat.reduceEqDiff, Nat.reduceLeDiff, reduceIte, Nat.reduceLT, or_self, true_or, or_true, if_true, if_false, and_self, and_true, true_and, not_false_eq_true, not_true_eq_false]
    rw [vr, eR]
/-- a run comes first -/
def pf_Q (h h' : am_H) (n a : Nat) : Prop := am_fx [8, 9, a] h h' ∧ am_I h' 8 1 = nI (n + 1) ∧ am_R h' 8 = am_R h 8 ∧ am_R h' 9 = (fun j => if j = 0 then a else sh_f (am_R h 9) 0 n j) ∧ am_I h' a = up_f (am_I h a) 8 (am_I h a 8 + 1) ∧ am_R h' a = am_R h a ∧ am_I h' 9 = am_I h 9 ∧ am_L h' = am_L h
theorem l2_putFirst {d n a : Nat} {h : am_H} (k8 : am_kd h 8 = 6) (r8 : am_R h 8 0 = 9) (k9 : am_kd h 9 = 200) (n9 : am_ln h 9 = 9) (i8 : am_I h 8 1 = nI n) (hn : n < 9) (hk : ∀ i, i < n → am_kd h (am_R h 9 i) = 5) (ka : am_kd h a = 5) (ha : a ≠ 8 ∧ a ≠ 9) : am_Rt nm_pr (d + 1) mi_RunList_putFirst [.ref 8, .ref a] h (fun o h' => o = .inl none ∧ pf_Q h h' n a) := by
  have l9 : nI n < 9 := nI_lt (b := 9) hn (by decide)
  refine am_in' mt_RunList_putFirst 3 rfl rfl rfl ?_
  refine am_go [9, 10] 4 ?_
  simp only [am_wp, am_stp, am_en, am_as, am_pad, am_nth, am_set, am_st1, am_st2, am_kl, am_kill, am_mem, am_fv, am_tk, am_wt, am_bk, Option.toList, List.cons_append, List.nil_append, Nat.reduceAdd, Nat.reduceEqDiff, Nat.reduceLeDiff, reduceIte, Nat.reduceLT, or_self, true_or, or_true, if_true, if_false, and_self, and_true, true_and, not_false_eq_true, not_true_eq_false, fd_RunList_putFirst_0, fd_RunList_putFirst_1, fd_RunList_putFirst_4, fd_RunList_putFirst_6, k8, i8, l9]
  refine am_go [15] 3 ?_
  simp only [am_wp, am_stp, am_en, am_as, am_pad, am_nth, am_set, am_st1, am_st2, am_kl, am_kill, am_mem, am_fv, am_tk, am_wt, am_bk, Option.toList, List.cons_append, List.nil_append, Nat.reduceAdd, Nat.reduceEqDiff, Nat.reduceLeDiff, reduceIte, Nat.reduceLT, or_self, true_or, or_true, if_true, if_false, and_self, and_true, true_and, not_false_eq_true, not_true_eq_false, fd_RunList_putFirst_10, fd_RunList_putFirst_11, fd_RunList_putFirst_14, k8, i8]
  refine l2_put_loop k8 r8 k9 n9 hn hk (fun g F eI eL eR => ?_) n h (Nat.le_refl _) am_fx.refl rfl rfl (sh_n _ _).symm
  have g8 : am_kd g 8 = 6 := by rw [F.2.2.2.1]; exact k8
  have gr : am_R g 8 0 = 9 := by rw [F.2.2.2.2.2.2.2 8 (by simp)]; exact r8
  have g9 : am_kd g 9 = 200 := by rw [F.2.2.2.1]; exact k9
  have gn : am_ln g 9 = 9 := by rw [F.2.2.2.2.1]; exact n9
  have ga : am_kd g a = 5 := by rw [F.2.2.2.1]; exact ka
  have gi : am_I g 8 1 = nI n := by rw [eI]; exact i8
  have i0 : ((0 : Int32) < 0 ∨ 9 ≤ (0 : Int32).toNatClampNeg) = False := by decide
  have c0 : (0 : Int32).toNatClampNeg = 0 := by decide
  have a8 : ¬ 8 = a := fun e => ha.1 e.symm
  refine am_go [] 5 ?_
  simp only [am_wp, am_stp, am_en, am_as, am_pad, am_nth, am_set, am_st1, am_st2, am_kl, am_kill, am_mem, am_fv, am_tk, am_wt, am_bk, Option.toList, List.cons_append, List.nil_append, Nat.reduceAdd, Nat.reduceEqDiff, Nat.reduceLeDiff, reduceIte, Nat.reduceLT, or_self, true_or, or_true, if_true, if_false, and_self, and_true, true_and, not_false_eq_true, not_true_eq_false, fd_RunList_putFirst_39, fd_RunList_putFirst_40, fd_RunList_putFirst_43, fd_RunList_putFirst_44, fd_RunList_putFirst_45, g8, gr, g9, gn, ga, i0]
  rw [c0]
  refine am_go [] 13 ?_
  simp only [am_wp, am_stp, am_en, am_as, am_pad, am_nth, am_set, am_st1, am_st2, am_kl, am_kill, am_mem, am_fv, am_tk, am_wt, am_bk, Option.toList, List.cons_append, List.nil_append, Nat.reduceAdd, Nat.reduceEqDiff, Nat.reduceLeDiff, reduceIte, Nat.reduceLT, or_self, true_or, or_true, if_true, if_false, and_self, and_true, true_and, not_false_eq_true, not_true_eq_false, fd_RunList_putFirst_46, fd_RunList_putFirst_47, fd_RunList_putFirst_48, fd_RunList_putFirst_51, fd_RunList_putFirst_52, fd_RunList_putFirst_53, fd_RunList_putFirst_56, fd_RunList_putFirst_57, fd_RunList_putFirst_58, fd_RunList_putFirst_61, fd_RunList_putFirst_62, fd_RunList_putFirst_63, fd_RunList_putFirst_66, hx_nx_sI, hx_ce_sI, hx_sl_sI, hx_kd_sI, hx_ln_sI, hx_I_sI, hx_L_sI, hx_R_sI, hx_nx_sL, hx_ce_sL, hx_sl_sL, hx_kd_sL, hx_ln_sL, hx_I_sL, hx_L_sL, hx_R_sL, hx_nx_sR, hx_ce_sR, hx_sl_sR, hx_kd_sR, hx_ln_sR, hx_I_sR, hx_L_sR, hx_R_sR, hx_nx_al, hx_ce_al, hx_sl_al, hx_kd_al, hx_ln_al, hx_I_al, hx_L_al, hx_R_al, hx_nx_row, hx_ce_row, hx_sl_row, hx_kd_row, hx_ln_row, hx_I_row, hx_L_row, hx_R_row, hx_nx_mk, hx_kd_mk, hx_ln_mk, hx_I_mk, hx_L_mk, hx_R_mk, g8, ga, gi, a8, nI_1]
  have a9 : ¬ a = 9 := ha.2
  refine ⟨(((F.sub (by simp)).sR (by simp)).sI (by simp)).sI (by simp), ?_, ?_, ?_, ?_, ?_, ?_, ?_⟩
  · simp only [hx_nx_sI, hx_ce_sI, hx_sl_sI, hx_kd_sI, hx_ln_sI, hx_I_sI, hx_L_sI, hx_R_sI, hx_nx_sL, hx_ce_sL, hx_sl_sL, hx_kd_sL, hx_ln_sL, hx_I_sL, hx_L_sL, hx_R_sL, hx_nx_sR, hx_ce_sR, hx_sl_sR, hx_kd_sR, hx_ln_sR, hx_I_sR, hx_L_sR, hx_R_sR, hx_nx_al, hx_ce_al, hx_sl_al, hx_kd_al, hx_ln_al, hx_I_al, hx_L_al, hx_R_al, hx_nx_row, hx_ce_row, hx_sl_row, hx_kd_row, hx_ln_row, hx_I_row, hx_L_row, hx_R_row, hx_nx_mk, hx_kd_mk, hx_ln_mk, hx_I_mk, hx_L_mk, hx_R_mk, am_wp, am_stp, am_en, am_as, am_pad, am_nth, am_set, am_st1, am_st2, am_kl, am_kill, am_mem, am_fv, am_tk, am_wt, am_bk, Option.toList, List.cons_append, List.nil_append, Nat.reduceAdd, Nat.reduceEqDiff, Nat.reduceLeDiff, reduceIte, Nat.reduceLT, or_self, true_or, or_true, if_true, if_false, and_self, and_true, true_and, not_false_eq_true, not_true_eq_false]
  · funext j; simp only [hx_nx_sI, hx_ce_sI, hx_sl_sI, hx_kd_sI, hx_ln_sI, hx_I_sI, hx_L_sI, hx_R_sI, hx_nx_sL, hx_ce_sL, hx_sl_sL, hx_kd_sL, hx_ln_sL, hx_I_sL, hx_L_sL, hx_R_sL, hx_nx_sR, hx_ce_sR, hx_sl_sR, hx_kd_sR, hx_ln_sR, hx_I_sR, hx_L_sR, hx_R_sR, hx_nx_al, hx_ce_al, hx_sl_al, hx_kd_al, hx_ln_al, hx_I_al, hx_L_al, hx_R_al, hx_nx_row, hx_ce_row, hx_sl_row, hx_kd_row, hx_ln_row, hx_I_row, hx_L_row, hx_R_row, hx_nx_mk, hx_kd_mk, hx_ln_mk, hx_I_mk, hx_L_mk, hx_R_mk, am_wp, am_stp, am_en, am_as, am_pad, am_nth, am_set, am_st1, am_st2, am_kl, am_kill, am_mem, am_fv, am_tk, am_wt, am_bk, Option.toList, List.cons_append, List.nil_append, Nat.reduceAdd, Nat.reduceEqDiff, Nat.reduceLeDiff, reduceIte, Nat.reduceLT, or_self, true_or, or_true, if_true, if_false, and_self, and_true, true_and, not_false_eq_true, not_true_eq_false]; exact congrFun (F.2.2.2.2.2.2.2 8 (by simp)) j
  · funext j; simp only [hx_nx_sI, hx_ce_sI, hx_sl_sI, hx_kd_sI, hx_ln_sI, hx_I_sI, hx_L_sI, hx_R_sI, hx_nx_sL, hx_ce_sL, hx_sl_sL, hx_kd_sL, hx_ln_sL, hx_I_sL, hx_L_sL, hx_R_sL, hx_nx_sR, hx_ce_sR, hx_sl_sR, hx_kd_sR, hx_ln_sR, hx_I_sR, hx_L_sR, hx_R_sR, hx_nx_al, hx_ce_al, hx_sl_al, hx_kd_al, hx_ln_al, hx_I_al, hx_L_al, hx_R_al, hx_nx_row, hx_ce_row, hx_sl_row, hx_kd_row, hx_ln_row, hx_I_row, hx_L_row, hx_R_row, hx_nx_mk, hx_kd_mk, hx_ln_mk, hx_I_mk, hx_L_mk, hx_R_mk, am_wp, am_stp, am_en, am_as, am_pad, am_nth, am_set, am_st1, am_st2, am_kl, am_kill, am_mem, am_fv, am_tk, am_wt, am_bk, Option.toList, List.cons_append, List.nil_append, Nat.reduceAdd, Nat.reduceEqDiff, Nat.reduceLeDiff, reduceIte, Nat.reduceLT, or_self, true_or, or_true, if_true, if_false, and_self, and_true, true_and, not_false_eq_true, not_true_eq_false]; rw [eR]
  · funext j
    unfold up_f
    have : ¬ a = 8 := ha.1
    simp only [hx_nx_sI, hx_ce_sI, hx_sl_sI, hx_kd_sI, hx_ln_sI, hx_I_sI, hx_L_sI, hx_R_sI, hx_nx_sL, hx_ce_sL, hx_sl_sL, hx_kd_sL, hx_ln_sL, hx_I_sL, hx_L_sL, hx_R_sL, hx_nx_sR, hx_ce_sR, hx_sl_sR, hx_kd_sR, hx_ln_sR, hx_I_sR, hx_L_sR, hx_R_sR, hx_nx_al, hx_ce_al, hx_sl_al, hx_kd_al, hx_ln_al, hx_I_al, hx_L_al, hx_R_al, hx_nx_row, hx_ce_row, hx_sl_row, hx_kd_row, hx_ln_row, hx_I_row, hx_L_row, hx_R_row, hx_nx_mk, hx_kd_mk, hx_ln_mk, hx_I_mk, hx_L_mk, hx_R_mk, am_wp, am_stp, am_en, am_as, am_pad, am_nth, am_set, am_st1, am_st2, am_kl, am_kill, am_mem, am_fv, am_tk, am_wt, am_bk, Option.toList, List.cons_append, List.nil_append, Nat.reduceAdd, Nat.reduceEqDiff, Nat.reduceLeDiff, reduceIte, Nat.reduceLT, or_self, true_or, or_true, if_true, if_false, and_self, and_true, true_and, not_false_eq_true, not_true_eq_false, this]
    rw [eI]
  · funext j; simp only [hx_nx_sI, hx_ce_sI, hx_sl_sI, hx_kd_sI, hx_ln_sI, hx_I_sI, hx_L_sI, hx_R_sI, hx_nx_sL, hx_ce_sL, hx_sl_sL, hx_kd_sL, hx_ln_sL, hx_I_sL, hx_L_sL, hx_R_sL, hx_nx_sR, hx_ce_sR, hx_sl_sR, hx_kd_sR, hx_ln_sR, hx_I_sR, hx_L_sR, hx_R_sR, hx_nx_al, hx_ce_al, hx_sl_al, hx_kd_al, hx_ln_al, hx_I_al, hx_L_al, hx_R_al, hx_nx_row, hx_ce_row, hx_sl_row, hx_kd_row, hx_ln_row, hx_I_row, hx_L_row, hx_R_row, hx_nx_mk, hx_kd_mk, hx_ln_mk, hx_I_mk, hx_L_mk, hx_R_mk, am_wp, am_stp, am_en, am_as, am_pad, am_nth, am_set, am_st1, am_st2, am_kl, am_kill, am_mem, am_fv, am_tk, am_wt, am_bk, Option.toList, List.cons_append, List.nil_append, Nat.reduceAdd, Nat.reduceEqDiff, Nat.reduceLeDiff, reduceIte, Nat.reduceLT, or_self, true_or, or_true, if_true, if_false, and_self, and_true, true_and, not_false_eq_true, not_true_eq_false, a9]; exact congrFun (F.2.2.2.2.2.2.2 a (by simp; exact a9)) j
  · funext j
    have : ¬ 9 = a := fun e => a9 e.symm
    simp only [hx_nx_sI, hx_ce_sI, hx_sl_sI, hx_kd_sI, hx_ln_sI, hx_I_sI, hx_L_sI, hx_R_sI, hx_nx_sL, hx_ce_sL, hx_sl_sL, hx_kd_sL, hx_ln_sL, hx_I_sL, hx_L_sL, hx_R_sL, hx_nx_sR, hx_ce_sR, hx_sl_sR, hx_kd_sR, hx_ln_sR, hx_I_sR, hx_L_sR, hx_R_sR, hx_nx_al, hx_ce_al, hx_sl_al, hx_kd_al, hx_ln_al, hx_I_al, hx_L_al, hx_R_al, hx_nx_row, hx_ce_row, hx_sl_row, hx_kd_row, hx_ln_row, hx_I_row, hx_L_row, hx_R_row, hx_nx_mk, hx_kd_mk, hx_ln_mk, hx_I_mk, hx_L_mk, hx_R_mk, am_wp, am_stp, am_en, am_as, am_pad, am_nth, am_set, am_st1, am_st2, am_kl, am_kill, am_mem, am_fv, am_tk, am_wt, am_bk, Option.toList, List.cons_append, List.nil_append, Nat.reduceAdd, Nat.reduceEqDiff, Nat.reduceLeDiff, reduceIte, Nat.reduceLT, or_self, true_or, or_true, if_true, if_false, and_self, and_true, true_and, not_false_eq_true, not_true_eq_false, this]
    rw [eI]
  · exact eL
theorem nI_sub {a b : Nat} (h : b ≤ a) : nI a - nI b = nI (a - b) := by
  obtain ⟨c, rfl⟩ : ∃ c, a = c + b := ⟨a - b, by omega⟩
  rw [Nat.add_sub_cancel, ← nI_add]
  exact Int32.add_sub_cancel _ _
theorem mx_0 {a : Nat} (ha : a < 2 ^ 31) : am_mx 0 (nI a) = nI a := by
  unfold am_mx
  by_cases e : a = 0
  · subst e; decide
  · rw [if_pos (nI_gt0 (by omega) ha)]
/-- the first c go -/
def df_Q (h h' : am_H) (n c : Nat) : Prop := am_fx [8, 9] h h' ∧ am_I h' 8 1 = nI (n - c) ∧ am_R h' 8 = am_R h 8 ∧ am_R h' 9 = (fun j => if j < n - c then am_R h 9 (j + c) else am_R h 9 j) ∧ am_I h' 9 = am_I h 9 ∧ am_L h' = am_L h
theorem l2_drop_loop {d n c : Nat} {h : am_H} {Q : am_O → am_H → Prop} (k8 : am_kd h 8 = 6) (r8 : am_R h 8 0 = 9) (k9 : am_kd h 9 = 200) (n9 : am_ln h 9 = 9) (hn : n ≤ 9) (hc : c ≤ n) (hk : ∀ i, i < n → am_kd h (am_R h 9 i) = 5) (hx : ∀ g, am_fx [9] h g → am_I g = am_I h → am_L g = am_L h → am_R g 9 = (fun j => if j < n - c then am_R h 9 (j + c) else am_R h 9 j) → am_Ex nm_pr d mt_RunList_dropFirst (42, [.ref 8, .int (nI c), .int (nI (n - c)), .int (nI (n - c))], [], g) Q) : ∀ (m i : Nat) (g : am_H), m + i = n - c → am_fx [9] h g → am_I g = am_I h → am_L g = am_L h → am_R g 9 = (fun j => if j < i then am_R h 9 (j + c) else am_R h 9 j) →
    am_Ex nm_pr d mt_RunList_dropFirst (9, [.ref 8, .int (nI c), .int (nI (n - c)), .int (nI i)], [], g) Q
  | 0, i, g, hm, F, eI, eL, eR => by
    have e : i = n - c := by omega
    subst e
    have l1 : ¬ nI (n - c) < nI (n - c) := nI_nlt (Nat.le_refl _) (by omega)
    refine am_go [14, 42] 3 ?_
    simp only [am_wp, am_stp, am_en, am_as, am_pad, am_nth, am_set, am_st1, am_st2, am_kl, am_kill, am_mem, am_fv, am_tk, am_wt, am_bk, Option.toList, List.cons_append, List.nil_append, Nat.reduceAdd, Nat.reduceEqDiff, Nat.reduceLeDiff, reduceIte, Nat.reduceLT, or_self, true_or, or_true, if_true, if_false, and_self, and_true, true_and, not_false_eq_true, not_true_eq_false, fd_RunList_dropFirst_9, fd_RunList_dropFirst_10, fd_RunList_dropFirst_11, l1]
    exact hx g F eI eL eR
  | m + 1, i, g, hm, F, eI, eL, eR => by
    have g8 : am_kd g 8 = 6 := by rw [F.2.2.2.1]; exact k8
    have gr : am_R g 8 0 = 9 := by rw [F.2.2.2.2.2.2.2 8 (by simp)]; exact r8
    have g9 : am_kd g 9 = 200 := by rw [F.2.2.2.1]; exact k9
    have gn : am_ln g 9 = 9 := by rw [F.2.2.2.2.1]; exact n9
    have n1 : (200 ≤ 200 ∧ 200 < 204) := by decide
    have l1 : nI i < nI (n - c) := nI_lt (by omega) (by omega)
    have l2 : nI (i + c) < 9 := nI_lt (b := 9) (by omega) (by decide)
    have i1 := am_inb (c := i + c) (N := 9) (by omega) (by omega)
    have q1 : (nI (i + c)).toNatClampNeg = i + c := nI_clamp (by omega)
    have i2 := am_inb (c := i) (N := 9) (by omega) (by omega)
    have q2 : (nI i).toNatClampNeg = i := nI_clamp (by omega)
    have vr : am_R g 9 (i + c) = am_R h 9 (i + c) := by rw [eR]; dsimp only; rw [if_neg (by omega)]
    have kv : am_kd g (am_R h 9 (i + c)) = 5 := by rw [F.2.2.2.1]; exact hk _ (by omega)
    refine am_go [14, 42] 3 ?_
    simp only [am_wp, am_stp, am_en, am_as, am_pad, am_nth, am_set, am_st1, am_st2, am_kl, am_kill, am_mem, am_fv, am_tk, am_wt, am_bk, Option.toList, List.cons_append, List.nil_append, Nat.reduceAdd, Nat.reduceEqDiff, Nat.reduceLeDiff, reduceIte, Nat.reduceLT, or_self, true_or, or_true, if_true, if_false, and_self, and_true, true_and, not_false_eq_true, not_true_eq_false, fd_RunList_dropFirst_9, fd_RunList_dropFirst_10, fd_RunList_dropFirst_11, l1]
    refine am_go [22, 42] 5 ?_
    simp only [am_wp, am_stp, am_en, am_as, am_pad, am_nth, am_set, am_st1, am_st2, am_kl, am_kill, am_mem, am_fv, am_tk, am_wt, am_bk, Option.toList, List.cons_append, List.nil_append, Nat.reduceAdd, Nat.reduceEqDiff, Nat.reduceLeDiff, reduceIte, Nat.reduceLT, or_self, true_or, or_true, if_true, if_false, and_self, and_true, true_and, not_false_eq_true, not_true_eq_false, fd_RunList_dropFirst_14, fd_RunList_dropFirst_15, fd_RunList_dropFirst_16, fd_RunList_dropFirst_17, fd_RunList_dropFirst_19, nI_add, l2]
    refine am_go [] 9 ?_
    simp only [am_wp, am_stp, am_en, am_as, am_pad, am_nth, am_set, am_st1, am_st2, am_kl, am_kill, am_mem, am_fv, am_tk, am_wt, am_bk, Option.toList, List.cons_append, List.nil_append, Nat.reduceAdd, Nat.reduceEqDiff, Nat.reduceLeDiff, reduceIte, Nat.reduceLT, or_self, true_or, or_true, if_true, if_false, and_self, and_true, true_and, not_false_eq_true, not_true_eq_false, fd_RunList_dropFirst_22, fd_RunList_dropFirst_23, fd_RunList_dropFirst_26, fd_RunList_dropFirst_27, fd_RunList_dropFirst_28, fd_RunList_dropFirst_31, fd_RunList_dropFirst_32, fd_RunList_dropFirst_33, fd_RunList_dropFirst_34, g8, gr, g9, gn, n1, nI_add, i1, q1, vr]
    refine am_go [9] 3 ?_
    simp only [am_wp, am_stp, am_en, am_as, am_pad, am_nth, am_set, am_st1, am_st2, am_kl, am_kill, am_mem, am_fv, am_tk, am_wt, am_bk, Option.toList, List.cons_append, List.nil_append, Nat.reduceAdd, Nat.reduceEqDiff, Nat.reduceLeDiff, reduceIte, Nat.reduceLT, or_self, true_or, or_true, if_true, if_false, and_self, and_true, true_and, not_false_eq_true, not_true_eq_false, fd_RunList_dropFirst_35, fd_RunList_dropFirst_36, fd_RunList_dropFirst_39, g9, gn, kv, i2, q2, nI_1]
    refine l2_drop_loop k8 r8 k9 n9 hn hc hk hx m (i + 1) _ (by omega) (F.sR (by simp)) eI eL ?_
    funext j
    simp only [hx_nx_sI, hx_ce_sI, hx_sl_sI, hx_kd_sI, hx_ln_sI, hx_I_sI, hx_L_sI, hx_R_sI, hx_nx_sL, hx_ce_sL, hx_sl_sL, hx_kd_sL, hx_ln_sL, hx_I_sL, hx_L_sL, hx_R_sL, hx_nx_sR, hx_ce_sR, hx_sl_sR, hx_kd_sR, hx_ln_sR, hx_I_sR, hx_L_sR, hx_R_sR, hx_nx_al, hx_ce_al, hx_sl_al, hx_kd_al, hx_ln_al, hx_I_al, hx_L_al, hx_R_al, hx_nx_row, hx_ce_row, hx_sl_row, hx_kd_row, hx_ln_row, hx_I_row, hx_L_row, hx_R_row, hx_nx_mk, hx_kd_mk, hx_ln_mk, hx_I_mk, hx_L_mk, hx_R_mk, am_wp, am_stp, am_en, am_as, am_pad, am_nth, am_set, am_st1, am_st2, am_kl, am_kill, am_mem, am_fv, am_tk, am_wt, am_bk, Option.toList, List.cons_append, List.nil_append, Nat.reduceAdd, Nat.reduceEqDiff, Nat.reduceLeDiff, reduceIte, Nat.reduceLT, or_self, true_or, or_true, if_true, if_false, and_self, and_true, true_and, not_false_eq_true, not_true_eq_false]
    rw [eR]
    dsimp only
    by_cases e : j = i
    · subst e; rw [if_pos rfl, if_pos (by omega)]
    · rw [if_neg e]
      by_cases e2 : j < i
      · rw [if_pos e2, if_pos (by omega)]
      · rw [if_neg e2, if_neg (by omega)]
theorem l2_dropFirst {d n c : Nat} {h : am_H} (k8 : am_kd h 8 = 6) (r8 : am_R h 8 0 = 9) (k9 : am_kd h 9 = 200) (n9 : am_ln h 9 = 9) (i8 : am_I h 8 1 = nI n) (hn : n ≤ 9) (hc : c ≤ n) (hk : ∀ i, i < n → am_kd h (am_R h 9 i) = 5) : am_Rt nm_pr (d + 1) mi_RunList_dropFirst [.ref 8, .int (nI c)] h (fun o h' => o = .inl none ∧ df_Q h h' n c) := by
  refine am_in' mt_RunList_dropFirst 4 rfl rfl rfl ?_
  refine am_go [9] 7 ?_
  simp only [am_wp, am_stp, am_en, am_as, am_pad, am_nth, am_set, am_st1, am_st2, am_kl, am_kill, am_mem, am_fv, am_tk, am_wt, am_bk, Option.toList, List.cons_append, List.nil_append, Nat.reduceAdd, Nat.reduceEqDiff, Nat.reduceLeDiff, reduceIte, Nat.reduceLT, or_self, true_or, or_true, if_true, if_false, and_self, and_true, true_and, not_false_eq_true, not_true_eq_false, fd_RunList_dropFirst_0, fd_RunList_dropFirst_1, fd_RunList_dropFirst_4, fd_RunList_dropFirst_5, fd_RunList_dropFirst_6, fd_RunList_dropFirst_7, fd_RunList_dropFirst_8, k8, i8, nI_sub hc]
  refine l2_drop_loop k8 r8 k9 n9 hn hc hk (fun g F eI eL eR => ?_) (n - c) 0 h (by omega) am_fx.refl rfl rfl (by funext j; rw [if_neg (by omega)])
  have g8 : am_kd g 8 = 6 := by rw [F.2.2.2.1]; exact k8
  refine am_go [] 6 ?_
  simp only [am_wp, am_stp, am_en, am_as, am_pad, am_nth, am_set, am_st1, am_st2, am_kl, am_kill, am_mem, am_fv, am_tk, am_wt, am_bk, Option.toList, List.cons_append, List.nil_append, Nat.reduceAdd, Nat.reduceEqDiff, Nat.reduceLeDiff, reduceIte, Nat.reduceLT, or_self, true_or, or_true, if_true, if_false, and_self, and_true, true_and, not_false_eq_true, not_true_eq_false, fd_RunList_dropFirst_42, fd_RunList_dropFirst_43, fd_RunList_dropFirst_44, fd_RunList_dropFirst_45, fd_RunList_dropFirst_48, fd_RunList_dropFirst_51, g8, mx_0 (show n - c < 2 ^ 31 by omega)]
  refine ⟨(F.sub (by simp)).sI (by simp), ?_, ?_, ?_, ?_, eL⟩
  · simp only [hx_nx_sI, hx_ce_sI, hx_sl_sI, hx_kd_sI, hx_ln_sI, hx_I_sI, hx_L_sI, hx_R_sI, hx_nx_sL, hx_ce_sL, hx_sl_sL, hx_kd_sL, hx_ln_sL, hx_I_sL, hx_L_sL, hx_R_sL, hx_nx_sR, hx_ce_sR, hx_sl_sR, hx_kd_sR, hx_ln_sR, hx_I_sR, hx_L_sR, hx_R_sR, hx_nx_al, hx_ce_al, hx_sl_al, hx_kd_al, hx_ln_al, hx_I_al, hx_L_al, hx_R_al, hx_nx_row, hx_ce_row, hx_sl_row, hx_kd_row, hx_ln_row, hx_I_row, hx_L_row, hx_R_row, hx_nx_mk, hx_kd_mk, hx_ln_mk, hx_I_mk, hx_L_mk, hx_R_mk, am_wp, am_stp, am_en, am_as, am_pad, am_nth, am_set, am_st1, am_st2, am_kl, am_kill, am_mem, am_fv, am_tk, am_wt, am_bk, Option.toList, List.cons_append, List.nil_append, Nat.reduceAdd, Nat.reduceEqDiff, Nat.reduceLeDiff, reduceIte, Nat.reduceLT, or_self, true_or, or_true, if_true, if_false, and_self, and_true, true_and, not_false_eq_true, not_true_eq_false]
  · funext j; simp only [hx_nx_sI, hx_ce_sI, hx_sl_sI, hx_kd_sI, hx_ln_sI, hx_I_sI, hx_L_sI, hx_R_sI, hx_nx_sL, hx_ce_sL, hx_sl_sL, hx_kd_sL, hx_ln_sL, hx_I_sL, hx_L_sL, hx_R_sL, hx_nx_sR, hx_ce_sR, hx_sl_sR, hx_kd_sR, hx_ln_sR, hx_I_sR, hx_L_sR, hx_R_sR, hx_nx_al, hx_ce_al, hx_sl_al, hx_kd_al, hx_ln_al, hx_I_al, hx_L_al, hx_R_al, hx_nx_row, hx_ce_row, hx_sl_row, hx_kd_row, hx_ln_row, hx_I_row, hx_L_row, hx_R_row, hx_nx_mk, hx_kd_mk, hx_ln_mk, hx_I_mk, hx_L_mk, hx_R_mk, am_wp, am_stp, am_en, am_as, am_pad, am_nth, am_set, am_st1, am_st2, am_kl, am_kill, am_mem, am_fv, am_tk, am_wt, am_bk, Option.toList, List.cons_append, List.nil_append, Nat.reduceAdd, Nat.reduceEqDiff, Nat.reduceLeDiff, reduceIte, Nat.reduceLT, or_self, true_or, or_true, if_true, if_false, and_self, and_true, true_and, not_false_eq_true, not_true_eq_false]; exact congrFun (F.2.2.2.2.2.2.2 8 (by simp)) j
  · funext j; simp only [hx_nx_sI, hx_ce_sI, hx_sl_sI, hx_kd_sI, hx_ln_sI, hx_I_sI, hx_L_sI, hx_R_sI, hx_nx_sL, hx_ce_sL, hx_sl_sL, hx_kd_sL, hx_ln_sL, hx_I_sL, hx_L_sL, hx_R_sL, hx_nx_sR, hx_ce_sR, hx_sl_sR, hx_kd_sR, hx_ln_sR, hx_I_sR, hx_L_sR, hx_R_sR, hx_nx_al, hx_ce_al, hx_sl_al, hx_kd_al, hx_ln_al, hx_I_al, hx_L_al, hx_R_al, hx_nx_row, hx_ce_row, hx_sl_row, hx_kd_row, hx_ln_row, hx_I_row, hx_L_row, hx_R_row, hx_nx_mk, hx_kd_mk, hx_ln_mk, hx_I_mk, hx_L_mk, hx_R_mk, am_wp, am_stp, am_en, am_as, am_pad, am_nth, am_set, am_st1, am_st2, am_kl, am_kill, am_mem, am_fv, am_tk, am_wt, am_bk, Option.toList, List.cons_append, List.nil_append, Nat.reduceAdd, Nat.reduceEqDiff, Nat.reduceLeDiff, reduceIte, Nat.reduceLT, or_self, true_or, or_true, if_true, if_false, and_self, and_true, true_and, not_false_eq_true, not_true_eq_false]; rw [eR]
  · funext j; simp only [hx_nx_sI, hx_ce_sI, hx_sl_sI, hx_kd_sI, hx_ln_sI, hx_I_sI, hx_L_sI, hx_R_sI, hx_nx_sL, hx_ce_sL, hx_sl_sL, hx_kd_sL, hx_ln_sL, hx_I_sL, hx_L_sL, hx_R_sL, hx_nx_sR, hx_ce_sR, hx_sl_sR, hx_kd_sR, hx_ln_sR, hx_I_sR, hx_L_sR, hx_R_sR, hx_nx_al, hx_ce_al, hx_sl_al, hx_kd_al, hx_ln_al, hx_I_al, hx_L_al, hx_R_al, hx_nx_row, hx_ce_row, hx_sl_row, hx_kd_row, hx_ln_row, hx_I_row, hx_L_row, hx_R_row, hx_nx_mk, hx_kd_mk, hx_ln_mk, hx_I_mk, hx_L_mk, hx_R_mk, am_wp, am_stp, am_en, am_as, am_pad, am_nth, am_set, am_st1, am_st2, am_kl, am_kill, am_mem, am_fv, am_tk, am_wt, am_bk, Option.toList, List.cons_append, List.nil_append, Nat.reduceAdd, Nat.reduceEqDiff, Nat.reduceLeDiff, reduceIte, Nat.reduceLT, or_self, true_or, or_true, if_true, if_false, and_self, and_true, true_and, not_false_eq_true, not_true_eq_false]; rw [eI]
/-! THE HEAD IS WRITTEN: a frame -/
def hd_F (h g : am_H) (u : Nat) : Prop := am_fi [14, 15] h g ∧ am_I g 14 1 = nI u
theorem l2_hd1 {d u : Nat} {x : Int32} {h g : am_H} (hS : cl_Sh h) (A : hd_F h g u) (hu : u < 120) : am_Rt nm_pr (d + 1) mi_Sheet_one [.ref 14, .int x] g (fun o g' => o = .inl none ∧ hd_F h g' (u + 1)) := by
  refine am_call (l2_one (hS.fi A.1) A.2 hu) (fun o g' q => ?_)
  obtain ⟨rfl, rfl⟩ := q
  exact ⟨rfl, (A.1.sI (by simp)).sI (by simp), by simp only [hx_nx_sI, hx_ce_sI, hx_sl_sI, hx_kd_sI, hx_ln_sI, hx_I_sI, hx_L_sI, hx_R_sI, hx_nx_sL, hx_ce_sL, hx_sl_sL, hx_kd_sL, hx_ln_sL, hx_I_sL, hx_L_sL, hx_R_sL, hx_nx_sR, hx_ce_sR, hx_sl_sR, hx_kd_sR, hx_ln_sR, hx_I_sR, hx_L_sR, hx_R_sR, hx_nx_al, hx_ce_al, hx_sl_al, hx_kd_al, hx_ln_al, hx_I_al, hx_L_al, hx_R_al, hx_nx_row, hx_ce_row, hx_sl_row, hx_kd_row, hx_ln_row, hx_I_row, hx_L_row, hx_R_row, hx_nx_mk, hx_kd_mk, hx_ln_mk, hx_I_mk, hx_L_mk, hx_R_mk, am_wp, am_stp, am_en, am_as, am_pad, am_nth, am_set, am_st1, am_st2, am_kl, am_kill, am_mem, am_fv, am_tk, am_wt, am_bk, Option.toList, List.cons_append, List.nil_append, Nat.reduceAdd, Nat.reduceEqDiff, Nat.reduceLeDiff, reduceIte, Nat.reduceLT, or_self, true_or, or_true, if_true, if_false, and_self, and_true, true_and, not_false_eq_true, not_true_eq_false]⟩
theorem l2_hd2 {d u : Nat} {x : Int32} {h g : am_H} (hS : cl_Sh h) (A : hd_F h g u) (hu : u + 1 < 120) : am_Rt nm_pr (d + 2) mi_Sheet_two [.ref 14, .int x] g (fun o g' => o = .inl none ∧ hd_F h g' (u + 2)) := by
  refine am_call (l2_two (hS.fi A.1) A.2 hu) (fun o g' q => ?_)
  obtain ⟨rfl, rfl⟩ := q
  exact ⟨rfl, (((A.1.sI (by simp)).sI (by simp)).sI (by simp)).sI (by simp), by simp only [hx_nx_sI, hx_ce_sI, hx_sl_sI, hx_kd_sI, hx_ln_sI, hx_I_sI, hx_L_sI, hx_R_sI, hx_nx_sL, hx_ce_sL, hx_sl_sL, hx_kd_sL, hx_ln_sL, hx_I_sL, hx_L_sL, hx_R_sL, hx_nx_sR, hx_ce_sR, hx_sl_sR, hx_kd_sR, hx_ln_sR, hx_I_sR, hx_L_sR, hx_R_sR, hx_nx_al, hx_ce_al, hx_sl_al, hx_kd_al, hx_ln_al, hx_I_al, hx_L_al, hx_R_al, hx_nx_row, hx_ce_row, hx_sl_row, hx_kd_row, hx_ln_row, hx_I_row, hx_L_row, hx_R_row, hx_nx_mk, hx_kd_mk, hx_ln_mk, hx_I_mk, hx_L_mk, hx_R_mk, am_wp, am_stp, am_en, am_as, am_pad, am_nth, am_set, am_st1, am_st2, am_kl, am_kill, am_mem, am_fv, am_tk, am_wt, am_bk, Option.toList, List.cons_append, List.nil_append, Nat.reduceAdd, Nat.reduceEqDiff, Nat.reduceLeDiff, reduceIte, Nat.reduceLT, or_self, true_or, or_true, if_true, if_false, and_self, and_true, true_and, not_false_eq_true, not_true_eq_false]⟩
theorem l2_fillHead_loop {d n : Nat} {y : Int32} {h : am_H} (k2 : am_kd h 2 = 1) (r8 : am_R h 2 8 = 14) (r3 : am_R h 2 3 = 8) (k8 : am_kd h 8 = 6) (q8 : am_R h 8 0 = 9) (k9 : am_kd h 9 = 200) (n9 : am_ln h 9 = 9) (hS : cl_Sh h) (i8 : am_I h 8 1 = nI n) (hn : n ≤ 9) (hk : ∀ i, i < n → am_kd h (am_R h 9 i) = 5) : ∀ (m i : Nat) (w : Value) (g : am_H), m + i = n → hd_F h g (7 + 7 * i) →
    am_Ex nm_pr (d + 2) mt_SR_fillHead (53, [.ref 2, .int y, .int (nI i), w], [], g) (fun o h' => o = .inl none ∧ am_fi [14, 15] h h')
  | 0, i, w, g, hm, A => by
    have e : i = n := by omega
    subst e
    have g2 : am_kd g 2 = 1 := by rw [A.1.2.2.2.1]; exact k2
    have gr3 : am_R g 2 3 = 8 := by rw [A.1.2.2.2.2.2.1]; exact r3
    have g8 : am_kd g 8 = 6 := by rw [A.1.2.2.2.1]; exact k8
    have gi : am_I g 8 1 = nI i := by rw [A.1.2.2.2.2.2.2.1 8 (by simp)]; exact i8
    have l1 : ¬ nI i < nI i := nI_nlt (Nat.le_refl _) (by omega)
    refine am_go [64] 7 ?_
    simp only [am_wp, am_stp, am_en, am_as, am_pad, am_nth, am_set, am_st1, am_st2, am_kl, am_kill, am_mem, am_fv, am_tk, am_wt, am_bk, Option.toList, List.cons_append, List.nil_append, Nat.reduceAdd, Nat.reduceEqDiff, Nat.reduceLeDiff, reduceIte, Nat.reduceLT, or_self, true_or, or_true, if_true, if_false, and_self, and_true, true_and, not_false_eq_true, not_true_eq_false, fd_SR_fillHead_53, fd_SR_fillHead_54, fd_SR_fillHead_55, fd_SR_fillHead_58, fd_SR_fillHead_61, fd_SR_fillHead_130, g2, gr3, g8, gi, l1]
    exact A.1
  | m + 1, i, w, g, hm, A => by
    have K : ∀ {g : am_H} {u : Nat}, hd_F h g u → am_kd g 2 = 1 ∧ am_R g 2 8 = 14 ∧ am_kd g 14 = 8 ∧ am_kd g (am_R h 9 i) = 5 := fun A => ⟨by rw [A.1.2.2.2.1]; exact k2, by rw [A.1.2.2.2.2.2.1]; exact r8, by rw [A.1.2.2.2.1]; exact hS.1, by rw [A.1.2.2.2.1]; exact hk i (by omega)⟩
    obtain ⟨g2, gr8, g14, gv⟩ := K A
    have gr3 : am_R g 2 3 = 8 := by rw [A.1.2.2.2.2.2.1]; exact r3
    have g8 : am_kd g 8 = 6 := by rw [A.1.2.2.2.1]; exact k8
    have gq : am_R g 8 0 = 9 := by rw [A.1.2.2.2.2.2.1]; exact q8
    have g9 : am_kd g 9 = 200 := by rw [A.1.2.2.2.1]; exact k9
    have gn : am_ln g 9 = 9 := by rw [A.1.2.2.2.2.1]; exact n9
    have gi : am_I g 8 1 = nI n := by rw [A.1.2.2.2.2.2.2.1 8 (by simp)]; exact i8
    have vr : am_R g 9 i = am_R h 9 i := by rw [A.1.2.2.2.2.2.1]
    have l1 : nI i < nI n := nI_lt (by omega) (by omega)
    have l9 : nI i < 9 := nI_lt (b := 9) (by omega) (by decide)
    have n1 : (200 ≤ 200 ∧ 200 < 204) := by decide
    have i1 := am_inb (c := i) (N := 9) (by omega) (by omega)
    have q1 : (nI i).toNatClampNeg = i := nI_clamp (by omega)
    refine am_go [64, 130] 5 ?_
    simp only [am_wp, am_stp, am_en, am_as, am_pad, am_nth, am_set, am_st1, am_st2, am_kl, am_kill, am_mem, am_fv, am_tk, am_wt, am_bk, Option.toList, List.cons_append, List.nil_append, Nat.reduceAdd, Nat.reduceEqDiff, Nat.reduceLeDiff, reduceIte, Nat.reduceLT, or_self, true_or, or_true, if_true, if_false, and_self, and_true, true_and, not_false_eq_true, not_true_eq_false, fd_SR_fillHead_53, fd_SR_fillHead_54, fd_SR_fillHead_55, fd_SR_fillHead_58, fd_SR_fillHead_61, g2, gr3, g8, gi, l1]
    refine am_go [70, 130] 3 ?_
    simp only [am_wp, am_stp, am_en, am_as, am_pad, am_nth, am_set, am_st1, am_st2, am_kl, am_kill, am_mem, am_fv, am_tk, am_wt, am_bk, Option.toList, List.cons_append, List.nil_append, Nat.reduceAdd, Nat.reduceEqDiff, Nat.reduceLeDiff, reduceIte, Nat.reduceLT, or_self, true_or, or_true, if_true, if_false, and_self, and_true, true_and, not_false_eq_true, not_true_eq_false, fd_SR_fillHead_64, fd_SR_fillHead_65, fd_SR_fillHead_67, l9]
    refine am_go [] 6 ?_
    simp only [am_wp, am_stp, am_en, am_as, am_pad, am_nth, am_set, am_st1, am_st2, am_kl, am_kill, am_mem, am_fv, am_tk, am_wt, am_bk, Option.toList, List.cons_append, List.nil_append, Nat.reduceAdd, Nat.reduceEqDiff, Nat.reduceLeDiff, reduceIte, Nat.reduceLT, or_self, true_or, or_true, if_true, if_false, and_self, and_true, true_and, not_false_eq_true, not_true_eq_false, fd_SR_fillHead_70, fd_SR_fillHead_71, fd_SR_fillHead_74, fd_SR_fillHead_77, fd_SR_fillHead_78, fd_SR_fillHead_79, g2, gr3, g8, gq, g9, gn, n1, i1, q1, vr]
    refine am_go [] 5 ?_
    simp only [am_wp, am_stp, am_en, am_as, am_pad, am_nth, am_set, am_st1, am_st2, am_kl, am_kill, am_mem, am_fv, am_tk, am_wt, am_bk, Option.toList, List.cons_append, List.nil_append, Nat.reduceAdd, Nat.reduceEqDiff, Nat.reduceLeDiff, reduceIte, Nat.reduceLT, or_self, true_or, or_true, if_true, if_false, and_self, and_true, true_and, not_false_eq_true, not_true_eq_false, fd_SR_fillHead_80, fd_SR_fillHead_81, fd_SR_fillHead_84, fd_SR_fillHead_85, fd_SR_fillHead_88, g2, gr8, g14, gv]
    refine am_call (l2_hd2 (d := d) hS A (by omega)) (fun o ga z => ?_)
    obtain ⟨rfl, A1⟩ := z
    obtain ⟨a2, a8, a14, av⟩ := K A1
    simp only [am_wp, am_stp, am_en, am_as, am_pad, am_nth, am_set, am_st1, am_st2, am_kl, am_kill, am_mem, am_fv, am_tk, am_wt, am_bk, Option.toList, List.cons_append, List.nil_append, Nat.reduceAdd, Nat.reduceEqDiff, Nat.reduceLeDiff, reduceIte, Nat.reduceLT, or_self, true_or, or_true, if_true, if_false, and_self, and_true, true_and, not_false_eq_true, not_true_eq_false]
    refine am_go [] 5 ?_
    simp only [am_wp, am_stp, am_en, am_as, am_pad, am_nth, am_set, am_st1, am_st2, am_kl, am_kill, am_mem, am_fv, am_tk, am_wt, am_bk, Option.toList, List.cons_append, List.nil_append, Nat.reduceAdd, Nat.reduceEqDiff, Nat.reduceLeDiff, reduceIte, Nat.reduceLT, or_self, true_or, or_true, if_true, if_false, and_self, and_true, true_and, not_false_eq_true, not_true_eq_false, fd_SR_fillHead_91, fd_SR_fillHead_92, fd_SR_fillHead_95, fd_SR_fillHead_96, fd_SR_fillHead_99, a2, a8, a14, av]
    refine am_call (l2_hd1 (d := d + 1) hS A1 (by omega)) (fun o gb z => ?_)
    obtain ⟨rfl, A2⟩ := z
    obtain ⟨b2, b8, b14, bv⟩ := K A2
    simp only [am_wp, am_stp, am_en, am_as, am_pad, am_nth, am_set, am_st1, am_st2, am_kl, am_kill, am_mem, am_fv, am_tk, am_wt, am_bk, Option.toList, List.cons_append, List.nil_append, Nat.reduceAdd, Nat.reduceEqDiff, Nat.reduceLeDiff, reduceIte, Nat.reduceLT, or_self, true_or, or_true, if_true, if_false, and_self, and_true, true_and, not_false_eq_true, not_true_eq_false]
    refine am_go [] 5 ?_
    simp only [am_wp, am_stp, am_en, am_as, am_pad, am_nth, am_set, am_st1, am_st2, am_kl, am_kill, am_mem, am_fv, am_tk, am_wt, am_bk, Option.toList, List.cons_append, List.nil_append, Nat.reduceAdd, Nat.reduceEqDiff, Nat.reduceLeDiff, reduceIte, Nat.reduceLT, or_self, true_or, or_true, if_true, if_false, and_self, and_true, true_and, not_false_eq_true, not_true_eq_false, fd_SR_fillHead_102, fd_SR_fillHead_103, fd_SR_fillHead_106, fd_SR_fillHead_107, fd_SR_fillHead_110, b2, b8, b14, bv]
    refine am_call (l2_hd2 (d := d) hS A2 (by omega)) (fun o gc z => ?_)
    obtain ⟨rfl, A3⟩ := z
    obtain ⟨c2, c8, c14, cv⟩ := K A3
    simp only [am_wp, am_stp, am_en, am_as, am_pad, am_nth, am_set, am_st1, am_st2, am_kl, am_kill, am_mem, am_fv, am_tk, am_wt, am_bk, Option.toList, List.cons_append, List.nil_append, Nat.reduceAdd, Nat.reduceEqDiff, Nat.reduceLeDiff, reduceIte, Nat.reduceLT, or_self, true_or, or_true, if_true, if_false, and_self, and_true, true_and, not_false_eq_true, not_true_eq_false]
    refine am_go [] 5 ?_
    simp only [am_wp, am_stp, am_en, am_as, am_pad, am_nth, am_set, am_st1, am_st2, am_kl, am_kill, am_mem, am_fv, am_tk, am_wt, am_bk, Option.toList, List.cons_append, List.nil_append, Nat.reduceAdd, Nat.reduceEqDiff, Nat.reduceLeDiff, reduceIte, Nat.reduceLT, or_self, true_or, or_true, if_true, if_false, and_self, and_true, true_and, not_false_eq_true, not_true_eq_false, fd_SR_fillHead_113, fd_SR_fillHead_114, fd_SR_fillHead_117, fd_SR_fillHead_118, fd_SR_fillHead_121, c2, c8, c14, cv]
    refine am_call (l2_hd2 (d := d) hS A3 (by omega)) (fun o ge z => ?_)
    obtain ⟨rfl, A4⟩ := z
    simp only [am_wp, am_stp, am_en, am_as, am_pad, am_nth, am_set, am_st1, am_st2, am_kl, am_kill, am_mem, am_fv, am_tk, am_wt, am_bk, Option.toList, List.cons_append, List.nil_append, Nat.reduceAdd, Nat.reduceEqDiff, Nat.reduceLeDiff, reduceIte, Nat.reduceLT, or_self, true_or, or_true, if_true, if_false, and_self, and_true, true_and, not_false_eq_true, not_true_eq_false]
    refine am_go [53] 2 ?_
    simp only [am_wp, am_stp, am_en, am_as, am_pad, am_nth, am_set, am_st1, am_st2, am_kl, am_kill, am_mem, am_fv, am_tk, am_wt, am_bk, Option.toList, List.cons_append, List.nil_append, Nat.reduceAdd, Nat.reduceEqDiff, Nat.reduceLeDiff, reduceIte, Nat.reduceLT, or_self, true_or, or_true, if_true, if_false, and_self, and_true, true_and, not_false_eq_true, not_true_eq_false, fd_SR_fillHead_124, fd_SR_fillHead_127, nI_1]
    refine l2_fillHead_loop k2 r8 r3 k8 q8 k9 n9 hS i8 hn hk m (i + 1) _ ge (by omega) ?_
    rw [show 7 + 7 * (i + 1) = 7 + 7 * i + 2 + 1 + 2 + 2 by omega]
    exact A4
theorem l2_fillHead {d P n : Nat} {y : Int32} {h : am_H} (hK : sk_K P h) (i8 : am_I h 8 1 = nI n) (hn : n ≤ 9) (hk : ∀ i, i < n → am_kd h (am_R h 9 i) = 5) : am_Rt nm_pr (d + 3) mi_SR_fillHead [.ref 2, .int y] h (fun o h' => o = .inl none ∧ am_fi [14, 15] h h') := by
  obtain ⟨⟨k2, r0, r1, rr2, r3, r5, r8⟩, S0, P0, Sp0, B0, ⟨k8, r8', k9, n9⟩, i185, i215⟩ := id hK
  have K : ∀ {g : am_H} {u : Nat}, hd_F h g u → am_kd g 2 = 1 ∧ am_R g 2 8 = 14 ∧ am_kd g 14 = 8 := fun A => ⟨by rw [A.1.2.2.2.1]; exact k2, by rw [A.1.2.2.2.2.2.1]; exact r8, by rw [A.1.2.2.2.1]; exact S0.1⟩
  refine am_in' (d := d + 2) mt_SR_fillHead 4 rfl rfl rfl ?_
  refine am_go [] 3 ?_
  simp only [am_wp, am_stp, am_en, am_as, am_pad, am_nth, am_set, am_st1, am_st2, am_kl, am_kill, am_mem, am_fv, am_tk, am_wt, am_bk, Option.toList, List.cons_append, List.nil_append, Nat.reduceAdd, Nat.reduceEqDiff, Nat.reduceLeDiff, reduceIte, Nat.reduceLT, or_self, true_or, or_true, if_true, if_false, and_self, and_true, true_and, not_false_eq_true, not_true_eq_false, fd_SR_fillHead_0, fd_SR_fillHead_1, fd_SR_fillHead_4, k2, r8, S0.1]
  refine am_call (l2_clear (d := d + 1) S0) (fun o g z => ?_)
  obtain ⟨rfl, F, a1, a2, a3⟩ := z
  have A : hd_F h g 0 := ⟨F, by rw [a2]; rfl⟩
  obtain ⟨b2, b8, b14⟩ := K A
  simp only [am_wp, am_stp, am_en, am_as, am_pad, am_nth, am_set, am_st1, am_st2, am_kl, am_kill, am_mem, am_fv, am_tk, am_wt, am_bk, Option.toList, List.cons_append, List.nil_append, Nat.reduceAdd, Nat.reduceEqDiff, Nat.reduceLeDiff, reduceIte, Nat.reduceLT, or_self, true_or, or_true, if_true, if_false, and_self, and_true, true_and, not_false_eq_true, not_true_eq_false]
  refine am_go [] 6 ?_
  simp only [am_wp, am_stp, am_en, am_as, am_pad, am_nth, am_set, am_st1, am_st2, am_kl, am_kill, am_mem, am_fv, am_tk, am_wt, am_bk, Option.toList, List.cons_append, List.nil_append, Nat.reduceAdd, Nat.reduceEqDiff, Nat.reduceLeDiff, reduceIte, Nat.reduceLT, or_self, true_or, or_true, if_true, if_false, and_self, and_true, true_and, not_false_eq_true, not_true_eq_false, fd_SR_fillHead_7, fd_SR_fillHead_8, fd_SR_fillHead_11, fd_SR_fillHead_12, fd_SR_fillHead_14, fd_SR_fillHead_15, b2, b8, b14]
  refine am_call (l2_hd2 (d := d) S0 A (by omega)) (fun o g1 z => ?_)
  obtain ⟨rfl, A1⟩ := z
  obtain ⟨c2, c8, c14⟩ := K A1
  simp only [am_wp, am_stp, am_en, am_as, am_pad, am_nth, am_set, am_st1, am_st2, am_kl, am_kill, am_mem, am_fv, am_tk, am_wt, am_bk, Option.toList, List.cons_append, List.nil_append, Nat.reduceAdd, Nat.reduceEqDiff, Nat.reduceLeDiff, reduceIte, Nat.reduceLT, or_self, true_or, or_true, if_true, if_false, and_self, and_true, true_and, not_false_eq_true, not_true_eq_false]
  refine am_go [] 4 ?_
  simp only [am_wp, am_stp, am_en, am_as, am_pad, am_nth, am_set, am_st1, am_st2, am_kl, am_kill, am_mem, am_fv, am_tk, am_wt, am_bk, Option.toList, List.cons_append, List.nil_append, Nat.reduceAdd, Nat.reduceEqDiff, Nat.reduceLeDiff, reduceIte, Nat.reduceLT, or_self, true_or, or_true, if_true, if_false, and_self, and_true, true_and, not_false_eq_true, not_true_eq_false, fd_SR_fillHead_18, fd_SR_fillHead_19, fd_SR_fillHead_22, fd_SR_fillHead_23, c2, c8, c14]
  refine am_call (l2_hd2 (d := d) S0 A1 (by omega)) (fun o g2 z => ?_)
  obtain ⟨rfl, A2⟩ := z
  obtain ⟨e2, e8, e14⟩ := K A2
  simp only [am_wp, am_stp, am_en, am_as, am_pad, am_nth, am_set, am_st1, am_st2, am_kl, am_kill, am_mem, am_fv, am_tk, am_wt, am_bk, Option.toList, List.cons_append, List.nil_append, Nat.reduceAdd, Nat.reduceEqDiff, Nat.reduceLeDiff, reduceIte, Nat.reduceLT, or_self, true_or, or_true, if_true, if_false, and_self, and_true, true_and, not_false_eq_true, not_true_eq_false]
  refine am_go [] 5 ?_
  simp only [am_wp, am_stp, am_en, am_as, am_pad, am_nth, am_set, am_st1, am_st2, am_kl, am_kill, am_mem, am_fv, am_tk, am_wt, am_bk, Option.toList, List.cons_append, List.nil_append, Nat.reduceAdd, Nat.reduceEqDiff, Nat.reduceLeDiff, reduceIte, Nat.reduceLT, or_self, true_or, or_true, if_true, if_false, and_self, and_true, true_and, not_false_eq_true, not_true_eq_false, fd_SR_fillHead_26, fd_SR_fillHead_27, fd_SR_fillHead_30, fd_SR_fillHead_31, fd_SR_fillHead_34, e2, e8, e14]
  refine am_call (l2_hd2 (d := d) S0 A2 (by omega)) (fun o g3 z => ?_)
  obtain ⟨rfl, A3⟩ := z
  obtain ⟨f2, f8, f14⟩ := K A3
  have gr3 : am_R g3 2 3 = 8 := by rw [A3.1.2.2.2.2.2.1]; exact r3
  have g8 : am_kd g3 8 = 6 := by rw [A3.1.2.2.2.1]; exact k8
  simp only [am_wp, am_stp, am_en, am_as, am_pad, am_nth, am_set, am_st1, am_st2, am_kl, am_kill, am_mem, am_fv, am_tk, am_wt, am_bk, Option.toList, List.cons_append, List.nil_append, Nat.reduceAdd, Nat.reduceEqDiff, Nat.reduceLeDiff, reduceIte, Nat.reduceLT, or_self, true_or, or_true, if_true, if_false, and_self, and_true, true_and, not_false_eq_true, not_true_eq_false]
  refine am_go [] 6 ?_
  simp only [am_wp, am_stp, am_en, am_as, am_pad, am_nth, am_set, am_st1, am_st2, am_kl, am_kill, am_mem, am_fv, am_tk, am_wt, am_bk, Option.toList, List.cons_append, List.nil_append, Nat.reduceAdd, Nat.reduceEqDiff, Nat.reduceLeDiff, reduceIte, Nat.reduceLT, or_self, true_or, or_true, if_true, if_false, and_self, and_true, true_and, not_false_eq_true, not_true_eq_false, fd_SR_fillHead_37, fd_SR_fillHead_38, fd_SR_fillHead_41, fd_SR_fillHead_42, fd_SR_fillHead_45, fd_SR_fillHead_48, f2, f8, f14, gr3, g8]
  refine am_call (l2_hd1 (d := d + 1) S0 A3 (by omega)) (fun o g4 z => ?_)
  obtain ⟨rfl, A4⟩ := z
  simp only [am_wp, am_stp, am_en, am_as, am_pad, am_nth, am_set, am_st1, am_st2, am_kl, am_kill, am_mem, am_fv, am_tk, am_wt, am_bk, Option.toList, List.cons_append, List.nil_append, Nat.reduceAdd, Nat.reduceEqDiff, Nat.reduceLeDiff, reduceIte, Nat.reduceLT, or_self, true_or, or_true, if_true, if_false, and_self, and_true, true_and, not_false_eq_true, not_true_eq_false]
  refine am_go [53] 2 ?_
  simp only [am_wp, am_stp, am_en, am_as, am_pad, am_nth, am_set, am_st1, am_st2, am_kl, am_kill, am_mem, am_fv, am_tk, am_wt, am_bk, Option.toList, List.cons_append, List.nil_append, Nat.reduceAdd, Nat.reduceEqDiff, Nat.reduceLeDiff, reduceIte, Nat.reduceLT, or_self, true_or, or_true, if_true, if_false, and_self, and_true, true_and, not_false_eq_true, not_true_eq_false, fd_SR_fillHead_51, fd_SR_fillHead_52]
  exact l2_fillHead_loop k2 r8 r3 k8 r8' k9 n9 S0 i8 hn hk n 0 am_j g4 (by omega) A4
theorem and1 (x : Int32) : ∃ k, k < 2 ∧ x &&& 1 = nI k := by
  refine ⟨(x &&& 1).toBitVec.toNat, ?_, ?_⟩
  · rw [Int32.toBitVec_and, BitVec.toNat_and]
    have : ((1 : Int32).toBitVec).toNat = 1 := by decide
    rw [this]
    have := Nat.and_le_right (n := x.toBitVec.toNat) (m := 1)
    omega
  · apply Int32.toBitVec_inj.mp
    show _ = BitVec.ofNat 32 _
    rw [BitVec.ofNat_toNat]
    simp
/-- the head is written: pages from 2 on are as they were -/
def wh_Q (P : Nat) (h h' : am_H) : Prop := am_fi [2, 14, 15, 18, 19, 20] h h' ∧ (∀ j, j ≠ 12 → am_I h' 2 j = am_I h 2 j) ∧ sk_K P h' ∧ fr_P h h' [0, 1]
theorem l2_writeHead {d P n : Nat} {h : am_H} (hK : sk_K P h) (i8 : am_I h 8 1 = nI n) (hn : n ≤ 9) (hk : ∀ i, i < n → am_kd h (am_R h 9 i) = 5) : am_Rt nm_pr (d + 4) mi_SR_writeHead [.ref 2] h (fun o h' => o = .inl none ∧ wh_Q P h h') := by
  obtain ⟨⟨k2, r0, r1, rr2, r3, r5, r8⟩, S0, P0, Sp0, B0, ⟨k8, r8', k9, n9⟩, i185, i215⟩ := id hK
  have P4 := P0.2.2.2.2.2.2.2.2.1
  obtain ⟨pk, hp, ep⟩ := and1 (am_I h 2 12 + 1)
  have one0 : ¬ (1 : Int32) = 0 := by decide
  refine am_in' (d := d + 3) mt_SR_writeHead 2 rfl rfl rfl ?_
  refine am_go [] 8 ?_
  simp only [am_wp, am_stp, am_en, am_as, am_pad, am_nth, am_set, am_st1, am_st2, am_kl, am_kill, am_mem, am_fv, am_tk, am_wt, am_bk, Option.toList, List.cons_append, List.nil_append, Nat.reduceAdd, Nat.reduceEqDiff, Nat.reduceLeDiff, reduceIte, Nat.reduceLT, or_self, true_or, or_true, if_true, if_false, and_self, and_true, true_and, not_false_eq_true, not_true_eq_false, fd_SR_writeHead_0, fd_SR_writeHead_1, fd_SR_writeHead_4, fd_SR_writeHead_5, fd_SR_writeHead_6, fd_SR_writeHead_7, fd_SR_writeHead_8, fd_SR_writeHead_9, k2]
  refine am_call (l2_fillHead (d := d) hK i8 hn hk) (fun o g z => ?_)
  obtain ⟨rfl, F⟩ := z
  have Kg : sk_K P g := hK.fi F (by decide)
  obtain ⟨⟨k2', r0', r1', rr2', r3', r5', r8s⟩, S1, P1, Sp1, B1, N1, i185', i215'⟩ := id Kg
  simp only [am_wp, am_stp, am_en, am_as, am_pad, am_nth, am_set, am_st1, am_st2, am_kl, am_kill, am_mem, am_fv, am_tk, am_wt, am_bk, Option.toList, List.cons_append, List.nil_append, Nat.reduceAdd, Nat.reduceEqDiff, Nat.reduceLeDiff, reduceIte, Nat.reduceLT, or_self, true_or, or_true, if_true, if_false, and_self, and_true, true_and, not_false_eq_true, not_true_eq_false]
  refine am_go [] 8 ?_
  simp only [am_wp, am_stp, am_en, am_as, am_pad, am_nth, am_set, am_st1, am_st2, am_kl, am_kill, am_mem, am_fv, am_tk, am_wt, am_bk, Option.toList, List.cons_append, List.nil_append, Nat.reduceAdd, Nat.reduceEqDiff, Nat.reduceLeDiff, reduceIte, Nat.reduceLT, or_self, true_or, or_true, if_true, if_false, and_self, and_true, true_and, not_false_eq_true, not_true_eq_false, fd_SR_writeHead_12, fd_SR_writeHead_13, fd_SR_writeHead_16, fd_SR_writeHead_17, fd_SR_writeHead_18, fd_SR_writeHead_19, fd_SR_writeHead_20, fd_SR_writeHead_23, k2', r0', r8s, P1.1]
  rw [ep]
  refine am_call (l2_store (d := d) P1 S1 (show pk < P by omega) i185') (fun o g2 z => ?_)
  obtain ⟨rfl, F2, L2, c0, c3, c5, c19, c15, c20⟩ := z
  have k22 : am_kd g2 2 = 1 := by rw [F2.2.2.2.1]; exact k2'
  simp only [am_wp, am_stp, am_en, am_as, am_pad, am_nth, am_set, am_st1, am_st2, am_kl, am_kill, am_mem, am_fv, am_tk, am_wt, am_bk, Option.toList, List.cons_append, List.nil_append, Nat.reduceAdd, Nat.reduceEqDiff, Nat.reduceLeDiff, reduceIte, Nat.reduceLT, or_self, true_or, or_true, if_true, if_false, and_self, and_true, true_and, not_false_eq_true, not_true_eq_false]
  refine am_go [37] 6 ?_
  simp only [am_wp, am_stp, am_en, am_as, am_pad, am_nth, am_set, am_st1, am_st2, am_kl, am_kill, am_mem, am_fv, am_tk, am_wt, am_bk, Option.toList, List.cons_append, List.nil_append, Nat.reduceAdd, Nat.reduceEqDiff, Nat.reduceLeDiff, reduceIte, Nat.reduceLT, or_self, true_or, or_true, if_true, if_false, and_self, and_true, true_and, not_false_eq_true, not_true_eq_false, fd_SR_writeHead_26, fd_SR_writeHead_29, fd_SR_writeHead_30, fd_SR_writeHead_31, fd_SR_writeHead_34, fd_SR_writeHead_41, one0, k22]
  have K2 : sk_K P g2 := Kg.mv F2 c0 (by rw [c5, i185']) (congrFun (F2.2.2.2.2.2.2.1 21 (by simp)) 0) (congrFun (F2.2.2.2.2.2.2.1 2 (by simp)) 15)
  have F3 : am_fi [2] g2 (am_sI g2 2 12 (am_I h 2 12 + 1)) := am_fi.refl.sI (by simp)
  have j2 : ∀ j, j ≠ 12 → am_I (am_sI g2 2 12 (am_I h 2 12 + 1)) 2 j = am_I h 2 j := fun j hj => by
    simp only [hx_nx_sI, hx_ce_sI, hx_sl_sI, hx_kd_sI, hx_ln_sI, hx_I_sI, hx_L_sI, hx_R_sI, hx_nx_sL, hx_ce_sL, hx_sl_sL, hx_kd_sL, hx_ln_sL, hx_I_sL, hx_L_sL, hx_R_sL, hx_nx_sR, hx_ce_sR, hx_sl_sR, hx_kd_sR, hx_ln_sR, hx_I_sR, hx_L_sR, hx_R_sR, hx_nx_al, hx_ce_al, hx_sl_al, hx_kd_al, hx_ln_al, hx_I_al, hx_L_al, hx_R_al, hx_nx_row, hx_ce_row, hx_sl_row, hx_kd_row, hx_ln_row, hx_I_row, hx_L_row, hx_R_row, hx_nx_mk, hx_kd_mk, hx_ln_mk, hx_I_mk, hx_L_mk, hx_R_mk, am_wp, am_stp, am_en, am_as, am_pad, am_nth, am_set, am_st1, am_st2, am_kl, am_kill, am_mem, am_fv, am_tk, am_wt, am_bk, Option.toList, List.cons_append, List.nil_append, Nat.reduceAdd, Nat.reduceEqDiff, Nat.reduceLeDiff, reduceIte, Nat.reduceLT, or_self, true_or, or_true, if_true, if_false, and_self, and_true, true_and, not_false_eq_true, not_true_eq_false, hj]
    rw [F2.2.2.2.2.2.2.1 2 (by simp), F.2.2.2.2.2.2.1 2 (by simp)]
  have K3 : sk_K P (am_sI g2 2 12 (am_I h 2 12 + 1)) := K2.mv F3 (by simp only [hx_nx_sI, hx_ce_sI, hx_sl_sI, hx_kd_sI, hx_ln_sI, hx_I_sI, hx_L_sI, hx_R_sI, hx_nx_sL, hx_ce_sL, hx_sl_sL, hx_kd_sL, hx_ln_sL, hx_I_sL, hx_L_sL, hx_R_sL, hx_nx_sR, hx_ce_sR, hx_sl_sR, hx_kd_sR, hx_ln_sR, hx_I_sR, hx_L_sR, hx_R_sR, hx_nx_al, hx_ce_al, hx_sl_al, hx_kd_al, hx_ln_al, hx_I_al, hx_L_al, hx_R_al, hx_nx_row, hx_ce_row, hx_sl_row, hx_kd_row, hx_ln_row, hx_I_row, hx_L_row, hx_R_row, hx_nx_mk, hx_kd_mk, hx_ln_mk, hx_I_mk, hx_L_mk, hx_R_mk, am_wp, am_stp, am_en, am_as, am_pad, am_nth, am_set, am_st1, am_st2, am_kl, am_kill, am_mem, am_fv, am_tk, am_wt, am_bk, Option.toList, List.cons_append, List.nil_append, Nat.reduceAdd, Nat.reduceEqDiff, Nat.reduceLeDiff, reduceIte, Nat.reduceLT, or_self, true_or, or_true, if_true, if_false, and_self, and_true, true_and, not_false_eq_true, not_true_eq_false]) (by simp only [hx_nx_sI, hx_ce_sI, hx_sl_sI, hx_kd_sI, hx_ln_sI, hx_I_sI, hx_L_sI, hx_R_sI, hx_nx_sL, hx_ce_sL, hx_sl_sL, hx_kd_sL, hx_ln_sL, hx_I_sL, hx_L_sL, hx_R_sL, hx_nx_sR, hx_ce_sR, hx_sl_sR, hx_kd_sR, hx_ln_sR, hx_I_sR, hx_L_sR, hx_R_sR, hx_nx_al, hx_ce_al, hx_sl_al, hx_kd_al, hx_ln_al, hx_I_al, hx_L_al, hx_R_al, hx_nx_row, hx_ce_row, hx_sl_row, hx_kd_row, hx_ln_row, hx_I_row, hx_L_row, hx_R_row, hx_nx_mk, hx_kd_mk, hx_ln_mk, hx_I_mk, hx_L_mk, hx_R_mk, am_wp, am_stp, am_en, am_as, am_pad, am_nth, am_set, am_st1, am_st2, am_kl, am_kill, am_mem, am_fv, am_tk, am_wt, am_bk, Option.toList, List.cons_append, List.nil_append, Nat.reduceAdd, Nat.reduceEqDiff, Nat.reduceLeDiff, reduceIte, Nat.reduceLT, or_self, true_or, or_true, if_true, if_false, and_self, and_true, true_and, not_false_eq_true, not_true_eq_false]) (by simp only [hx_nx_sI, hx_ce_sI, hx_sl_sI, hx_kd_sI, hx_ln_sI, hx_I_sI, hx_L_sI, hx_R_sI, hx_nx_sL, hx_ce_sL, hx_sl_sL, hx_kd_sL, hx_ln_sL, hx_I_sL, hx_L_sL, hx_R_sL, hx_nx_sR, hx_ce_sR, hx_sl_sR, hx_kd_sR, hx_ln_sR, hx_I_sR, hx_L_sR, hx_R_sR, hx_nx_al, hx_ce_al, hx_sl_al, hx_kd_al, hx_ln_al, hx_I_al, hx_L_al, hx_R_al, hx_nx_row, hx_ce_row, hx_sl_row, hx_kd_row, hx_ln_row, hx_I_row, hx_L_row, hx_R_row, hx_nx_mk, hx_kd_mk, hx_ln_mk, hx_I_mk, hx_L_mk, hx_R_mk, am_wp, am_stp, am_en, am_as, am_pad, am_nth, am_set, am_st1, am_st2, am_kl, am_kill, am_mem, am_fv, am_tk, am_wt, am_bk, Option.toList, List.cons_append, List.nil_append, Nat.reduceAdd, Nat.reduceEqDiff, Nat.reduceLeDiff, reduceIte, Nat.reduceLT, or_self, true_or, or_true, if_true, if_false, and_self, and_true, true_and, not_false_eq_true, not_true_eq_false]) (by simp only [hx_nx_sI, hx_ce_sI, hx_sl_sI, hx_kd_sI, hx_ln_sI, hx_I_sI, hx_L_sI, hx_R_sI, hx_nx_sL, hx_ce_sL, hx_sl_sL, hx_kd_sL, hx_ln_sL, hx_I_sL, hx_L_sL, hx_R_sL, hx_nx_sR, hx_ce_sR, hx_sl_sR, hx_kd_sR, hx_ln_sR, hx_I_sR, hx_L_sR, hx_R_sR, hx_nx_al, hx_ce_al, hx_sl_al, hx_kd_al, hx_ln_al, hx_I_al, hx_L_al, hx_R_al, hx_nx_row, hx_ce_row, hx_sl_row, hx_kd_row, hx_ln_row, hx_I_row, hx_L_row, hx_R_row, hx_nx_mk, hx_kd_mk, hx_ln_mk, hx_I_mk, hx_L_mk, hx_R_mk, am_wp, am_stp, am_en, am_as, am_pad, am_nth, am_set, am_st1, am_st2, am_kl, am_kill, am_mem, am_fv, am_tk, am_wt, am_bk, Option.toList, List.cons_append, List.nil_append, Nat.reduceAdd, Nat.reduceEqDiff, Nat.reduceLeDiff, reduceIte, Nat.reduceLT, or_self, true_or, or_true, if_true, if_false, and_self, and_true, true_and, not_false_eq_true, not_true_eq_false])
  refine ⟨((F.sub (by simp)).trans (F2.sub (by simp))).trans (F3.sub (by simp)), j2, K3, fun q hq => ?_⟩
  have hq2 : q ≠ pk := fun e => by
    have h01 : pk = 0 ∨ pk = 1 := by omega
    apply hq
    rw [e]
    rcases h01 with e | e <;> simp [e]
  refine ⟨?_, ?_, ?_, ?_, fun j hj => ?_⟩
  · simp only [hx_nx_sI, hx_ce_sI, hx_sl_sI, hx_kd_sI, hx_ln_sI, hx_I_sI, hx_L_sI, hx_R_sI, hx_nx_sL, hx_ce_sL, hx_sl_sL, hx_kd_sL, hx_ln_sL, hx_I_sL, hx_L_sL, hx_R_sL, hx_nx_sR, hx_ce_sR, hx_sl_sR, hx_kd_sR, hx_ln_sR, hx_I_sR, hx_L_sR, hx_R_sR, hx_nx_al, hx_ce_al, hx_sl_al, hx_kd_al, hx_ln_al, hx_I_al, hx_L_al, hx_R_al, hx_nx_row, hx_ce_row, hx_sl_row, hx_kd_row, hx_ln_row, hx_I_row, hx_L_row, hx_R_row, hx_nx_mk, hx_kd_mk, hx_ln_mk, hx_I_mk, hx_L_mk, hx_R_mk, am_wp, am_stp, am_en, am_as, am_pad, am_nth, am_set, am_st1, am_st2, am_kl, am_kill, am_mem, am_fv, am_tk, am_wt, am_bk, Option.toList, List.cons_append, List.nil_append, Nat.reduceAdd, Nat.reduceEqDiff, Nat.reduceLeDiff, reduceIte, Nat.reduceLT, or_self, true_or, or_true, if_true, if_false, and_self, and_true, true_and, not_false_eq_true, not_true_eq_false]
    rw [c20]
    unfold up_f
    rw [if_neg hq2, F.2.2.2.2.2.2.1 20 (by simp)]
  · simp only [hx_nx_sI, hx_ce_sI, hx_sl_sI, hx_kd_sI, hx_ln_sI, hx_I_sI, hx_L_sI, hx_R_sI, hx_nx_sL, hx_ce_sL, hx_sl_sL, hx_kd_sL, hx_ln_sL, hx_I_sL, hx_L_sL, hx_R_sL, hx_nx_sR, hx_ce_sR, hx_sl_sR, hx_kd_sR, hx_ln_sR, hx_I_sR, hx_L_sR, hx_R_sR, hx_nx_al, hx_ce_al, hx_sl_al, hx_kd_al, hx_ln_al, hx_I_al, hx_L_al, hx_R_al, hx_nx_row, hx_ce_row, hx_sl_row, hx_kd_row, hx_ln_row, hx_I_row, hx_L_row, hx_R_row, hx_nx_mk, hx_kd_mk, hx_ln_mk, hx_I_mk, hx_L_mk, hx_R_mk, am_wp, am_stp, am_en, am_as, am_pad, am_nth, am_set, am_st1, am_st2, am_kl, am_kill, am_mem, am_fv, am_tk, am_wt, am_bk, Option.toList, List.cons_append, List.nil_append, Nat.reduceAdd, Nat.reduceEqDiff, Nat.reduceLeDiff, reduceIte, Nat.reduceLT, or_self, true_or, or_true, if_true, if_false, and_self, and_true, true_and, not_false_eq_true, not_true_eq_false]
    rw [F2.2.2.2.2.2.2.1 22 (by simp), F.2.2.2.2.2.2.1 22 (by simp)]
  · simp only [hx_nx_sI, hx_ce_sI, hx_sl_sI, hx_kd_sI, hx_ln_sI, hx_I_sI, hx_L_sI, hx_R_sI, hx_nx_sL, hx_ce_sL, hx_sl_sL, hx_kd_sL, hx_ln_sL, hx_I_sL, hx_L_sL, hx_R_sL, hx_nx_sR, hx_ce_sR, hx_sl_sR, hx_kd_sR, hx_ln_sR, hx_I_sR, hx_L_sR, hx_R_sR, hx_nx_al, hx_ce_al, hx_sl_al, hx_kd_al, hx_ln_al, hx_I_al, hx_L_al, hx_R_al, hx_nx_row, hx_ce_row, hx_sl_row, hx_kd_row, hx_ln_row, hx_I_row, hx_L_row, hx_R_row, hx_nx_mk, hx_kd_mk, hx_ln_mk, hx_I_mk, hx_L_mk, hx_R_mk, am_wp, am_stp, am_en, am_as, am_pad, am_nth, am_set, am_st1, am_st2, am_kl, am_kill, am_mem, am_fv, am_tk, am_wt, am_bk, Option.toList, List.cons_append, List.nil_append, Nat.reduceAdd, Nat.reduceEqDiff, Nat.reduceLeDiff, reduceIte, Nat.reduceLT, or_self, true_or, or_true, if_true, if_false, and_self, and_true, true_and, not_false_eq_true, not_true_eq_false]
    rw [F2.2.2.2.2.2.2.1 23 (by simp), F.2.2.2.2.2.2.1 23 (by simp)]
  · simp only [hx_nx_sI, hx_ce_sI, hx_sl_sI, hx_kd_sI, hx_ln_sI, hx_I_sI, hx_L_sI, hx_R_sI, hx_nx_sL, hx_ce_sL, hx_sl_sL, hx_kd_sL, hx_ln_sL, hx_I_sL, hx_L_sL, hx_R_sL, hx_nx_sR, hx_ce_sR, hx_sl_sR, hx_kd_sR, hx_ln_sR, hx_I_sR, hx_L_sR, hx_R_sR, hx_nx_al, hx_ce_al, hx_sl_al, hx_kd_al, hx_ln_al, hx_I_al, hx_L_al, hx_R_al, hx_nx_row, hx_ce_row, hx_sl_row, hx_kd_row, hx_ln_row, hx_I_row, hx_L_row, hx_R_row, hx_nx_mk, hx_kd_mk, hx_ln_mk, hx_I_mk, hx_L_mk, hx_R_mk, am_wp, am_stp, am_en, am_as, am_pad, am_nth, am_set, am_st1, am_st2, am_kl, am_kill, am_mem, am_fv, am_tk, am_wt, am_bk, Option.toList, List.cons_append, List.nil_append, Nat.reduceAdd, Nat.reduceEqDiff, Nat.reduceLeDiff, reduceIte, Nat.reduceLT, or_self, true_or, or_true, if_true, if_false, and_self, and_true, true_and, not_false_eq_true, not_true_eq_false]
    rw [L2, F.2.2.2.2.2.2.2 24 (by simp)]
  · simp only [hx_nx_sI, hx_ce_sI, hx_sl_sI, hx_kd_sI, hx_ln_sI, hx_I_sI, hx_L_sI, hx_R_sI, hx_nx_sL, hx_ce_sL, hx_sl_sL, hx_kd_sL, hx_ln_sL, hx_I_sL, hx_L_sL, hx_R_sL, hx_nx_sR, hx_ce_sR, hx_sl_sR, hx_kd_sR, hx_ln_sR, hx_I_sR, hx_L_sR, hx_R_sR, hx_nx_al, hx_ce_al, hx_sl_al, hx_kd_al, hx_ln_al, hx_I_al, hx_L_al, hx_R_al, hx_nx_row, hx_ce_row, hx_sl_row, hx_kd_row, hx_ln_row, hx_I_row, hx_L_row, hx_R_row, hx_nx_mk, hx_kd_mk, hx_ln_mk, hx_I_mk, hx_L_mk, hx_R_mk, am_wp, am_stp, am_en, am_as, am_pad, am_nth, am_set, am_st1, am_st2, am_kl, am_kill, am_mem, am_fv, am_tk, am_wt, am_bk, Option.toList, List.cons_append, List.nil_append, Nat.reduceAdd, Nat.reduceEqDiff, Nat.reduceLeDiff, reduceIte, Nat.reduceLT, or_self, true_or, or_true, if_true, if_false, and_self, and_true, true_and, not_false_eq_true, not_true_eq_false]
    rw [c19 _ (by rcases Nat.lt_or_gt_of_ne hq2 with e | e <;> omega), F.2.2.2.2.2.2.1 19 (by simp)]
