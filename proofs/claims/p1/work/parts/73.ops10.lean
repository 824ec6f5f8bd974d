/-! down ON A NEW OBJECT -/
theorem l2_forget {d t : Nat} {h : am_H} (kt : am_kd h t = 6) : am_Rt nm_pr (d + 1) mi_RunList_forget [.ref t] h (fun o h' => o = .inl none ∧ h' = am_sI (am_sI h t 2 0) t 1 0) := by
  refine am_in' mt_RunList_forget 1 rfl rfl rfl ?_
  refine am_go [] 8 ?_
  simp only [am_wp, am_stp, am_en, am_as, am_pad, am_nth, am_set, am_st1, am_st2, am_kl, am_kill, am_mem, am_fv, am_tk, am_wt, am_bk, Option.toList, List.cons_append, List.nil_append, Nat.reduceAdd, Nat.reduceEqDiff, Nat.reduceLeDiff, reduceIte, Nat.reduceLT, or_self, true_or, or_true, if_true, if_false, and_self, and_true, true_and, not_false_eq_true, not_true_eq_false, fd_RunList_forget_0, fd_RunList_forget_1, fd_RunList_forget_2, fd_RunList_forget_5, fd_RunList_forget_6, fd_RunList_forget_7, fd_RunList_forget_10, kt, hx_nx_sI, hx_ce_sI, hx_sl_sI, hx_kd_sI, hx_ln_sI, hx_I_sI, hx_L_sI, hx_R_sI, hx_nx_sL, hx_ce_sL, hx_sl_sL, hx_kd_sL, hx_ln_sL, hx_I_sL, hx_L_sL, hx_R_sL, hx_nx_sR, hx_ce_sR, hx_sl_sR, hx_kd_sR, hx_ln_sR, hx_I_sR, hx_L_sR, hx_R_sR, hx_nx_al, hx_ce_al, hx_sl_al, hx_kd_al, hx_ln_al, hx_I_al, hx_L_al, hx_R_al, hx_nx_row, hx_ce_row, hx_sl_row, hx_kd_row, hx_ln_row, hx_I_row, hx_L_row, hx_R_row, hx_nx_mk, hx_kd_mk, hx_ln_mk, hx_I_mk, hx_L_mk, hx_R_mk]
theorem l2_Sp_clear_loop {d P : Nat} {h : am_H} {Q : am_O → am_H → Prop} (hP : P ≤ 1024) (k21 : am_kd h 21 = 9) (i21 : am_I h 21 0 = nI P) (r21 : am_R h 21 1 = 22) (k22 : am_kd h 22 = 100) (n22 : am_ln h 22 = P) (hx : ∀ g, am_fi [21, 22] h g → Q (.inl none) g) : ∀ (n p : Nat) (g : am_H), n + p = P → am_fi [22] h g →
    am_Ex nm_pr d mt_Space_clear (2, [.ref 21, .int (nI p)], [], g) Q
  | 0, p, g, hn, f => by
    have e : p = P := by omega
    subst e
    have hlt : ¬ (nI p < nI p) := nI_nlt (Nat.le_refl _) (by omega)
    have q21 : am_kd g 21 = 9 := by rw [f.2.2.2.1]; exact k21
    have y21 : am_I g 21 0 = nI p := by rw [f.2.2.2.2.2.2.1 21 (by simp)]; exact i21
    refine am_go [10] 12 ?_
    simp only [am_wp, am_stp, am_en, am_as, am_pad, am_nth, am_set, am_st1, am_st2, am_kl, am_kill, am_mem, am_fv, am_tk, am_wt, am_bk, Option.toList, List.cons_append, List.nil_append, Nat.reduceAdd, Nat.reduceEqDiff, Nat.reduceLeDiff, reduceIte, Nat.reduceLT, or_self, true_or, or_true, if_true, if_false, and_self, and_true, true_and, not_false_eq_true, not_true_eq_false, fd_Space_clear_2, fd_Space_clear_3, fd_Space_clear_4, fd_Space_clear_7, fd_Space_clear_23, fd_Space_clear_24, fd_Space_clear_25, fd_Space_clear_28, fd_Space_clear_29, fd_Space_clear_30, fd_Space_clear_33, q21, y21, hlt]
    exact hx _ ((f.sub (by simp)).sI (by simp))
  | n + 1, p, g, hn, f => by
    have hlt : nI p < nI P := nI_lt (by omega) (by omega)
    have q21 : am_kd g 21 = 9 := by rw [f.2.2.2.1]; exact k21
    have y21 : am_I g 21 0 = nI P := by rw [f.2.2.2.2.2.2.1 21 (by simp)]; exact i21
    have q22 : am_kd g 22 = 100 := by rw [f.2.2.2.1]; exact k22
    have l22 : am_ln g 22 = P := by rw [f.2.2.2.2.1]; exact n22
    have w21 : am_R g 21 1 = 22 := by rw [f.2.2.2.2.2.1]; exact r21
    have i1 := am_inb (c := p) (N := P) (by omega) (by omega)
    have c1 : (nI p).toNatClampNeg = p := nI_clamp (by omega)
    refine am_go [10, 23] 4 ?_
    simp only [am_wp, am_stp, am_en, am_as, am_pad, am_nth, am_set, am_st1, am_st2, am_kl, am_kill, am_mem, am_fv, am_tk, am_wt, am_bk, Option.toList, List.cons_append, List.nil_append, Nat.reduceAdd, Nat.reduceEqDiff, Nat.reduceLeDiff, reduceIte, Nat.reduceLT, or_self, true_or, or_true, if_true, if_false, and_self, and_true, true_and, not_false_eq_true, not_true_eq_false, fd_Space_clear_2, fd_Space_clear_3, fd_Space_clear_4, fd_Space_clear_7, q21, y21, hlt]
    refine am_go [2] 8 ?_
    simp only [am_wp, am_stp, am_en, am_as, am_pad, am_nth, am_set, am_st1, am_st2, am_kl, am_kill, am_mem, am_fv, am_tk, am_wt, am_bk, Option.toList, List.cons_append, List.nil_append, Nat.reduceAdd, Nat.reduceEqDiff, Nat.reduceLeDiff, reduceIte, Nat.reduceLT, or_self, true_or, or_true, if_true, if_false, and_self, and_true, true_and, not_false_eq_true, not_true_eq_false, fd_Space_clear_10, fd_Space_clear_11, fd_Space_clear_14, fd_Space_clear_15, fd_Space_clear_16, fd_Space_clear_17, fd_Space_clear_20, q21, w21, q22, l22, i1, c1, nI_1]
    exact l2_Sp_clear_loop hP k21 i21 r21 k22 n22 hx n (p + 1) _ (by omega) (f.sI (by simp))
theorem l2_Sp_clear {d P : Nat} {h : am_H} (hP : P ≤ 1024) (k21 : am_kd h 21 = 9) (i21 : am_I h 21 0 = nI P) (r21 : am_R h 21 1 = 22) (k22 : am_kd h 22 = 100) (n22 : am_ln h 22 = P) : am_Rt nm_pr (d + 1) mi_Space_clear [.ref 21] h (fun o h' => o = .inl none ∧ am_fi [21, 22] h h') := by
  refine am_in' mt_Space_clear 2 rfl rfl rfl ?_
  refine am_go [2] 3 ?_
  simp only [am_wp, am_stp, am_en, am_as, am_pad, am_nth, am_set, am_st1, am_st2, am_kl, am_kill, am_mem, am_fv, am_tk, am_wt, am_bk, Option.toList, List.cons_append, List.nil_append, Nat.reduceAdd, Nat.reduceEqDiff, Nat.reduceLeDiff, reduceIte, Nat.reduceLT, or_self, true_or, or_true, if_true, if_false, and_self, and_true, true_and, not_false_eq_true, not_true_eq_false, fd_Space_clear_0, fd_Space_clear_1]
  exact l2_Sp_clear_loop hP k21 i21 r21 k22 n22 (fun g f => ⟨rfl, f⟩) P 0 h (by omega) am_fi.refl
/-- the addresses that goDown may change -/
def gd_S : List Nat := 2 :: 3 :: 8 :: 40 :: 44 :: 48 :: 52 :: 56 :: 60 :: 64 :: 68 :: []
theorem gd_in {i : Nat} (hi : i < 8) : 40 + 4 * i ∈ gd_S := by
  have : ∀ i : Fin 8, 40 + 4 * i.1 ∈ gd_S := by decide
  exact this ⟨i, hi⟩
theorem l2_goDown_loop {d P : Nat} {h : am_H} {Q : am_O → am_H → Prop} (F : fr_All P h) (hx : ∀ g, am_fi gd_S h g → am_Ex nm_pr (d + 1) mt_SR_goDown (43, [.ref 2, .int (nI 8)], [], g) Q) : ∀ (n i : Nat) (g : am_H), n + i = 8 → am_fi gd_S h g →
    am_Ex nm_pr (d + 1) mt_SR_goDown (22, [.ref 2, .int (nI i)], [], g) Q
  | 0, i, g, hn, f => by
    have e : i = 8 := by omega
    subst e
    have hlt : ¬ (nI 8 < 8) := by decide
    refine am_go [28, 43] 4 ?_
    simp only [am_wp, am_stp, am_en, am_as, am_pad, am_nth, am_set, am_st1, am_st2, am_kl, am_kill, am_mem, am_fv, am_tk, am_wt, am_bk, Option.toList, List.cons_append, List.nil_append, Nat.reduceAdd, Nat.reduceEqDiff, Nat.reduceLeDiff, reduceIte, Nat.reduceLT, or_self, true_or, or_true, if_true, if_false, and_self, and_true, true_and, not_false_eq_true, not_true_eq_false, fd_SR_goDown_22, fd_SR_goDown_23, fd_SR_goDown_25, hlt]
    exact hx g f
  | n + 1, i, g, hn, f => by
    obtain ⟨s1, s2, s3⟩ := F.2.2.2.2.2.2.2.2.2.2.2.2.2.2
    have f5 := F.2.2.2.2.2.2.2.2.2.2.2.2.2.1
    have hlt : nI i < 8 := nI_lt (b := 8) (by omega) (by decide)
    have i1 := am_inb (c := i) (N := 8) (by omega) (by omega)
    have c1 : (nI i).toNatClampNeg = i := nI_clamp (by omega)
    have k2 : am_kd g 2 = 1 := by rw [f.2.2.2.1]; exact s1
    have r4 : am_R g 2 4 = 12 := by rw [f.2.2.2.2.2.1, s2]; rfl
    have k12 : am_kd g 12 = 201 := by rw [f.2.2.2.1]; exact f5.1.1
    have n12 : am_ln g 12 = 8 := by rw [f.2.2.2.2.1]; exact f5.1.2.1
    have rj : am_R g 12 i = 40 + 4 * i := by rw [f.2.2.2.2.2.1]; exact (congrFun f5.1.2.2.2 i).trans (if_pos (by omega))
    have kj : am_kd g (40 + 4 * i) = 6 := by rw [f.2.2.2.1]; exact (f5.2 i (by omega)).1.1
    have n1 : (200 ≤ 201 ∧ 201 < 204) := by decide
    refine am_go [28, 43] 4 ?_
    simp only [am_wp, am_stp, am_en, am_as, am_pad, am_nth, am_set, am_st1, am_st2, am_kl, am_kill, am_mem, am_fv, am_tk, am_wt, am_bk, Option.toList, List.cons_append, List.nil_append, Nat.reduceAdd, Nat.reduceEqDiff, Nat.reduceLeDiff, reduceIte, Nat.reduceLT, or_self, true_or, or_true, if_true, if_false, and_self, and_true, true_and, not_false_eq_true, not_true_eq_false, fd_SR_goDown_22, fd_SR_goDown_23, fd_SR_goDown_25, hlt]
    refine am_go [] 5 ?_
    simp only [am_wp, am_stp, am_en, am_as, am_pad, am_nth, am_set, am_st1, am_st2, am_kl, am_kill, am_mem, am_fv, am_tk, am_wt, am_bk, Option.toList, List.cons_append, List.nil_append, Nat.reduceAdd, Nat.reduceEqDiff, Nat.reduceLeDiff, reduceIte, Nat.reduceLT, or_self, true_or, or_true, if_true, if_false, and_self, and_true, true_and, not_false_eq_true, not_true_eq_false, fd_SR_goDown_28, fd_SR_goDown_29, fd_SR_goDown_32, fd_SR_goDown_33, fd_SR_goDown_34, k2, r4, k12, n12, n1, i1, c1, rj, kj]
    refine am_call (l2_forget kj) (fun o h1 q => ?_)
    obtain ⟨rfl, rfl⟩ := q
    simp only [am_wp, am_stp, am_en, am_as, am_pad, am_nth, am_set, am_st1, am_st2, am_kl, am_kill, am_mem, am_fv, am_tk, am_wt, am_bk, Option.toList, List.cons_append, List.nil_append, Nat.reduceAdd, Nat.reduceEqDiff, Nat.reduceLeDiff, reduceIte, Nat.reduceLT, or_self, true_or, or_true, if_true, if_false, and_self, and_true, true_and, not_false_eq_true, not_true_eq_false]
    refine am_go [22] 3 ?_
    simp only [am_wp, am_stp, am_en, am_as, am_pad, am_nth, am_set, am_st1, am_st2, am_kl, am_kill, am_mem, am_fv, am_tk, am_wt, am_bk, Option.toList, List.cons_append, List.nil_append, Nat.reduceAdd, Nat.reduceEqDiff, Nat.reduceLeDiff, reduceIte, Nat.reduceLT, or_self, true_or, or_true, if_true, if_false, and_self, and_true, true_and, not_false_eq_true, not_true_eq_false, fd_SR_goDown_37, fd_SR_goDown_40, nI_1]
    exact l2_goDown_loop F hx n (i + 1) _ (by omega) ((f.sI (gd_in (by omega))).sI (gd_in (by omega)))
theorem l2_SR_goDown {d P : Nat} {h : am_H} (F : fr_All P h) : am_Rt nm_pr (d + 2) mi_SR_goDown [.ref 2] h (fun o h' => o = .inl none ∧ am_fi (21 :: 22 :: gd_S) h h') := by
  obtain ⟨s1, s2, s3⟩ := F.2.2.2.2.2.2.2.2.2.2.2.2.2.2
  have f5 := F.2.2.2.2.2.2.2.2.2.2.2.2.2.1
  have hPb := F.2.2.2.1.2.2.2.2.2.2.2.2.2
  have r1 : am_R h 2 1 = 21 := by rw [s2]; rfl
  have r2 : am_R h 2 2 = 3 := by rw [s2]; rfl
  have r3 : am_R h 2 3 = 8 := by rw [s2]; rfl
  have k8 : am_kd h 8 = 6 := F.1.2.1.1
  have k3 : am_kd h 3 = 10 := F.1.1.1.1
  obtain ⟨k21, r21, i21⟩ := F.2.2.2.2.2.2.2.1
  have f22 := F.2.2.2.2.2.2.2.2.1
  refine am_in' (d := d + 1) mt_SR_goDown 2 rfl rfl rfl ?_
  refine am_go [] 7 ?_
  simp only [am_wp, am_stp, am_en, am_as, am_pad, am_nth, am_set, am_st1, am_st2, am_kl, am_kill, am_mem, am_fv, am_tk, am_wt, am_bk, Option.toList, List.cons_append, List.nil_append, Nat.reduceAdd, Nat.reduceEqDiff, Nat.reduceLeDiff, reduceIte, Nat.reduceLT, or_self, true_or, or_true, if_true, if_false, and_self, and_true, true_and, not_false_eq_true, not_true_eq_false, fd_SR_goDown_0, fd_SR_goDown_1, fd_SR_goDown_2, fd_SR_goDown_5, fd_SR_goDown_6, fd_SR_goDown_9, fd_SR_goDown_10, s1, hx_nx_sI, hx_ce_sI, hx_sl_sI, hx_kd_sI, hx_ln_sI, hx_I_sI, hx_L_sI, hx_R_sI, hx_nx_sL, hx_ce_sL, hx_sl_sL, hx_kd_sL, hx_ln_sL, hx_I_sL, hx_L_sL, hx_R_sL, hx_nx_sR, hx_ce_sR, hx_sl_sR, hx_kd_sR, hx_ln_sR, hx_I_sR, hx_L_sR, hx_R_sR, hx_nx_al, hx_ce_al, hx_sl_al, hx_kd_al, hx_ln_al, hx_I_al, hx_L_al, hx_R_al, hx_nx_row, hx_ce_row, hx_sl_row, hx_kd_row, hx_ln_row, hx_I_row, hx_L_row, hx_R_row, hx_nx_mk, hx_kd_mk, hx_ln_mk, hx_I_mk, hx_L_mk, hx_R_mk, r2, k3]
  refine am_go [] 3 ?_
  simp only [am_wp, am_stp, am_en, am_as, am_pad, am_nth, am_set, am_st1, am_st2, am_kl, am_kill, am_mem, am_fv, am_tk, am_wt, am_bk, Option.toList, List.cons_append, List.nil_append, Nat.reduceAdd, Nat.reduceEqDiff, Nat.reduceLeDiff, reduceIte, Nat.reduceLT, or_self, true_or, or_true, if_true, if_false, and_self, and_true, true_and, not_false_eq_true, not_true_eq_false, fd_SR_goDown_13, fd_SR_goDown_14, fd_SR_goDown_17, s1, hx_nx_sI, hx_ce_sI, hx_sl_sI, hx_kd_sI, hx_ln_sI, hx_I_sI, hx_L_sI, hx_R_sI, hx_nx_sL, hx_ce_sL, hx_sl_sL, hx_kd_sL, hx_ln_sL, hx_I_sL, hx_L_sL, hx_R_sL, hx_nx_sR, hx_ce_sR, hx_sl_sR, hx_kd_sR, hx_ln_sR, hx_I_sR, hx_L_sR, hx_R_sR, hx_nx_al, hx_ce_al, hx_sl_al, hx_kd_al, hx_ln_al, hx_I_al, hx_L_al, hx_R_al, hx_nx_row, hx_ce_row, hx_sl_row, hx_kd_row, hx_ln_row, hx_I_row, hx_L_row, hx_R_row, hx_nx_mk, hx_kd_mk, hx_ln_mk, hx_I_mk, hx_L_mk, hx_R_mk, r3, k8]
  refine am_call (l2_forget (by simp only [hx_nx_sI, hx_ce_sI, hx_sl_sI, hx_kd_sI, hx_ln_sI, hx_I_sI, hx_L_sI, hx_R_sI, hx_nx_sL, hx_ce_sL, hx_sl_sL, hx_kd_sL, hx_ln_sL, hx_I_sL, hx_L_sL, hx_R_sL, hx_nx_sR, hx_ce_sR, hx_sl_sR, hx_kd_sR, hx_ln_sR, hx_I_sR, hx_L_sR, hx_R_sR, hx_nx_al, hx_ce_al, hx_sl_al, hx_kd_al, hx_ln_al, hx_I_al, hx_L_al, hx_R_al, hx_nx_row, hx_ce_row, hx_sl_row, hx_kd_row, hx_ln_row, hx_I_row, hx_L_row, hx_R_row, hx_nx_mk, hx_kd_mk, hx_ln_mk, hx_I_mk, hx_L_mk, hx_R_mk]; exact k8)) (fun o h1 q => ?_)
  obtain ⟨rfl, rfl⟩ := q
  simp only [am_wp, am_stp, am_en, am_as, am_pad, am_nth, am_set, am_st1, am_st2, am_kl, am_kill, am_mem, am_fv, am_tk, am_wt, am_bk, Option.toList, List.cons_append, List.nil_append, Nat.reduceAdd, Nat.reduceEqDiff, Nat.reduceLeDiff, reduceIte, Nat.reduceLT, or_self, true_or, or_true, if_true, if_false, and_self, and_true, true_and, not_false_eq_true, not_true_eq_false]
  refine am_go [22] 3 ?_
  simp only [am_wp, am_stp, am_en, am_as, am_pad, am_nth, am_set, am_st1, am_st2, am_kl, am_kill, am_mem, am_fv, am_tk, am_wt, am_bk, Option.toList, List.cons_append, List.nil_append, Nat.reduceAdd, Nat.reduceEqDiff, Nat.reduceLeDiff, reduceIte, Nat.reduceLT, or_self, true_or, or_true, if_true, if_false, and_self, and_true, true_and, not_false_eq_true, not_true_eq_false, fd_SR_goDown_20, fd_SR_goDown_21]
  refine l2_goDown_loop F (fun g f => ?_) 8 0 _ rfl ((((am_fi.refl.sI (by decide)).sI (by decide)).sI (by decide)).sI (by decide))
  have q2 : am_kd g 2 = 1 := by rw [f.2.2.2.1]; exact s1
  have y1 : am_R g 2 1 = 21 := by rw [f.2.2.2.2.2.1]; exact r1
  have q21 : am_kd g 21 = 9 := by rw [f.2.2.2.1]; exact k21
  have y21 : am_I g 21 0 = nI P := by rw [f.2.2.2.2.2.2.1 21 (by decide), i21]; rfl
  have w21 : am_R g 21 1 = 22 := by rw [f.2.2.2.2.2.1, r21]; rfl
  have q22 : am_kd g 22 = 100 := by rw [f.2.2.2.1]; exact f22.1
  have l22 : am_ln g 22 = P := by rw [f.2.2.2.2.1]; exact f22.2.1
  refine am_go [] 3 ?_
  simp only [am_wp, am_stp, am_en, am_as, am_pad, am_nth, am_set, am_st1, am_st2, am_kl, am_kill, am_mem, am_fv, am_tk, am_wt, am_bk, Option.toList, List.cons_append, List.nil_append, Nat.reduceAdd, Nat.reduceEqDiff, Nat.reduceLeDiff, reduceIte, Nat.reduceLT, or_self, true_or, or_true, if_true, if_false, and_self, and_true, true_and, not_false_eq_true, not_true_eq_false, fd_SR_goDown_43, fd_SR_goDown_44, fd_SR_goDown_47, q2, y1, q21]
  refine am_call (l2_Sp_clear hPb q21 y21 w21 q22 l22) (fun o h1 q => ?_)
  obtain ⟨rfl, f2⟩ := q
  simp only [am_wp, am_stp, am_en, am_as, am_pad, am_nth, am_set, am_st1, am_st2, am_kl, am_kill, am_mem, am_fv, am_tk, am_wt, am_bk, Option.toList, List.cons_append, List.nil_append, Nat.reduceAdd, Nat.reduceEqDiff, Nat.reduceLeDiff, reduceIte, Nat.reduceLT, or_self, true_or, or_true, if_true, if_false, and_self, and_true, true_and, not_false_eq_true, not_true_eq_false]
  refine am_go [] 2 ?_
  simp only [am_wp, am_stp, am_en, am_as, am_pad, am_nth, am_set, am_st1, am_st2, am_kl, am_kill, am_mem, am_fv, am_tk, am_wt, am_bk, Option.toList, List.cons_append, List.nil_append, Nat.reduceAdd, Nat.reduceEqDiff, Nat.reduceLeDiff, reduceIte, Nat.reduceLT, or_self, true_or, or_true, if_true, if_false, and_self, and_true, true_and, not_false_eq_true, not_true_eq_false, fd_SR_goDown_50]
  exact (f.sub (fun q hq => by simp [hq])).trans (f2.sub (fun q hq => by simp at hq; rcases hq with e | e <;> simp [e]))
theorem l2_Mo_gd_1 {d : Nat} {h : am_H} {Q : am_O → am_H → Prop} (hS : mo_Sk h) (hx : ∀ g, am_fi [72, 77, 87, 88] h g → am_Ex nm_pr d mt_Mo_goDown (43, [.ref 72, .int (nI 8)], [], g) Q) : ∀ (n i : Nat) (g : am_H), n + i = 8 → am_fi [72, 77, 87, 88] h g →
    am_Ex nm_pr d mt_Mo_goDown (17, [.ref 72, .int (nI i)], [], g) Q
  | 0, i, g, hn, f => by
    have e : i = 8 := by omega
    subst e
    have hlt : ¬ (nI 8 < 8) := by decide
    refine am_go [23, 43] 4 ?_
    simp only [am_wp, am_stp, am_en, am_as, am_pad, am_nth, am_set, am_st1, am_st2, am_kl, am_kill, am_mem, am_fv, am_tk, am_wt, am_bk, Option.toList, List.cons_append, List.nil_append, Nat.reduceAdd, Nat.reduceEqDiff, Nat.reduceLeDiff, reduceIte, Nat.reduceLT, or_self, true_or, or_true, if_true, if_false, and_self, and_true, true_and, not_false_eq_true, not_true_eq_false, fd_Mo_goDown_17, fd_Mo_goDown_18, fd_Mo_goDown_20, hlt]
    exact hx g f
  | n + 1, i, g, hn, f => by
    obtain ⟨k72, rr, aa⟩ := id (hS.fi f)
    have r26 : am_R g 72 26 = 87 := (rr 26).trans rfl
    have k87 : am_kd g 87 = 103 := (aa 14 _ rfl).1
    have n87 : am_ln g 87 = 8 := (aa 14 _ rfl).2
    have r27 : am_R g 72 27 = 88 := (rr 27).trans rfl
    have k88 : am_kd g 88 = 100 := (aa 15 _ rfl).1
    have n88 : am_ln g 88 = 8 := (aa 15 _ rfl).2
    have hlt : nI i < 8 := nI_lt (b := 8) (by omega) (by decide)
    have i1 := am_inb (c := i) (N := 8) (by omega) (by omega)
    have c1 : (nI i).toNatClampNeg = i := nI_clamp (by omega)
    refine am_go [23, 43] 4 ?_
    simp only [am_wp, am_stp, am_en, am_as, am_pad, am_nth, am_set, am_st1, am_st2, am_kl, am_kill, am_mem, am_fv, am_tk, am_wt, am_bk, Option.toList, List.cons_append, List.nil_append, Nat.reduceAdd, Nat.reduceEqDiff, Nat.reduceLeDiff, reduceIte, Nat.reduceLT, or_self, true_or, or_true, if_true, if_false, and_self, and_true, true_and, not_false_eq_true, not_true_eq_false, fd_Mo_goDown_17, fd_Mo_goDown_18, fd_Mo_goDown_20, hlt]
    refine am_go [] 10 ?_
    simp only [am_wp, am_stp, am_en, am_as, am_pad, am_nth, am_set, am_st1, am_st2, am_kl, am_kill, am_mem, am_fv, am_tk, am_wt, am_bk, Option.toList, List.cons_append, List.nil_append, Nat.reduceAdd, Nat.reduceEqDiff, Nat.reduceLeDiff, reduceIte, Nat.reduceLT, or_self, true_or, or_true, if_true, if_false, and_self, and_true, true_and, not_false_eq_true, not_true_eq_false, fd_Mo_goDown_23, fd_Mo_goDown_24, fd_Mo_goDown_27, fd_Mo_goDown_28, fd_Mo_goDown_29, fd_Mo_goDown_30, fd_Mo_goDown_31, fd_Mo_goDown_34, fd_Mo_goDown_35, fd_Mo_goDown_36, hx_nx_sI, hx_ce_sI, hx_sl_sI, hx_kd_sI, hx_ln_sI, hx_I_sI, hx_L_sI, hx_R_sI, hx_nx_sL, hx_ce_sL, hx_sl_sL, hx_kd_sL, hx_ln_sL, hx_I_sL, hx_L_sL, hx_R_sL, hx_nx_sR, hx_ce_sR, hx_sl_sR, hx_kd_sR, hx_ln_sR, hx_I_sR, hx_L_sR, hx_R_sR, hx_nx_al, hx_ce_al, hx_sl_al, hx_kd_al, hx_ln_al, hx_I_al, hx_L_al, hx_R_al, hx_nx_row, hx_ce_row, hx_sl_row, hx_kd_row, hx_ln_row, hx_I_row, hx_L_row, hx_R_row, hx_nx_mk, hx_kd_mk, hx_ln_mk, hx_I_mk, hx_L_mk, hx_R_mk, k72, r26, k87, n87, r27, k88, n88, i1, c1]
    refine am_go [17] 3 ?_
    simp only [am_wp, am_stp, am_en, am_as, am_pad, am_nth, am_set, am_st1, am_st2, am_kl, am_kill, am_mem, am_fv, am_tk, am_wt, am_bk, Option.toList, List.cons_append, List.nil_append, Nat.reduceAdd, Nat.reduceEqDiff, Nat.reduceLeDiff, reduceIte, Nat.reduceLT, or_self, true_or, or_true, if_true, if_false, and_self, and_true, true_and, not_false_eq_true, not_true_eq_false, fd_Mo_goDown_37, fd_Mo_goDown_40, nI_1]
    exact l2_Mo_gd_1 hS hx n (i + 1) _ (by omega) ((f.sI (by simp)).sI (by simp))
theorem l2_Mo_gd_2 {d : Nat} {h : am_H} {Q : am_O → am_H → Prop} (hS : mo_Sk h) (hx : ∀ g, am_fi [72, 77, 87, 88] h g → Q (.inl none) g) : ∀ (n i : Nat) (g : am_H), n + i = 100 → am_fi [72, 77, 87, 88] h g →
    am_Ex nm_pr d mt_Mo_goDown (45, [.ref 72, .int (nI i)], [], g) Q
  | 0, i, g, hn, f => by
    have e : i = 100 := by omega
    subst e
    have hlt : ¬ (nI 100 < 100) := by decide
    refine am_go [51] 5 ?_
    simp only [am_wp, am_stp, am_en, am_as, am_pad, am_nth, am_set, am_st1, am_st2, am_kl, am_kill, am_mem, am_fv, am_tk, am_wt, am_bk, Option.toList, List.cons_append, List.nil_append, Nat.reduceAdd, Nat.reduceEqDiff, Nat.reduceLeDiff, reduceIte, Nat.reduceLT, or_self, true_or, or_true, if_true, if_false, and_self, and_true, true_and, not_false_eq_true, not_true_eq_false, fd_Mo_goDown_45, fd_Mo_goDown_46, fd_Mo_goDown_48, fd_Mo_goDown_64, hlt]
    exact hx g f
  | n + 1, i, g, hn, f => by
    obtain ⟨k72, rr, aa⟩ := id (hS.fi f)
    have r15 : am_R g 72 15 = 77 := (rr 15).trans rfl
    have k77 : am_kd g 77 = 100 := (aa 4 _ rfl).1
    have n77 : am_ln g 77 = 100 := (aa 4 _ rfl).2
    have hlt : nI i < 100 := nI_lt (b := 100) (by omega) (by decide)
    have i1 := am_inb (c := i) (N := 100) (by omega) (by omega)
    have c1 : (nI i).toNatClampNeg = i := nI_clamp (by omega)
    refine am_go [51, 64] 4 ?_
    simp only [am_wp, am_stp, am_en, am_as, am_pad, am_nth, am_set, am_st1, am_st2, am_kl, am_kill, am_mem, am_fv, am_tk, am_wt, am_bk, Option.toList, List.cons_append, List.nil_append, Nat.reduceAdd, Nat.reduceEqDiff, Nat.reduceLeDiff, reduceIte, Nat.reduceLT, or_self, true_or, or_true, if_true, if_false, and_self, and_true, true_and, not_false_eq_true, not_true_eq_false, fd_Mo_goDown_45, fd_Mo_goDown_46, fd_Mo_goDown_48, hlt]
    refine am_go [45] 8 ?_
    simp only [am_wp, am_stp, am_en, am_as, am_pad, am_nth, am_set, am_st1, am_st2, am_kl, am_kill, am_mem, am_fv, am_tk, am_wt, am_bk, Option.toList, List.cons_append, List.nil_append, Nat.reduceAdd, Nat.reduceEqDiff, Nat.reduceLeDiff, reduceIte, Nat.reduceLT, or_self, true_or, or_true, if_true, if_false, and_self, and_true, true_and, not_false_eq_true, not_true_eq_false, fd_Mo_goDown_51, fd_Mo_goDown_52, fd_Mo_goDown_55, fd_Mo_goDown_56, fd_Mo_goDown_57, fd_Mo_goDown_58, fd_Mo_goDown_61, k72, r15, k77, n77, i1, c1, nI_1]
    exact l2_Mo_gd_2 hS hx n (i + 1) _ (by omega) (f.sI (by simp))
theorem l2_Mo_goDown {d : Nat} {h : am_H} (hS : mo_Sk h) : am_Rt nm_pr (d + 1) mi_Mo_goDown [.ref 72] h (fun o h' => o = .inl none ∧ am_fi [72, 77, 87, 88] h h') := by
  refine am_in' mt_Mo_goDown 2 rfl rfl rfl ?_
  refine am_go [17] 12 ?_
  simp only [am_wp, am_stp, am_en, am_as, am_pad, am_nth, am_set, am_st1, am_st2, am_kl, am_kill, am_mem, am_fv, am_tk, am_wt, am_bk, Option.toList, List.cons_append, List.nil_append, Nat.reduceAdd, Nat.reduceEqDiff, Nat.reduceLeDiff, reduceIte, Nat.reduceLT, or_self, true_or, or_true, if_true, if_false, and_self, and_true, true_and, not_false_eq_true, not_true_eq_false, fd_Mo_goDown_0, fd_Mo_goDown_1, fd_Mo_goDown_2, fd_Mo_goDown_5, fd_Mo_goDown_6, fd_Mo_goDown_7, fd_Mo_goDown_10, fd_Mo_goDown_11, fd_Mo_goDown_12, fd_Mo_goDown_15, fd_Mo_goDown_16, hx_nx_sI, hx_ce_sI, hx_sl_sI, hx_kd_sI, hx_ln_sI, hx_I_sI, hx_L_sI, hx_R_sI, hx_nx_sL, hx_ce_sL, hx_sl_sL, hx_kd_sL, hx_ln_sL, hx_I_sL, hx_L_sL, hx_R_sL, hx_nx_sR, hx_ce_sR, hx_sl_sR, hx_kd_sR, hx_ln_sR, hx_I_sR, hx_L_sR, hx_R_sR, hx_nx_al, hx_ce_al, hx_sl_al, hx_kd_al, hx_ln_al, hx_I_al, hx_L_al, hx_R_al, hx_nx_row, hx_ce_row, hx_sl_row, hx_kd_row, hx_ln_row, hx_I_row, hx_L_row, hx_R_row, hx_nx_mk, hx_kd_mk, hx_ln_mk, hx_I_mk, hx_L_mk, hx_R_mk, hS.1]
  refine l2_Mo_gd_1 hS (fun g f => ?_) 8 0 _ rfl (((am_fi.refl.sI (by simp)).sI (by simp)).sI (by simp))
  refine am_go [45] 3 ?_
  simp only [am_wp, am_stp, am_en, am_as, am_pad, am_nth, am_set, am_st1, am_st2, am_kl, am_kill, am_mem, am_fv, am_tk, am_wt, am_bk, Option.toList, List.cons_append, List.nil_append, Nat.reduceAdd, Nat.reduceEqDiff, Nat.reduceLeDiff, reduceIte, Nat.reduceLT, or_self, true_or, or_true, if_true, if_false, and_self, and_true, true_and, not_false_eq_true, not_true_eq_false, fd_Mo_goDown_43, fd_Mo_goDown_44]
  exact l2_Mo_gd_2 hS (fun g f => ⟨rfl, f⟩) 100 0 g rfl f
theorem op_down (xs : Nat → Int32) : lw_op xs 1521 := by
  intro d h G
  obtain ⟨g1, g2, g3, g4, g5, g6, g7, g8, g9, g10⟩ := id G
  obtain ⟨s1, s2, s3⟩ := g4.2.2.2.2.2.2.2.2.2.2.2.2.2.2
  have i15 : am_I h 2 15 = 0 := by rw [s3]; rfl
  have j3 : am_I h 72 3 = 0 := by rw [g5.2.1]; rfl
  have hS := g5.Sk
  have o1 : (1 : Int32) = 0 ∨ (1 : Int32) = 1 := by decide
  refine am_go [] 2 ?_
  simp only [am_wp, am_stp, am_en, am_as, am_pad, am_nth, am_set, am_st1, am_st2, am_kl, am_kill, am_mem, am_fv, am_tk, am_wt, am_bk, Option.toList, List.cons_append, List.nil_append, Nat.reduceAdd, Nat.reduceEqDiff, Nat.reduceLeDiff, reduceIte, Nat.reduceLT, or_self, true_or, or_true, if_true, if_false, and_self, and_true, true_and, not_false_eq_true, not_true_eq_false, fd_La_law_1521, fd_La_law_1522, s1]
  refine am_call (Q := fun o h' => o = .inl (some (.int 1)) ∧ am_fi (21 :: 22 :: gd_S) h h') ?_ (fun o h1 q => ?_)
  · refine am_in' (d := d + 11) mt_SR_down 1 rfl rfl rfl ?_
    refine am_go [7] 5 ?_
    simp only [am_wp, am_stp, am_en, am_as, am_pad, am_nth, am_set, am_st1, am_st2, am_kl, am_kill, am_mem, am_fv, am_tk, am_wt, am_bk, Option.toList, List.cons_append, List.nil_append, Nat.reduceAdd, Nat.reduceEqDiff, Nat.reduceLeDiff, reduceIte, Nat.reduceLT, or_self, true_or, or_true, if_true, if_false, and_self, and_true, true_and, not_false_eq_true, not_true_eq_false, fd_SR_down_0, fd_SR_down_1, fd_SR_down_4, fd_SR_down_9, fd_SR_down_10, s1, i15]
    refine am_call (l2_SR_goDown g4) (fun o h1 q => ?_)
    obtain ⟨rfl, f⟩ := q
    simp only [am_wp, am_stp, am_en, am_as, am_pad, am_nth, am_set, am_st1, am_st2, am_kl, am_kill, am_mem, am_fv, am_tk, am_wt, am_bk, Option.toList, List.cons_append, List.nil_append, Nat.reduceAdd, Nat.reduceEqDiff, Nat.reduceLeDiff, reduceIte, Nat.reduceLT, or_self, true_or, or_true, if_true, if_false, and_self, and_true, true_and, not_false_eq_true, not_true_eq_false]
    refine am_go [] 3 ?_
    simp only [am_wp, am_stp, am_en, am_as, am_pad, am_nth, am_set, am_st1, am_st2, am_kl, am_kill, am_mem, am_fv, am_tk, am_wt, am_bk, Option.toList, List.cons_append, List.nil_append, Nat.reduceAdd, Nat.reduceEqDiff, Nat.reduceLeDiff, reduceIte, Nat.reduceLT, or_self, true_or, or_true, if_true, if_false, and_self, and_true, true_and, not_false_eq_true, not_true_eq_false, fd_SR_down_13, fd_SR_down_14, o1]
    exact f
  obtain ⟨rfl, f⟩ := q
  simp only [am_wp, am_stp, am_en, am_as, am_pad, am_nth, am_set, am_st1, am_st2, am_kl, am_kill, am_mem, am_fv, am_tk, am_wt, am_bk, Option.toList, List.cons_append, List.nil_append, Nat.reduceAdd, Nat.reduceEqDiff, Nat.reduceLeDiff, reduceIte, Nat.reduceLT, or_self, true_or, or_true, if_true, if_false, and_self, and_true, true_and, not_false_eq_true, not_true_eq_false]
  have S1 := hS.fi f
  have k72 := S1.1
  have y3 : am_I h1 72 3 = 0 := by rw [f.2.2.2.2.2.2.1 72 (by decide)]; exact j3
  refine am_go [] 2 ?_
  simp only [am_wp, am_stp, am_en, am_as, am_pad, am_nth, am_set, am_st1, am_st2, am_kl, am_kill, am_mem, am_fv, am_tk, am_wt, am_bk, Option.toList, List.cons_append, List.nil_append, Nat.reduceAdd, Nat.reduceEqDiff, Nat.reduceLeDiff, reduceIte, Nat.reduceLT, or_self, true_or, or_true, if_true, if_false, and_self, and_true, true_and, not_false_eq_true, not_true_eq_false, fd_La_law_1525, fd_La_law_1526, k72]
  refine am_call (Q := fun o h' => o = .inl (some (.int 1)) ∧ am_fi [72, 77, 87, 88] h1 h') ?_ (fun o h2 q => ?_)
  · refine am_in' (d := d + 11) mt_Mo_down 1 rfl rfl rfl ?_
    refine am_go [12, 14] 6 ?_
    simp only [am_wp, am_stp, am_en, am_as, am_pad, am_nth, am_set, am_st1, am_st2, am_kl, am_kill, am_mem, am_fv, am_tk, am_wt, am_bk, Option.toList, List.cons_append, List.nil_append, Nat.reduceAdd, Nat.reduceEqDiff, Nat.reduceLeDiff, reduceIte, Nat.reduceLT, or_self, true_or, or_true, if_true, if_false, and_self, and_true, true_and, not_false_eq_true, not_true_eq_false, fd_Mo_down_0, fd_Mo_down_1, fd_Mo_down_2, fd_Mo_down_5, fd_Mo_down_6, fd_Mo_down_9, hx_nx_sI, hx_ce_sI, hx_sl_sI, hx_kd_sI, hx_ln_sI, hx_I_sI, hx_L_sI, hx_R_sI, hx_nx_sL, hx_ce_sL, hx_sl_sL, hx_kd_sL, hx_ln_sL, hx_I_sL, hx_L_sL, hx_R_sL, hx_nx_sR, hx_ce_sR, hx_sl_sR, hx_kd_sR, hx_ln_sR, hx_I_sR, hx_L_sR, hx_R_sR, hx_nx_al, hx_ce_al, hx_sl_al, hx_kd_al, hx_ln_al, hx_I_al, hx_L_al, hx_R_al, hx_nx_row, hx_ce_row, hx_sl_row, hx_kd_row, hx_ln_row, hx_I_row, hx_L_row, hx_R_row, hx_nx_mk, hx_kd_mk, hx_ln_mk, hx_I_mk, hx_L_mk, hx_R_mk, k72, y3]
    refine am_go [] 2 ?_
    simp only [am_wp, am_stp, am_en, am_as, am_pad, am_nth, am_set, am_st1, am_st2, am_kl, am_kill, am_mem, am_fv, am_tk, am_wt, am_bk, Option.toList, List.cons_append, List.nil_append, Nat.reduceAdd, Nat.reduceEqDiff, Nat.reduceLeDiff, reduceIte, Nat.reduceLT, or_self, true_or, or_true, if_true, if_false, and_self, and_true, true_and, not_false_eq_true, not_true_eq_false, fd_Mo_down_14, fd_Mo_down_15, hx_nx_sI, hx_ce_sI, hx_sl_sI, hx_kd_sI, hx_ln_sI, hx_I_sI, hx_L_sI, hx_R_sI, hx_nx_sL, hx_ce_sL, hx_sl_sL, hx_kd_sL, hx_ln_sL, hx_I_sL, hx_L_sL, hx_R_sL, hx_nx_sR, hx_ce_sR, hx_sl_sR, hx_kd_sR, hx_ln_sR, hx_I_sR, hx_L_sR, hx_R_sR, hx_nx_al, hx_ce_al, hx_sl_al, hx_kd_al, hx_ln_al, hx_I_al, hx_L_al, hx_R_al, hx_nx_row, hx_ce_row, hx_sl_row, hx_kd_row, hx_ln_row, hx_I_row, hx_L_row, hx_R_row, hx_nx_mk, hx_kd_mk, hx_ln_mk, hx_I_mk, hx_L_mk, hx_R_mk, k72]
    refine am_call (l2_Mo_goDown S1.sI) (fun o h3 q => ?_)
    obtain ⟨rfl, f2⟩ := q
    simp only [am_wp, am_stp, am_en, am_as, am_pad, am_nth, am_set, am_st1, am_st2, am_kl, am_kill, am_mem, am_fv, am_tk, am_wt, am_bk, Option.toList, List.cons_append, List.nil_append, Nat.reduceAdd, Nat.reduceEqDiff, Nat.reduceLeDiff, reduceIte, Nat.reduceLT, or_self, true_or, or_true, if_true, if_false, and_self, and_true, true_and, not_false_eq_true, not_true_eq_false]
    refine am_go [] 3 ?_
    simp only [am_wp, am_stp, am_en, am_as, am_pad, am_nth, am_set, am_st1, am_st2, am_kl, am_kill, am_mem, am_fv, am_tk, am_wt, am_bk, Option.toList, List.cons_append, List.nil_append, Nat.reduceAdd, Nat.reduceEqDiff, Nat.reduceLeDiff, reduceIte, Nat.reduceLT, or_self, true_or, or_true, if_true, if_false, and_self, and_true, true_and, not_false_eq_true, not_true_eq_false, fd_Mo_down_18, fd_Mo_down_19, o1]
    exact (am_fi.refl.sI (by simp)).trans f2
  obtain ⟨rfl, f2⟩ := q
  simp only [am_wp, am_stp, am_en, am_as, am_pad, am_nth, am_set, am_st1, am_st2, am_kl, am_kill, am_mem, am_fv, am_tk, am_wt, am_bk, Option.toList, List.cons_append, List.nil_append, Nat.reduceAdd, Nat.reduceEqDiff, Nat.reduceLeDiff, reduceIte, Nat.reduceLT, or_self, true_or, or_true, if_true, if_false, and_self, and_true, true_and, not_false_eq_true, not_true_eq_false]
  refine am_go [1532, 1634] 1 ?_
  simp only [am_wp, am_stp, am_en, am_as, am_pad, am_nth, am_set, am_st1, am_st2, am_kl, am_kill, am_mem, am_fv, am_tk, am_wt, am_bk, Option.toList, List.cons_append, List.nil_append, Nat.reduceAdd, Nat.reduceEqDiff, Nat.reduceLeDiff, reduceIte, Nat.reduceLT, or_self, true_or, or_true, if_true, if_false, and_self, and_true, true_and, not_false_eq_true, not_true_eq_false, fd_La_law_1529]
  have e1 : am_fi ([72, 77, 87, 88] ++ (21 :: 22 :: gd_S)) h h1 := f.sub (fun q hq => List.mem_append.mpr (Or.inr hq))
  have e2 : am_fi ([72, 77, 87, 88] ++ (21 :: 22 :: gd_S)) h1 h2 := f2.sub (fun q hq => List.mem_append.mpr (Or.inl hq))
  exact lw_fi G (e1.trans e2)
