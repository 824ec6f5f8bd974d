/-! LISTS OF RUNS, WEAKLY, 2 -/
theorem ww_drop_loop {d P c : Nat} {lf : Int32} {h : am_H} {Q : am_O → am_H → Prop} (hc : c ≤ 9) (hx : ∀ (g : am_H) (v : Int32), wp P 0 h g → am_Ex nm_pr d mt_RunList_dropFirst (42, [.ref 8, .int (nI c), .int lf, .int v], [], g) Q) : ∀ (m i : Nat) (g : am_H), m + i = 10 → wp P 0 h g →
    am_Ex nm_pr d mt_RunList_dropFirst (9, [.ref 8, .int (nI c), .int lf, .int (nI i)], [], g) Q
  | m, i, g, hm, w => by
    have ht : wl 8 := Or.inl rfl
    obtain ⟨k1, k2, k3, k4, k5, k6, n, hn, k7⟩ := w.1.lst ht
    have n1 : (200 ≤ 200 ∧ 200 < 204) := by decide
    refine am_go [14, 42] 3 ?_
    simp only [am_wp, am_stp, am_en, am_as, am_pad, am_nth, am_set, am_st1, am_st2, am_kl, am_kill, am_mem, am_fv, am_tk, am_wt, am_bk, Option.toList, List.cons_append, List.nil_append, Nat.reduceAdd, Nat.reduceEqDiff, Nat.reduceLeDiff, reduceIte, Nat.reduceLT, or_self, true_or, or_true, if_true, if_false, and_self, and_true, true_and, not_false_eq_true, not_true_eq_false, fd_RunList_dropFirst_9, fd_RunList_dropFirst_10, fd_RunList_dropFirst_11]
    refine wif ?_ (hx g _ w)
    refine am_go [22, 42] 5 ?_
    simp only [am_wp, am_stp, am_en, am_as, am_pad, am_nth, am_set, am_st1, am_st2, am_kl, am_kill, am_mem, am_fv, am_tk, am_wt, am_bk, Option.toList, List.cons_append, List.nil_append, Nat.reduceAdd, Nat.reduceEqDiff, Nat.reduceLeDiff, reduceIte, Nat.reduceLT, or_self, true_or, or_true, if_true, if_false, and_self, and_true, true_and, not_false_eq_true, not_true_eq_false, fd_RunList_dropFirst_14, fd_RunList_dropFirst_15, fd_RunList_dropFirst_16, fd_RunList_dropFirst_17, fd_RunList_dropFirst_19, nI_add]
    by_cases e : i + c < 9
    · have l9 : nI (i + c) < 9 := nI_lt (b := 9) e (by decide)
      have i1 := am_inb (c := i + c) (N := 9) e (by omega)
      have q1 : (nI (i + c)).toNatClampNeg = i + c := nI_clamp (by omega)
      have i2 := am_inb (c := i) (N := 9) (by omega) (by omega)
      have q2 : (nI i).toNatClampNeg = i := nI_clamp (by omega)
      have r := w.1.ru 9 (i + c) k5 e
      simp only [l9, am_wp, am_stp, am_en, am_as, am_pad, am_nth, am_set, am_st1, am_st2, am_kl, am_kill, am_mem, am_fv, am_tk, am_wt, am_bk, Option.toList, List.cons_append, List.nil_append, Nat.reduceAdd, Nat.reduceEqDiff, Nat.reduceLeDiff, reduceIte, Nat.reduceLT, or_self, true_or, or_true, if_true, if_false, and_self, and_true, true_and, not_false_eq_true, not_true_eq_false]
      refine am_go [] 9 ?_
      simp only [am_wp, am_stp, am_en, am_as, am_pad, am_nth, am_set, am_st1, am_st2, am_kl, am_kill, am_mem, am_fv, am_tk, am_wt, am_bk, Option.toList, List.cons_append, List.nil_append, Nat.reduceAdd, Nat.reduceEqDiff, Nat.reduceLeDiff, reduceIte, Nat.reduceLT, or_self, true_or, or_true, if_true, if_false, and_self, and_true, true_and, not_false_eq_true, not_true_eq_false, fd_RunList_dropFirst_22, fd_RunList_dropFirst_23, fd_RunList_dropFirst_26, fd_RunList_dropFirst_27, fd_RunList_dropFirst_28, fd_RunList_dropFirst_31, fd_RunList_dropFirst_32, fd_RunList_dropFirst_33, fd_RunList_dropFirst_34, k1, k2, k3, k4, n1, nI_add, i1, q1]
      refine am_go [9] 3 ?_
      simp only [am_wp, am_stp, am_en, am_as, am_pad, am_nth, am_set, am_st1, am_st2, am_kl, am_kill, am_mem, am_fv, am_tk, am_wt, am_bk, Option.toList, List.cons_append, List.nil_append, Nat.reduceAdd, Nat.reduceEqDiff, Nat.reduceLeDiff, reduceIte, Nat.reduceLT, or_self, true_or, or_true, if_true, if_false, and_self, and_true, true_and, not_false_eq_true, not_true_eq_false, fd_RunList_dropFirst_35, fd_RunList_dropFirst_36, fd_RunList_dropFirst_39, k3, k4, r.1, i2, q2, nI_1]
      cases m with
      | zero => omega
      | succ m => exact ww_drop_loop hc hx m (i + 1) _ (by omega) (w.sR k5 r)
    · have l9 : ¬ nI (i + c) < 9 := nI_nlt (b := 9) (by omega) (by omega)
      simp only [l9, am_wp, am_stp, am_en, am_as, am_pad, am_nth, am_set, am_st1, am_st2, am_kl, am_kill, am_mem, am_fv, am_tk, am_wt, am_bk, Option.toList, List.cons_append, List.nil_append, Nat.reduceAdd, Nat.reduceEqDiff, Nat.reduceLeDiff, reduceIte, Nat.reduceLT, or_self, true_or, or_true, if_true, if_false, and_self, and_true, true_and, not_false_eq_true, not_true_eq_false]
      exact hx g _ w
theorem wn_max {n c : Nat} (hn : n ≤ 9) (hc : c ≤ 9) : ∃ k, k ≤ 9 ∧ am_mx 0 (nI n - nI c) = nI k := by
  by_cases e : c ≤ n
  · rw [nI_sub e]
    refine ⟨n - c, by omega, ?_⟩
    unfold am_mx
    by_cases e0 : n - c = 0
    · rw [e0]; rfl
    · rw [if_pos (nI_gt0 (by omega) (by omega))]
  · refine ⟨0, by omega, ?_⟩
    have h : ∀ n c : Fin 10, n.val < c.val → am_mx 0 (nI n.val - nI c.val) = nI 0 := by decide
    exact h ⟨n, by omega⟩ ⟨c, by omega⟩ (by simp; omega)
theorem ww_dropFirst {d P c : Nat} {h : am_H} (w : wk P h) (hc : c ≤ 9) : am_Rt nm_pr (d + 1) mi_RunList_dropFirst [.ref 8, .int (nI c)] h (fun o h' => o = .inl none ∧ wp P 0 h h') := by
  have ht : wl 8 := Or.inl rfl
  obtain ⟨k1, k2, k3, k4, k5, k6, n, hn, k7⟩ := w.lst ht
  obtain ⟨k, hk, ek⟩ := wn_max hn hc
  refine am_in' mt_RunList_dropFirst 4 rfl rfl rfl ?_
  refine am_go [9] 7 ?_
  simp only [am_wp, am_stp, am_en, am_as, am_pad, am_nth, am_set, am_st1, am_st2, am_kl, am_kill, am_mem, am_fv, am_tk, am_wt, am_bk, Option.toList, List.cons_append, List.nil_append, Nat.reduceAdd, Nat.reduceEqDiff, Nat.reduceLeDiff, reduceIte, Nat.reduceLT, or_self, true_or, or_true, if_true, if_false, and_self, and_true, true_and, not_false_eq_true, not_true_eq_false, fd_RunList_dropFirst_0, fd_RunList_dropFirst_1, fd_RunList_dropFirst_4, fd_RunList_dropFirst_5, fd_RunList_dropFirst_6, fd_RunList_dropFirst_7, fd_RunList_dropFirst_8, k1, k7]
  refine ww_drop_loop hc (fun g v wg => ?_) 10 0 h rfl (wp.refl w)
  have g1 := (wg.1.lst ht).1
  refine am_go [] 6 ?_
  simp only [am_wp, am_stp, am_en, am_as, am_pad, am_nth, am_set, am_st1, am_st2, am_kl, am_kill, am_mem, am_fv, am_tk, am_wt, am_bk, Option.toList, List.cons_append, List.nil_append, Nat.reduceAdd, Nat.reduceEqDiff, Nat.reduceLeDiff, reduceIte, Nat.reduceLT, or_self, true_or, or_true, if_true, if_false, and_self, and_true, true_and, not_false_eq_true, not_true_eq_false, fd_RunList_dropFirst_42, fd_RunList_dropFirst_43, fd_RunList_dropFirst_44, fd_RunList_dropFirst_45, fd_RunList_dropFirst_48, fd_RunList_dropFirst_51, g1, ek]
  exact wg.sI k6 (fun e => absurd e (by decide)) (wcell_size hk ht)
theorem ww_keep_loop {d P t : Nat} {h : am_H} (ht : wl t) : ∀ (m i : Nat) (g : am_H), m + i = 9 → wp P 0 h g →
    am_Ex nm_pr (d + 1) mt_RunList_keep (12, [.ref t, .ref 8, .int (nI i)], [], g) (fun o h' => o = .inl none ∧ wp P 0 h h')
  | m, i, g, hm, w => by
    obtain ⟨k1, k2, k3, k4, k5, k6, n, hn, k7⟩ := w.1.lst (Or.inl rfl : wl 8)
    have j1 := (w.1.lst ht).1
    have n1 : (200 ≤ 200 ∧ 200 < 204) := by decide
    have fin : am_Ex nm_pr (d + 1) mt_RunList_keep (42, [.ref t, .ref 8, .int (nI i)], [], g) (fun o h' => o = .inl none ∧ wp P 0 h h') := by
      refine am_go [] 2 ?_
      simp only [am_wp, am_stp, am_en, am_as, am_pad, am_nth, am_set, am_st1, am_st2, am_kl, am_kill, am_mem, am_fv, am_tk, am_wt, am_bk, Option.toList, List.cons_append, List.nil_append, Nat.reduceAdd, Nat.reduceEqDiff, Nat.reduceLeDiff, reduceIte, Nat.reduceLT, or_self, true_or, or_true, if_true, if_false, and_self, and_true, true_and, not_false_eq_true, not_true_eq_false, fd_RunList_keep_42]
      exact w
    refine am_go [20, 42] 4 ?_
    simp only [am_wp, am_stp, am_en, am_as, am_pad, am_nth, am_set, am_st1, am_st2, am_kl, am_kill, am_mem, am_fv, am_tk, am_wt, am_bk, Option.toList, List.cons_append, List.nil_append, Nat.reduceAdd, Nat.reduceEqDiff, Nat.reduceLeDiff, reduceIte, Nat.reduceLT, or_self, true_or, or_true, if_true, if_false, and_self, and_true, true_and, not_false_eq_true, not_true_eq_false, fd_RunList_keep_12, fd_RunList_keep_13, fd_RunList_keep_14, fd_RunList_keep_17, k1, k7]
    refine wif ?_ fin
    cases m with
    | zero =>
      have e : i = 9 := by omega
      subst e
      have l9 : ¬ nI 9 < 9 := by decide
      refine am_go [26, 42] 3 ?_
      simp only [am_wp, am_stp, am_en, am_as, am_pad, am_nth, am_set, am_st1, am_st2, am_kl, am_kill, am_mem, am_fv, am_tk, am_wt, am_bk, Option.toList, List.cons_append, List.nil_append, Nat.reduceAdd, Nat.reduceEqDiff, Nat.reduceLeDiff, reduceIte, Nat.reduceLT, or_self, true_or, or_true, if_true, if_false, and_self, and_true, true_and, not_false_eq_true, not_true_eq_false, fd_RunList_keep_20, fd_RunList_keep_21, fd_RunList_keep_23, l9]
      exact fin
    | succ m =>
      have l9 : nI i < 9 := nI_lt (b := 9) (by omega) (by decide)
      have i2 := am_inb (c := i) (N := 9) (by omega) (by omega)
      have q2 : (nI i).toNatClampNeg = i := nI_clamp (by omega)
      have r := w.1.ru 9 i k5 (by omega)
      refine am_go [26, 42] 3 ?_
      simp only [am_wp, am_stp, am_en, am_as, am_pad, am_nth, am_set, am_st1, am_st2, am_kl, am_kill, am_mem, am_fv, am_tk, am_wt, am_bk, Option.toList, List.cons_append, List.nil_append, Nat.reduceAdd, Nat.reduceEqDiff, Nat.reduceLeDiff, reduceIte, Nat.reduceLT, or_self, true_or, or_true, if_true, if_false, and_self, and_true, true_and, not_false_eq_true, not_true_eq_false, fd_RunList_keep_20, fd_RunList_keep_21, fd_RunList_keep_23, l9]
      refine am_go [] 6 ?_
      simp only [am_wp, am_stp, am_en, am_as, am_pad, am_nth, am_set, am_st1, am_st2, am_kl, am_kill, am_mem, am_fv, am_tk, am_wt, am_bk, Option.toList, List.cons_append, List.nil_append, Nat.reduceAdd, Nat.reduceEqDiff, Nat.reduceLeDiff, reduceIte, Nat.reduceLT, or_self, true_or, or_true, if_true, if_false, and_self, and_true, true_and, not_false_eq_true, not_true_eq_false, fd_RunList_keep_26, fd_RunList_keep_27, fd_RunList_keep_28, fd_RunList_keep_31, fd_RunList_keep_32, fd_RunList_keep_33, k1, k2, k3, k4, n1, i2, q2, j1]
      refine am_call (ww_putLast w.1 ht r) (fun o g' q => ?_)
      obtain ⟨rfl, q2⟩ := q
      simp only [am_wp, am_stp, am_en, am_as, am_pad, am_nth, am_set, am_st1, am_st2, am_kl, am_kill, am_mem, am_fv, am_tk, am_wt, am_bk, Option.toList, List.cons_append, List.nil_append, Nat.reduceAdd, Nat.reduceEqDiff, Nat.reduceLeDiff, reduceIte, Nat.reduceLT, or_self, true_or, or_true, if_true, if_false, and_self, and_true, true_and, not_false_eq_true, not_true_eq_false]
      refine am_go [12] 2 ?_
      simp only [am_wp, am_stp, am_en, am_as, am_pad, am_nth, am_set, am_st1, am_st2, am_kl, am_kill, am_mem, am_fv, am_tk, am_wt, am_bk, Option.toList, List.cons_append, List.nil_append, Nat.reduceAdd, Nat.reduceEqDiff, Nat.reduceLeDiff, reduceIte, Nat.reduceLT, or_self, true_or, or_true, if_true, if_false, and_self, and_true, true_and, not_false_eq_true, not_true_eq_false, fd_RunList_keep_36, fd_RunList_keep_39, nI_1]
      exact ww_keep_loop ht m (i + 1) g' (by omega) ((w.trans q2).mono (by omega))
theorem ww_keep {d P t : Nat} {h : am_H} (w : wk P h) (ht : wl t) : am_Rt nm_pr (d + 2) mi_RunList_keep [.ref t, .ref 8] h (fun o h' => o = .inl none ∧ wp P 0 h h') := by
  obtain ⟨k1, k2, k3, k4, k5, k6, n, hn, k7⟩ := w.lst ht
  have t3 : t ≠ 3 := by unfold wl at ht; omega
  refine am_in' (d := d + 1) mt_RunList_keep 3 rfl rfl rfl ?_
  have w1 := ((wp.refl w).sI (j := 2) (v := 1) k6 (fun e => absurd e t3) (wcell_list ht (by decide))).sI (j := 1) (v := 0) k6 (fun e => absurd e t3) (wcell_size (n := 0) (by omega) ht)
  have o11 : (1 : Int32) &&& 1 = 1 := by decide
  refine am_go [12] 8 ?_
  simp only [am_wp, am_stp, am_en, am_as, am_pad, am_nth, am_set, am_st1, am_st2, am_kl, am_kill, am_mem, am_fv, am_tk, am_wt, am_bk, Option.toList, List.cons_append, List.nil_append, Nat.reduceAdd, Nat.reduceEqDiff, Nat.reduceLeDiff, reduceIte, Nat.reduceLT, or_self, true_or, or_true, if_true, if_false, and_self, and_true, true_and, not_false_eq_true, not_true_eq_false, fd_RunList_keep_0, fd_RunList_keep_1, fd_RunList_keep_2, fd_RunList_keep_5, fd_RunList_keep_6, fd_RunList_keep_7, fd_RunList_keep_10, fd_RunList_keep_11, hx_nx_sI, hx_ce_sI, hx_sl_sI, hx_kd_sI, hx_ln_sI, hx_I_sI, hx_L_sI, hx_R_sI, hx_nx_sL, hx_ce_sL, hx_sl_sL, hx_kd_sL, hx_ln_sL, hx_I_sL, hx_L_sL, hx_R_sL, hx_nx_sR, hx_ce_sR, hx_sl_sR, hx_kd_sR, hx_ln_sR, hx_I_sR, hx_L_sR, hx_R_sR, hx_nx_al, hx_ce_al, hx_sl_al, hx_kd_al, hx_ln_al, hx_I_al, hx_L_al, hx_R_al, hx_nx_row, hx_ce_row, hx_sl_row, hx_kd_row, hx_ln_row, hx_I_row, hx_L_row, hx_R_row, hx_nx_mk, hx_kd_mk, hx_ln_mk, hx_I_mk, hx_L_mk, hx_R_mk, k1, o11]
  exact ww_keep_loop ht 9 0 _ rfl w1
/-- a new run -/
theorem wp.new {P : Nat} {n l : Int32} {h : am_H} (w : wk P h) : wp P 1 h (nr_H h n l) ∧ ruh (nr_H h n l) (am_nx h) := by
  have h9 : 109 ≤ am_nx h := w.1.2.2.2.2.2.2.1
  have X := nr_lo (n := n) (l := l) h9
  have nx1 : am_nx (nr_H h n l) = am_nx h + 2 := by unfold nr_H; simp only [hx_nx_sI, hx_ce_sI, hx_sl_sI, hx_kd_sI, hx_ln_sI, hx_I_sI, hx_L_sI, hx_R_sI, hx_nx_sL, hx_ce_sL, hx_sl_sL, hx_kd_sL, hx_ln_sL, hx_I_sL, hx_L_sL, hx_R_sL, hx_nx_sR, hx_ce_sR, hx_sl_sR, hx_kd_sR, hx_ln_sR, hx_I_sR, hx_L_sR, hx_R_sR, hx_nx_al, hx_ce_al, hx_sl_al, hx_kd_al, hx_ln_al, hx_I_al, hx_L_al, hx_R_al, hx_nx_row, hx_ce_row, hx_sl_row, hx_kd_row, hx_ln_row, hx_I_row, hx_L_row, hx_R_row, hx_nx_mk, hx_kd_mk, hx_ln_mk, hx_I_mk, hx_L_mk, hx_R_mk]
  have ce1 : am_ce (nr_H h n l) = am_ce h + 2 := rfl
  have sl1 : am_sl (nr_H h n l) = am_sl h + 17 := rfl
  have q5 : am_kd (nr_H h n l) (am_nx h) = 5 := by unfold nr_H; simp only [hx_nx_sI, hx_ce_sI, hx_sl_sI, hx_kd_sI, hx_ln_sI, hx_I_sI, hx_L_sI, hx_R_sI, hx_nx_sL, hx_ce_sL, hx_sl_sL, hx_kd_sL, hx_ln_sL, hx_I_sL, hx_L_sL, hx_R_sL, hx_nx_sR, hx_ce_sR, hx_sl_sR, hx_kd_sR, hx_ln_sR, hx_I_sR, hx_L_sR, hx_R_sR, hx_nx_al, hx_ce_al, hx_sl_al, hx_kd_al, hx_ln_al, hx_I_al, hx_L_al, hx_R_al, hx_nx_row, hx_ce_row, hx_sl_row, hx_kd_row, hx_ln_row, hx_I_row, hx_L_row, hx_R_row, hx_nx_mk, hx_kd_mk, hx_ln_mk, hx_I_mk, hx_L_mk, hx_R_mk, am_wp, am_stp, am_en, am_as, am_pad, am_nth, am_set, am_st1, am_st2, am_kl, am_kill, am_mem, am_fv, am_tk, am_wt, am_bk, Option.toList, List.cons_append, List.nil_append, Nat.reduceAdd, Nat.reduceEqDiff, Nat.reduceLeDiff, reduceIte, Nat.reduceLT, or_self, true_or, or_true, if_true, if_false, and_self, and_true, true_and, not_false_eq_true, not_true_eq_false]; simp
  have q2 : am_R (nr_H h n l) (am_nx h) 2 = am_nx h + 1 := by unfold nr_H; simp only [hx_nx_sI, hx_ce_sI, hx_sl_sI, hx_kd_sI, hx_ln_sI, hx_I_sI, hx_L_sI, hx_R_sI, hx_nx_sL, hx_ce_sL, hx_sl_sL, hx_kd_sL, hx_ln_sL, hx_I_sL, hx_L_sL, hx_R_sL, hx_nx_sR, hx_ce_sR, hx_sl_sR, hx_kd_sR, hx_ln_sR, hx_I_sR, hx_L_sR, hx_R_sR, hx_nx_al, hx_ce_al, hx_sl_al, hx_kd_al, hx_ln_al, hx_I_al, hx_L_al, hx_R_al, hx_nx_row, hx_ce_row, hx_sl_row, hx_kd_row, hx_ln_row, hx_I_row, hx_L_row, hx_R_row, hx_nx_mk, hx_kd_mk, hx_ln_mk, hx_I_mk, hx_L_mk, hx_R_mk, am_wp, am_stp, am_en, am_as, am_pad, am_nth, am_set, am_st1, am_st2, am_kl, am_kill, am_mem, am_fv, am_tk, am_wt, am_bk, Option.toList, List.cons_append, List.nil_append, Nat.reduceAdd, Nat.reduceEqDiff, Nat.reduceLeDiff, reduceIte, Nat.reduceLT, or_self, true_or, or_true, if_true, if_false, and_self, and_true, true_and, not_false_eq_true, not_true_eq_false]
  have q101 : am_kd (nr_H h n l) (am_nx h + 1) = 101 := by unfold nr_H; simp only [hx_nx_sI, hx_ce_sI, hx_sl_sI, hx_kd_sI, hx_ln_sI, hx_I_sI, hx_L_sI, hx_R_sI, hx_nx_sL, hx_ce_sL, hx_sl_sL, hx_kd_sL, hx_ln_sL, hx_I_sL, hx_L_sL, hx_R_sL, hx_nx_sR, hx_ce_sR, hx_sl_sR, hx_kd_sR, hx_ln_sR, hx_I_sR, hx_L_sR, hx_R_sR, hx_nx_al, hx_ce_al, hx_sl_al, hx_kd_al, hx_ln_al, hx_I_al, hx_L_al, hx_R_al, hx_nx_row, hx_ce_row, hx_sl_row, hx_kd_row, hx_ln_row, hx_I_row, hx_L_row, hx_R_row, hx_nx_mk, hx_kd_mk, hx_ln_mk, hx_I_mk, hx_L_mk, hx_R_mk, am_wp, am_stp, am_en, am_as, am_pad, am_nth, am_set, am_st1, am_st2, am_kl, am_kill, am_mem, am_fv, am_tk, am_wt, am_bk, Option.toList, List.cons_append, List.nil_append, Nat.reduceAdd, Nat.reduceEqDiff, Nat.reduceLeDiff, reduceIte, Nat.reduceLT, or_self, true_or, or_true, if_true, if_false, and_self, and_true, true_and, not_false_eq_true, not_true_eq_false]
  have q8 : am_ln (nr_H h n l) (am_nx h + 1) = 8 := by unfold nr_H; simp only [hx_nx_sI, hx_ce_sI, hx_sl_sI, hx_kd_sI, hx_ln_sI, hx_I_sI, hx_L_sI, hx_R_sI, hx_nx_sL, hx_ce_sL, hx_sl_sL, hx_kd_sL, hx_ln_sL, hx_I_sL, hx_L_sL, hx_R_sL, hx_nx_sR, hx_ce_sR, hx_sl_sR, hx_kd_sR, hx_ln_sR, hx_I_sR, hx_L_sR, hx_R_sR, hx_nx_al, hx_ce_al, hx_sl_al, hx_kd_al, hx_ln_al, hx_I_al, hx_L_al, hx_R_al, hx_nx_row, hx_ce_row, hx_sl_row, hx_kd_row, hx_ln_row, hx_I_row, hx_L_row, hx_R_row, hx_nx_mk, hx_kd_mk, hx_ln_mk, hx_I_mk, hx_L_mk, hx_R_mk, am_wp, am_stp, am_en, am_as, am_pad, am_nth, am_set, am_st1, am_st2, am_kl, am_kill, am_mem, am_fv, am_tk, am_wt, am_bk, Option.toList, List.cons_append, List.nil_append, Nat.reduceAdd, Nat.reduceEqDiff, Nat.reduceLeDiff, reduceIte, Nat.reduceLT, or_self, true_or, or_true, if_true, if_false, and_self, and_true, true_and, not_false_eq_true, not_true_eq_false]
  generalize nr_H h n l = g at *
  have sm : ∀ a, a < am_nx h → am_kd g a = am_kd h a ∧ am_ln g a = am_ln h a ∧ am_I g a = am_I h a ∧ am_L g a = am_L h a ∧ am_R g a = am_R h a := X
  obtain ⟨w1, w2, n3, t1, t2, t3⟩ := w
  refine ⟨⟨⟨w1.up (fun q hq => (sm q hq).1) (fun q hq => (sm q hq).2.1) (fun q hq => (sm q hq).2.2.2.2) (by omega), fun a j => ?_, n3, ?_, t2, ?_⟩, fun a ha => sm a (by omega), by omega, by omega, by omega, fun a ka ra => ?_⟩, ?_⟩
  · by_cases e : a < am_nx h
    · rw [(sm a e).2.2.1]; exact w2 a j
    · exact wcell_free (by simp; omega) (by omega)
  · rw [(sm 3 (by omega)).2.2.1]; exact t1
  · rw [(sm 4 (by omega)).2.2.2.1]; exact t3
  · exact ra.up (fun q hq => (sm q hq).1) (fun q hq => (sm q hq).2.1) (by rw [(sm a ra.2.2.2.2.2.1).2.2.2.2]) (by omega)
  · unfold ruh ru0
    rw [q2]
    exact ⟨q5, q101, q8, Or.inr h9, Or.inr (by omega), by omega, by omega, by omega⟩
