/-! THE LAW, UP TO ITS LOOP; WHAT THE LOOP KEEPS -/
theorem l2_cell {d L : Nat} {xs : Nat → Int32} {h : am_H} (hk : am_kd h 1 = 99) (hl : am_ln h 1 = L) (hI : am_I h 1 = xs) (hL : L ≤ 3585) : am_Rt nm_pr (d + 1) mi_La_cell [.ref 1, .int 0] h (fun o h' => o = .inl (some (.int (if 0 < L then xs 0 else 0))) ∧ h' = h) := by
  refine am_in' mt_La_cell 2 rfl rfl rfl ?_
  refine am_go [6, 12] 4 ?_
  have n1 : ¬ (99 = 100) := by decide
  have n2 : ¬ (99 = 102) := by decide
  by_cases e : 0 < L
  · have h1 : (0 : Int32) < L.toInt32 := nI_lt (a := 0) e (by omega)
    have h2 : ¬ ((0 : Int32) < 0 ∨ L ≤ (0 : Int32).toNatClampNeg) := by
      have : (0 : Int32).toNatClampNeg = 0 := by decide
      rw [this]
      rintro (q | q)
      · exact absurd q (by decide)
      · omega
    have h3 : (0 : Int32).toNatClampNeg = 0 := by decide
    simp only [am_wp, am_stp, am_en, am_as, am_pad, am_nth, am_set, am_st1, am_st2, am_kl, am_kill, am_mem, am_fv, am_tk, am_wt, am_bk, Option.toList, List.cons_append, List.nil_append, Nat.reduceAdd, Nat.reduceEqDiff, Nat.reduceLeDiff, reduceIte, Nat.reduceLT, or_self, true_or, or_true, if_true, if_false, and_self, and_true, true_and, not_false_eq_true, not_true_eq_false, fd_La_cell_0, fd_La_cell_1, fd_La_cell_2, fd_La_cell_3, hk, hl, n1, n2, h1]
    refine am_go [] 10 ?_
    simp only [am_wp, am_stp, am_en, am_as, am_pad, am_nth, am_set, am_st1, am_st2, am_kl, am_kill, am_mem, am_fv, am_tk, am_wt, am_bk, Option.toList, List.cons_append, List.nil_append, Nat.reduceAdd, Nat.reduceEqDiff, Nat.reduceLeDiff, reduceIte, Nat.reduceLT, or_self, true_or, or_true, if_true, if_false, and_self, and_true, true_and, not_false_eq_true, not_true_eq_false, fd_La_cell_6, fd_La_cell_7, fd_La_cell_8, fd_La_cell_9, fd_La_cell_12, fd_La_cell_13, hk, hl, n1, n2, h2]
    rw [h3, hI, if_pos e]
  · have h1 : ¬ ((0 : Int32) < L.toInt32) := nI_nlt (a := 0) (b := L) (by omega) (by omega)
    simp only [am_wp, am_stp, am_en, am_as, am_pad, am_nth, am_set, am_st1, am_st2, am_kl, am_kill, am_mem, am_fv, am_tk, am_wt, am_bk, Option.toList, List.cons_append, List.nil_append, Nat.reduceAdd, Nat.reduceEqDiff, Nat.reduceLeDiff, reduceIte, Nat.reduceLT, or_self, true_or, or_true, if_true, if_false, and_self, and_true, true_and, not_false_eq_true, not_true_eq_false, fd_La_cell_0, fd_La_cell_1, fd_La_cell_2, fd_La_cell_3, hk, hl, n1, n2, h1]
    refine am_go [] 10 ?_
    simp only [am_wp, am_stp, am_en, am_as, am_pad, am_nth, am_set, am_st1, am_st2, am_kl, am_kill, am_mem, am_fv, am_tk, am_wt, am_bk, Option.toList, List.cons_append, List.nil_append, Nat.reduceAdd, Nat.reduceEqDiff, Nat.reduceLeDiff, reduceIte, Nat.reduceLT, or_self, true_or, or_true, if_true, if_false, and_self, and_true, true_and, not_false_eq_true, not_true_eq_false, fd_La_cell_12, fd_La_cell_13]
    rw [if_neg e]
/-- the first int of the script -/
def sc_0 (L : Nat) (xs : Nat → Int32) : Int32 := if 0 < L then xs 0 else 0
/-- what stands when the law's loop begins -/
def lw_G (L : Nat) (xs : Nat → Int32) (h : am_H) : Prop := am_nx h = 109 ∧ am_ce h = 107 ∧ am_sl h = 745537 + 132 * pg_n (sc_0 L xs) ∧ wk (pg_n (sc_0 L xs)) h ∧ rI (pg_n (sc_0 L xs)) h ∧ am_kd h 1 = 99 ∧ am_ln h 1 = L ∧ am_I h 1 = xs ∧ am_kd h 108 = 101 ∧ am_ln h 108 = 1
theorem l2_law_1 {d L : Nat} {xs : Nat → Int32} {Q : am_O → am_H → Prop} (hL : L ≤ 3585) (hx : ∀ h, lw_G L xs h → am_Ex nm_pr (d + 5) mt_La_law (33, [.ref 1, .ref 2, .ref 72, .ref 108, .int 1, .retAddr 0, .retAddr 0, .retAddr 0], [], h) Q) :
    am_Ex nm_pr (d + 5) mt_La_law (0, am_en [.ref 1] 8, [], am_0 L xs) Q := by
  have k1 : am_kd (am_0 L xs) 1 = 99 := rfl
  have l1 : am_ln (am_0 L xs) 1 = L := rfl
  have i1 : am_I (am_0 L xs) 1 = xs := by funext j; rfl
  have q1 : am_nx (am_0 L xs) = 2 := rfl
  have ce1 : am_ce (am_0 L xs) = 0 := rfl
  have sl1 : am_sl (am_0 L xs) = 0 := rfl
  generalize am_0 L xs = h at *
  refine am_go [] 5 ?_
  simp only [am_wp, am_stp, am_en, am_as, am_pad, am_nth, am_set, am_st1, am_st2, am_kl, am_kill, am_mem, am_fv, am_tk, am_wt, am_bk, Option.toList, List.cons_append, List.nil_append, Nat.reduceAdd, Nat.reduceEqDiff, Nat.reduceLeDiff, reduceIte, Nat.reduceLT, or_self, true_or, or_true, if_true, if_false, and_self, and_true, true_and, not_false_eq_true, not_true_eq_false, fd_La_law_0, fd_La_law_3, fd_La_law_4, fd_La_law_5, fd_La_law_6, hx_nx_sI, hx_ce_sI, hx_sl_sI, hx_kd_sI, hx_ln_sI, hx_I_sI, hx_L_sI, hx_R_sI, hx_nx_sL, hx_ce_sL, hx_sl_sL, hx_kd_sL, hx_ln_sL, hx_I_sL, hx_L_sL, hx_R_sL, hx_nx_sR, hx_ce_sR, hx_sl_sR, hx_kd_sR, hx_ln_sR, hx_I_sR, hx_L_sR, hx_R_sR, hx_nx_al, hx_ce_al, hx_sl_al, hx_kd_al, hx_ln_al, hx_I_al, hx_L_al, hx_R_al, hx_nx_row, hx_ce_row, hx_sl_row, hx_kd_row, hx_ln_row, hx_I_row, hx_L_row, hx_R_row, hx_nx_mk, hx_kd_mk, hx_ln_mk, hx_I_mk, hx_L_mk, hx_R_mk, q1]
  have kA : am_kd (am_al h 1 0 16) 1 = 99 := by rw [hx_kd_al, if_neg (by omega)]; exact k1
  have lA : am_ln (am_al h 1 0 16) 1 = L := by rw [hx_ln_al, if_neg (by omega)]; exact l1
  have iA : am_I (am_al h 1 0 16) 1 = xs := by rw [← i1]; funext j; rw [hx_I_al, if_neg (by omega)]
  have sA : fr_SR (am_al h 1 0 16) (fun _ => 0) (fun _ => 0) := by
    refine ⟨?_, ?_, ?_⟩
    all_goals (first | (funext j) | skip)
    all_goals simp only [hx_nx_sI, hx_ce_sI, hx_sl_sI, hx_kd_sI, hx_ln_sI, hx_I_sI, hx_L_sI, hx_R_sI, hx_nx_sL, hx_ce_sL, hx_sl_sL, hx_kd_sL, hx_ln_sL, hx_I_sL, hx_L_sL, hx_R_sL, hx_nx_sR, hx_ce_sR, hx_sl_sR, hx_kd_sR, hx_ln_sR, hx_I_sR, hx_L_sR, hx_R_sR, hx_nx_al, hx_ce_al, hx_sl_al, hx_kd_al, hx_ln_al, hx_I_al, hx_L_al, hx_R_al, hx_nx_row, hx_ce_row, hx_sl_row, hx_kd_row, hx_ln_row, hx_I_row, hx_L_row, hx_R_row, hx_nx_mk, hx_kd_mk, hx_ln_mk, hx_I_mk, hx_L_mk, hx_R_mk, q1, am_wp, am_stp, am_en, am_as, am_pad, am_nth, am_set, am_st1, am_st2, am_kl, am_kill, am_mem, am_fv, am_tk, am_wt, am_bk, Option.toList, List.cons_append, List.nil_append, Nat.reduceAdd, Nat.reduceEqDiff, Nat.reduceLeDiff, reduceIte, Nat.reduceLT, or_self, true_or, or_true, if_true, if_false, and_self, and_true, true_and, not_false_eq_true, not_true_eq_false]
  have nA : am_nx (am_al h 1 0 16) = 3 := by rw [hx_nx_al, q1]
  have cA : am_ce (am_al h 1 0 16) = 1 := by rw [hx_ce_al, ce1]
  have zA : am_sl (am_al h 1 0 16) = 16 := by rw [hx_sl_al, sl1]
  generalize am_al h 1 0 16 = g at *
  refine am_call (l2_cell kA lA iA hL) (fun o h1 q => ?_)
  obtain ⟨rfl, rfl⟩ := q
  simp only [am_wp, am_stp, am_en, am_as, am_pad, am_nth, am_set, am_st1, am_st2, am_kl, am_kill, am_mem, am_fv, am_tk, am_wt, am_bk, Option.toList, List.cons_append, List.nil_append, Nat.reduceAdd, Nat.reduceEqDiff, Nat.reduceLeDiff, reduceIte, Nat.reduceLT, or_self, true_or, or_true, if_true, if_false, and_self, and_true, true_and, not_false_eq_true, not_true_eq_false]
  refine am_go [] 1 ?_
  simp only [am_wp, am_stp, am_en, am_as, am_pad, am_nth, am_set, am_st1, am_st2, am_kl, am_kill, am_mem, am_fv, am_tk, am_wt, am_bk, Option.toList, List.cons_append, List.nil_append, Nat.reduceAdd, Nat.reduceEqDiff, Nat.reduceLeDiff, reduceIte, Nat.reduceLT, or_self, true_or, or_true, if_true, if_false, and_self, and_true, true_and, not_false_eq_true, not_true_eq_false, fd_La_law_9, sA.1]
  refine am_call (l2_SR_initw nA sA) (fun o h2 q => ?_)
  obtain ⟨rfl, a1, a2, a3, a4, a6, a5⟩ := q
  simp only [am_wp, am_stp, am_en, am_as, am_pad, am_nth, am_set, am_st1, am_st2, am_kl, am_kill, am_mem, am_fv, am_tk, am_wt, am_bk, Option.toList, List.cons_append, List.nil_append, Nat.reduceAdd, Nat.reduceEqDiff, Nat.reduceLeDiff, reduceIte, Nat.reduceLT, or_self, true_or, or_true, if_true, if_false, and_self, and_true, true_and, not_false_eq_true, not_true_eq_false]
  obtain ⟨x1, x2, x3, x4, x5⟩ := a5 1 (by decide) (by simp)
  refine am_go [] 6 ?_
  simp only [am_wp, am_stp, am_en, am_as, am_pad, am_nth, am_set, am_st1, am_st2, am_kl, am_kill, am_mem, am_fv, am_tk, am_wt, am_bk, Option.toList, List.cons_append, List.nil_append, Nat.reduceAdd, Nat.reduceEqDiff, Nat.reduceLeDiff, reduceIte, Nat.reduceLT, or_self, true_or, or_true, if_true, if_false, and_self, and_true, true_and, not_false_eq_true, not_true_eq_false, fd_La_law_12, fd_La_law_13, fd_La_law_16, fd_La_law_17, fd_La_law_18, fd_La_law_19, hx_nx_sI, hx_ce_sI, hx_sl_sI, hx_kd_sI, hx_ln_sI, hx_I_sI, hx_L_sI, hx_R_sI, hx_nx_sL, hx_ce_sL, hx_sl_sL, hx_kd_sL, hx_ln_sL, hx_I_sL, hx_L_sL, hx_R_sL, hx_nx_sR, hx_ce_sR, hx_sl_sR, hx_kd_sR, hx_ln_sR, hx_I_sR, hx_L_sR, hx_R_sR, hx_nx_al, hx_ce_al, hx_sl_al, hx_kd_al, hx_ln_al, hx_I_al, hx_L_al, hx_R_al, hx_nx_row, hx_ce_row, hx_sl_row, hx_kd_row, hx_ln_row, hx_I_row, hx_L_row, hx_R_row, hx_nx_mk, hx_kd_mk, hx_ln_mk, hx_I_mk, hx_L_mk, hx_R_mk, a1]
  have kB : am_kd (am_al h2 12 0 51) 1 = 99 := by rw [hx_kd_al, if_neg (by omega)]; exact x1.trans kA
  have lB : am_ln (am_al h2 12 0 51) 1 = L := by rw [hx_ln_al, if_neg (by omega)]; exact x2.trans lA
  have iB : am_I (am_al h2 12 0 51) 1 = xs := by rw [← iA, ← x3]; funext j; rw [hx_I_al, if_neg (by omega)]
  refine am_call (l2_cell kB lB iB hL) (fun o h3 q => ?_)
  obtain ⟨rfl, rfl⟩ := q
  simp only [am_wp, am_stp, am_en, am_as, am_pad, am_nth, am_set, am_st1, am_st2, am_kl, am_kill, am_mem, am_fv, am_tk, am_wt, am_bk, Option.toList, List.cons_append, List.nil_append, Nat.reduceAdd, Nat.reduceEqDiff, Nat.reduceLeDiff, reduceIte, Nat.reduceLT, or_self, true_or, or_true, if_true, if_false, and_self, and_true, true_and, not_false_eq_true, not_true_eq_false]
  have k72 : am_kd (am_al h2 12 0 51) 72 = 12 := by rw [hx_kd_al, if_pos a1.symm]
  refine am_go [] 1 ?_
  simp only [am_wp, am_stp, am_en, am_as, am_pad, am_nth, am_set, am_st1, am_st2, am_kl, am_kill, am_mem, am_fv, am_tk, am_wt, am_bk, Option.toList, List.cons_append, List.nil_append, Nat.reduceAdd, Nat.reduceEqDiff, Nat.reduceLeDiff, reduceIte, Nat.reduceLT, or_self, true_or, or_true, if_true, if_false, and_self, and_true, true_and, not_false_eq_true, not_true_eq_false, fd_La_law_22, k72]
  refine am_call (l2_Mo_init (by rw [hx_nx_al, a1]) k72 (funext fun j => by rw [hx_I_al, if_pos a1.symm]) (funext fun j => by rw [hx_L_al, if_pos a1.symm]) (funext fun j => by rw [hx_R_al, if_pos a1.symm])) (fun o h4 q => ?_)
  obtain ⟨rfl, b1, b2, b3, b4, b5⟩ := q
  simp only [am_wp, am_stp, am_en, am_as, am_pad, am_nth, am_set, am_st1, am_st2, am_kl, am_kill, am_mem, am_fv, am_tk, am_wt, am_bk, Option.toList, List.cons_append, List.nil_append, Nat.reduceAdd, Nat.reduceEqDiff, Nat.reduceLeDiff, reduceIte, Nat.reduceLT, or_self, true_or, or_true, if_true, if_false, and_self, and_true, true_and, not_false_eq_true, not_true_eq_false]
  refine am_go [33] 6 ?_
  have c1 : ¬ ((1 : Int32) < 0) := by decide
  have c2 : (1 : Int32).toNatClampNeg = 1 := by decide
  simp only [am_wp, am_stp, am_en, am_as, am_pad, am_nth, am_set, am_st1, am_st2, am_kl, am_kill, am_mem, am_fv, am_tk, am_wt, am_bk, Option.toList, List.cons_append, List.nil_append, Nat.reduceAdd, Nat.reduceEqDiff, Nat.reduceLeDiff, reduceIte, Nat.reduceLT, or_self, true_or, or_true, if_true, if_false, and_self, and_true, true_and, not_false_eq_true, not_true_eq_false, fd_La_law_25, fd_La_law_26, fd_La_law_27, fd_La_law_29, fd_La_law_30, fd_La_law_31, hx_nx_sI, hx_ce_sI, hx_sl_sI, hx_kd_sI, hx_ln_sI, hx_I_sI, hx_L_sI, hx_R_sI, hx_nx_sL, hx_ce_sL, hx_sl_sL, hx_kd_sL, hx_ln_sL, hx_I_sL, hx_L_sL, hx_R_sL, hx_nx_sR, hx_ce_sR, hx_sl_sR, hx_kd_sR, hx_ln_sR, hx_I_sR, hx_L_sR, hx_R_sR, hx_nx_al, hx_ce_al, hx_sl_al, hx_kd_al, hx_ln_al, hx_I_al, hx_L_al, hx_R_al, hx_nx_row, hx_ce_row, hx_sl_row, hx_kd_row, hx_ln_row, hx_I_row, hx_L_row, hx_R_row, hx_nx_mk, hx_kd_mk, hx_ln_mk, hx_I_mk, hx_L_mk, hx_R_mk, b1, c1, c2]
  have X0 : am_xt [72] 72 h2 h4 := (am_xt.refl.al (by omega)).trans b5 (by decide)
  have X1 : am_xt [] 108 h4 (am_al h4 101 1 1) := am_xt.refl.al (by omega)
  refine hx _ ⟨?_, ?_, ?_, ?_, ?_, ?_, ?_, ?_, ?_, ?_⟩
  · simp only [hx_nx_sI, hx_ce_sI, hx_sl_sI, hx_kd_sI, hx_ln_sI, hx_I_sI, hx_L_sI, hx_R_sI, hx_nx_sL, hx_ce_sL, hx_sl_sL, hx_kd_sL, hx_ln_sL, hx_I_sL, hx_L_sL, hx_R_sL, hx_nx_sR, hx_ce_sR, hx_sl_sR, hx_kd_sR, hx_ln_sR, hx_I_sR, hx_L_sR, hx_R_sR, hx_nx_al, hx_ce_al, hx_sl_al, hx_kd_al, hx_ln_al, hx_I_al, hx_L_al, hx_R_al, hx_nx_row, hx_ce_row, hx_sl_row, hx_kd_row, hx_ln_row, hx_I_row, hx_L_row, hx_R_row, hx_nx_mk, hx_kd_mk, hx_ln_mk, hx_I_mk, hx_L_mk, hx_R_mk, b1]
  · simp only [hx_nx_sI, hx_ce_sI, hx_sl_sI, hx_kd_sI, hx_ln_sI, hx_I_sI, hx_L_sI, hx_R_sI, hx_nx_sL, hx_ce_sL, hx_sl_sL, hx_kd_sL, hx_ln_sL, hx_I_sL, hx_L_sL, hx_R_sL, hx_nx_sR, hx_ce_sR, hx_sl_sR, hx_kd_sR, hx_ln_sR, hx_I_sR, hx_L_sR, hx_R_sR, hx_nx_al, hx_ce_al, hx_sl_al, hx_kd_al, hx_ln_al, hx_I_al, hx_L_al, hx_R_al, hx_nx_row, hx_ce_row, hx_sl_row, hx_kd_row, hx_ln_row, hx_I_row, hx_L_row, hx_R_row, hx_nx_mk, hx_kd_mk, hx_ln_mk, hx_I_mk, hx_L_mk, hx_R_mk, b2, a2, cA]
  · simp only [hx_nx_sI, hx_ce_sI, hx_sl_sI, hx_kd_sI, hx_ln_sI, hx_I_sI, hx_L_sI, hx_R_sI, hx_nx_sL, hx_ce_sL, hx_sl_sL, hx_kd_sL, hx_ln_sL, hx_I_sL, hx_L_sL, hx_R_sL, hx_nx_sR, hx_ce_sR, hx_sl_sR, hx_kd_sR, hx_ln_sR, hx_I_sR, hx_L_sR, hx_R_sR, hx_nx_al, hx_ce_al, hx_sl_al, hx_kd_al, hx_ln_al, hx_I_al, hx_L_al, hx_R_al, hx_nx_row, hx_ce_row, hx_sl_row, hx_kd_row, hx_ln_row, hx_I_row, hx_L_row, hx_R_row, hx_nx_mk, hx_kd_mk, hx_ln_mk, hx_I_mk, hx_L_mk, hx_R_mk, b3, a3, zA]; unfold sc_0; omega
  · refine wk_new ((a4.xt X0 (by decide) (by simp)).xt X1 (by decide) (by simp)) ?_ (by simp only [hx_nx_sI, hx_ce_sI, hx_sl_sI, hx_kd_sI, hx_ln_sI, hx_I_sI, hx_L_sI, hx_R_sI, hx_nx_sL, hx_ce_sL, hx_sl_sL, hx_kd_sL, hx_ln_sL, hx_I_sL, hx_L_sL, hx_R_sL, hx_nx_sR, hx_ce_sR, hx_sl_sR, hx_kd_sR, hx_ln_sR, hx_I_sR, hx_L_sR, hx_R_sR, hx_nx_al, hx_ce_al, hx_sl_al, hx_kd_al, hx_ln_al, hx_I_al, hx_L_al, hx_R_al, hx_nx_row, hx_ce_row, hx_sl_row, hx_kd_row, hx_ln_row, hx_I_row, hx_L_row, hx_R_row, hx_nx_mk, hx_kd_mk, hx_ln_mk, hx_I_mk, hx_L_mk, hx_R_mk, b1])
    rw [(X1 14 (by decide) (by simp)).2.2.1, (X0 14 (by decide) (by simp)).2.2.1]; exact a6
  · exact rI_new (b4.xt X1 (Nat.le_refl _) (by simp)) (pg_spec _).2.1 (pg_spec _).2.2
  · rw [hx_kd_al, if_neg (by omega)]; exact (X0 1 (by decide) (by simp)).1.trans (x1.trans kA)
  · rw [hx_ln_al, if_neg (by omega)]; exact (X0 1 (by decide) (by simp)).2.1.trans (x2.trans lA)
  · rw [(X1 1 (by decide) (by simp)).2.2.1, (X0 1 (by decide) (by simp)).2.2.1, x3]; exact iA
  · rw [hx_kd_al, if_pos b1.symm]
  · rw [hx_ln_al, if_pos b1.symm]
theorem wk.ra {P : Nat} {h h' : am_H} (w : wk P h) (f : am_fi rA h h') : wk P h' := by
  obtain ⟨f1, f2, f3, f4, f5, f6, f7, f8⟩ := id f
  obtain ⟨w1, w2, w3⟩ := w
  refine ⟨by rw [f1, f4, f5, f6]; exact w1, fun a j => ?_, w3.fi f (by decide) (by decide)⟩
  by_cases e : a ∈ rA
  · have hr : 72 ≤ a ∧ a < 108 := by
      simp only [rA, List.mem_cons, List.not_mem_nil, or_false] at e
      omega
    exact wcell_free (by simp only [List.mem_cons, List.not_mem_nil, or_false]; omega) (by omega)
  · rw [f7 a e]; exact w2 a j
theorem wk.s108 {P : Nat} {v : Int64} {h : am_H} (w : wk P h) : wk P (am_sL h 108 0 v) := by
  obtain ⟨w1, w2, w3⟩ := w
  refine ⟨w1, w2, ?_⟩
  have e4 : am_L (am_sL h 108 0 v) 4 = am_L h 4 := by
    funext i
    rw [hx_L_sL, if_neg (by decide)]
  unfold wt
  rw [e4]; exact w3
theorem rI.eq {P : Nat} {h h' : am_H} (R : rI P h) (e : ∀ a, 72 ≤ a → a < 108 → am_kd h' a = am_kd h a ∧ am_ln h' a = am_ln h a ∧ am_I h' a = am_I h a ∧ am_L h' a = am_L h a ∧ am_R h' a = am_R h a) : rI P h' := by
  obtain ⟨⟨⟨s1, s2, s3⟩, c2, c3, c4, c5, c6, c7, c8⟩, E, now, mk, r1, r2, ⟨r3, r4⟩, r5⟩ := R
  obtain ⟨a1, -, a3, -, a5⟩ := e 72 (by decide) (by decide)
  have I : ∀ a, 72 ≤ a → a < 108 → am_I h' a = am_I h a := fun a x y => (e a x y).2.2.1
  have L : ∀ a, 72 ≤ a → a < 108 → am_L h' a = am_L h a := fun a x y => (e a x y).2.2.2.1
  refine ⟨⟨⟨a1.trans s1, fun j => by rw [a5]; exact s2 j, fun i q hi => ?_⟩, c2, c3, ?_, ?_, ?_, ?_, ?_⟩, E, now, mk, ?_, ?_, ⟨?_, fun s hs => ?_⟩, ?_⟩
  · have hlt : i < 35 := (List.getElem?_eq_some_iff.mp hi).1
    obtain ⟨b1, b2, -⟩ := e (73 + i) (by omega) (by omega)
    rw [b1, b2]; exact s3 i q hi
  · rw [a3]; exact c4
  · rw [a3]; exact c5
  · rw [a3]; exact c6
  · rw [a3, L 74 (by decide) (by decide), I 75 (by decide) (by decide), L 76 (by decide) (by decide)]; exact c7
  · unfold BY; rw [I 73 (by decide) (by decide)]; exact c8
  · unfold rR_n lev
    rw [a3, I 86 (by decide) (by decide), I 79 (by decide) (by decide)]; exact r1
  · unfold rR_m
    rw [I 87 (by decide) (by decide), I 88 (by decide) (by decide), I 89 (by decide) (by decide)]; exact r2
  · rw [I 77 (by decide) (by decide)]; exact r3
  · refine (r4 s hs).eq c3 ?_ (fun k _ => ?_) (fun q hq => hq.eq (fun j _ => ?_))
    · rw [I 80 (by decide) (by decide)]
    · rw [I 82 (by decide) (by decide)]
    · rw [I 73 (by decide) (by decide)]
  · rw [a3]; exact r5
/-- what the law's loop keeps: c calls are done -/
def lw_I (P c L : Nat) (xs : Nat → Int32) (g : am_H) : Prop := wk P g ∧ rI P g ∧ am_kd g 1 = 99 ∧ am_ln g 1 = L ∧ am_I g 1 = xs ∧ am_kd g 108 = 101 ∧ am_ln g 108 = 1 ∧ am_ce g ≤ 107 + 512 * c ∧ am_sl g ≤ 880705 + 4352 * c
theorem lw_I.up {P c L : Nat} {xs : Nat → Int32} {g : am_H} (I : lw_I P c L xs g) : lw_I P (c + 1) L xs g := by
  obtain ⟨w, r, k1, l1, i1, k8, l8, z1, z2⟩ := I
  exact ⟨w, r, k1, l1, i1, k8, l8, by omega, by omega⟩
theorem lw_I.wp {P c k L : Nat} {xs : Nat → Int32} {g g1 : am_H} (I : lw_I P c L xs g) (q : wp P k g g1) (hk : k ≤ 256) : lw_I P (c + 1) L xs g1 := by
  obtain ⟨w, r, k1, l1, i1, k8, l8, z1, z2⟩ := I
  obtain ⟨w1, f1, f2, f3, f4, -⟩ := q
  obtain ⟨a1, a2, a3, -, -⟩ := f1 1 (Or.inl (by omega))
  obtain ⟨b1, b2, -⟩ := f1 108 (Or.inr (by omega))
  exact ⟨w1, r.eq (fun a h1 h2 => f1 a (Or.inr ⟨h1, by omega⟩)), a1.trans k1, a2.trans l1, a3.trans i1, b1.trans k8, b2.trans l8, by omega, by omega⟩
theorem lw_I.s108 {P c L : Nat} {v : Int64} {xs : Nat → Int32} {g : am_H} (I : lw_I P c L xs g) : lw_I P c L xs (am_sL g 108 0 v) := by
  obtain ⟨w, r, k1, l1, i1, k8, l8, z1, z2⟩ := I
  refine ⟨w.s108, r.eq (fun a h1 h2 => ⟨rfl, rfl, rfl, ?_, rfl⟩), k1, l1, i1, k8, l8, z1, z2⟩
  funext j
  rw [hx_L_sL, if_neg (by omega)]
theorem lw_I.wy {P c L : Nat} {o : am_O} {xs : Nat → Int32} {g g1 : am_H} (I : lw_I P c L xs g) (q : wy P g o g1) : lw_I P (c + 1) L xs g1 := by
  obtain ⟨-, h1, q, rfl | ⟨v, rfl⟩⟩ := q
  · exact I.wp q (Nat.le_refl _)
  · exact (I.wp q (Nat.le_refl _)).s108
theorem lw_I.rq {P c L : Nat} {xs : Nat → Int32} {g g1 : am_H} (I : lw_I P c L xs g) (q : rq P g g1) : lw_I P c L xs g1 := by
  obtain ⟨w, r, k1, l1, i1, k8, l8, z1, z2⟩ := I
  obtain ⟨r1, f⟩ := q
  obtain ⟨f1, f2, f3, f4, f5, f6, f7, f8⟩ := id f
  exact ⟨w.ra f, r1, by rw [f4]; exact k1, by rw [f5]; exact l1, (f7 1 (by decide)).trans i1, by rw [f4]; exact k8, by rw [f5]; exact l8, by omega, by omega⟩
