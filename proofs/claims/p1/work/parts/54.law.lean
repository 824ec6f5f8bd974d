/-! THE LAW, UP TO ITS LOOP -/
theorem fr_All.xt {P : Nat} {S : List Nat} {n : Nat} {h h' : am_H} (c : fr_All P h) (x : am_xt S n h h') (ha : 72 ≤ n) (h0 : ∀ q ∈ S, 72 ≤ q) : fr_All P h' := by
  have w : ∀ q, q < 72 → q ∉ S := fun q h1 h2 => by have := h0 q h2; omega
  have ww : ∀ q ∈ S, q < 3 ∨ 12 ≤ q := fun q hq => by have := h0 q hq; omega
  obtain ⟨c1, ⟨c2, c3, c4⟩, ⟨s1, s2, s3, s4⟩, ⟨p1, p2, p3, p4, p5, p6, p7, p8, p9, p10⟩, c5, c6, c7, ⟨d1, d2, d3⟩, e1, e2, e3, f1, f2, ⟨g1, g2⟩, k1⟩ := c
  have y : ∀ q, q < 72 → _ := fun q hq => x q (by omega) (w q hq)
  refine ⟨c1.xt x (by omega) ww, ⟨c2.xt x (by omega) (w 13 (by decide)), c3.xt x (by omega) (w 16 (by decide)), c4.xt x (by omega) (w 17 (by decide))⟩, ⟨(y 14 (by decide)).1.trans s1, ?_, (y 15 (by decide)).1.trans s3, (y 15 (by decide)).2.1.trans s4⟩,
    ⟨(y 18 (by decide)).1.trans p1, ?_, ?_, ?_, (y 19 (by decide)).1.trans p5, (y 19 (by decide)).2.1.trans p6, (y 20 (by decide)).1.trans p7, (y 20 (by decide)).2.1.trans p8, p9, p10⟩, (y 18 (by decide)).2.2.1.trans c5, (y 19 (by decide)).2.2.1.trans c6, (y 20 (by decide)).2.2.1.trans c7,
    ⟨(y 21 (by decide)).1.trans d1, (y 21 (by decide)).2.2.2.2.trans d2, (y 21 (by decide)).2.2.1.trans d3⟩, e1.xt x (by omega) (w 22 (by decide)), e2.xt x (by omega) (w 23 (by decide)), e3.xt x (by omega) (w 24 (by decide)), f1.xt x (by omega) (fun q hq => by have := h0 q hq; omega), f2.xt x (by omega) (w 39 (by decide)), ⟨g1.xt x (by omega) (w 12 (by decide)), fun j hj => (g2 j hj).xt x (by omega) (w _ (by omega)) (w _ (by omega)) (w _ (by omega)) (w _ (by omega))⟩, k1.xt x (by omega) (w 2 (by decide))⟩
  · rw [(y 14 (by decide)).2.2.2.2]; exact s2
  · rw [(y 18 (by decide)).2.2.2.2]; exact p2
  · rw [(y 18 (by decide)).2.2.2.2]; exact p3
  · rw [(y 18 (by decide)).2.2.1]; exact p4
theorem mo_All.xt {P : Nat} {S : List Nat} {n : Nat} {h h' : am_H} (c : mo_All P h) (x : am_xt S n h h') (ha : 108 ≤ n) (h0 : ∀ q ∈ S, q < 72 ∨ 108 ≤ q) : mo_All P h' := by
  have w : ∀ q, 72 ≤ q → q < 108 → q ∉ S := fun q h1 h2 h3 => by have := h0 q h3; omega
  have y : ∀ q, 72 ≤ q → q < 108 → _ := fun q h1 h2 => x q (by omega) (w q h1 h2)
  obtain ⟨⟨p1, p2, p3, p4, p5, p6, p7⟩, c2, c3, c4, c5, c6, c7⟩ := c
  obtain ⟨a1, a2, a3, a4, a5⟩ := y 72 (by decide) (by decide)
  obtain ⟨b1, b2, b3, b4, b5⟩ := y 73 (by decide) (by decide)
  obtain ⟨d1, d2, d3, d4, d5⟩ := y 91 (by decide) (by decide)
  refine ⟨⟨a1.trans p1, by rw [a5]; exact p2, by rw [a5]; exact p3, b1.trans p4, b2.trans p5, d1.trans p6, d2.trans p7⟩, a3.trans c2, fun j => by rw [a4]; exact c3 j, fun j => by rw [a5]; exact c4 j, fun i q h1 h2 hi => ?_, b3.trans c6, d3.trans c7⟩
  have hlt : i < 35 := (List.getElem?_eq_some_iff.mp hi).1
  exact (c5 i q h1 h2 hi).xt x (by omega) (w _ (by omega) (by omega))
theorem l2_cell {d L : Nat} {xs : Nat → Int32} {h : am_H} (hk : am_kd h 1 = 99) (hl : am_ln h 1 = L) (hI : am_I h 1 = xs) (hL : L ≤ 8) : am_Rt nm_pr (d + 1) mi_La_cell [.ref 1, .int 0] h (fun o h' => o = .inl (some (.int (if 0 < L then xs 0 else 0))) ∧ h' = h) := by
  refine am_in' mt_La_cell 2 rfl rfl rfl ?_
  refine am_go [6, 12] 4 ?_
  have n1 : ¬ (99 = 100) := by decide
  have n2 : ¬ (99 = 102) := by decide
  by_cases e : 0 < L
  · have h1 : (0 : Int32) < L.toInt32 := nI_lt (a := 0) e (by omega)
    have h2 : ¬ ((0 : Int32) < 0 ∨ L ≤ (0 : Int32).toNatClampNeg) := by
      have : (0 : Int32).toNatClampNeg = 0 := by decide
      rw [this]
      rintro (q | q)
      · exact absurd q (by decide)
      · omega
    have h3 : (0 : Int32).toNatClampNeg = 0 := by decide
    simp only [am_wp, am_stp, am_en, am_as, am_pad, am_nth, am_set, am_st1, am_st2, am_kl, am_kill, am_mem, am_fv, am_tk, am_wt, am_bk, Option.toList, List.cons_append, List.nil_append, Nat.reduceAdd, Nat.reduceEqDiff, Nat.reduceLeDiff, reduceIte, Nat.reduceLT, or_self, true_or, or_true, if_true, if_false, and_self, and_true, true_and, not_false_eq_true, not_true_eq_false, fd_La_cell_0, fd_La_cell_1, fd_La_cell_2, fd_La_cell_3, hk, hl, n1, n2, h1]
    refine am_go [] 10 ?_
    simp only [am_wp, am_stp, am_en, am_as, am_pad, am_nth, am_set, am_st1, am_st2, am_kl, am_kill, am_mem, am_fv, am_tk, am_wt, am_bk, Option.toList, List.cons_append, List.nil_append, Nat.reduceAdd, Nat.reduceEqDiff, Nat.reduceLeDiff, reduceIte, Nat.reduceLT, or_self, true_or, or_true, if_true, if_false, and_self, and_true, true_and, not_false_eq_true, not_true_eq_false, fd_La_cell_6, fd_La_cell_7, fd_La_cell_8, fd_La_cell_9, fd_La_cell_12, fd_La_cell_13, hk, hl, n1, n2, h2]
    rw [h3, hI, if_pos e]
  · have h1 : ¬ ((0 : Int32) < L.toInt32) := nI_nlt (a := 0) (b := L) (by omega) (by omega)
    simp only [am_wp, am_stp, am_en, am_as, am_pad, am_nth, am_set, am_st1, am_st2, am_kl, am_kill, am_mem, am_fv, am_tk, am_wt, am_bk, Option.toList, List.cons_append, List.nil_append, Nat.reduceAdd, Nat.reduceEqDiff, Nat.reduceLeDiff, reduceIte, Nat.reduceLT, or_self, true_or, or_true, if_true, if_false, and_self, and_true, true_and, not_false_eq_true, not_true_eq_false, fd_La_cell_0, fd_La_cell_1, fd_La_cell_2, fd_La_cell_3, hk, hl, n1, n2, h1]
    refine am_go [] 10 ?_
    simp only [am_wp, am_stp, am_en, am_as, am_pad, am_nth, am_set, am_st1, am_st2, am_kl, am_kill, am_mem, am_fv, am_tk, am_wt, am_bk, Option.toList, List.cons_append, List.nil_append, Nat.reduceAdd, Nat.reduceEqDiff, Nat.reduceLeDiff, reduceIte, Nat.reduceLT, or_self, true_or, or_true, if_true, if_false, and_self, and_true, true_and, not_false_eq_true, not_true_eq_false, fd_La_cell_12, fd_La_cell_13]
    rw [if_neg e]
/-- the first int of the script -/
def sc_0 (L : Nat) (xs : Nat → Int32) : Int32 := if 0 < L then xs 0 else 0
/-- what stands when the law's loop begins -/
def lw_G (L : Nat) (xs : Nat → Int32) (h : am_H) : Prop := am_nx h = 109 ∧ am_ce h = 107 ∧ am_sl h = 745537 + 132 * pg_n (sc_0 L xs) ∧ fr_All (pg_n (sc_0 L xs)) h ∧ mo_All (pg_n (sc_0 L xs)) h ∧ am_kd h 1 = 99 ∧ am_ln h 1 = L ∧ am_I h 1 = xs ∧ am_kd h 108 = 101 ∧ am_ln h 108 = 1
theorem l2_law_1 {d L : Nat} {xs : Nat → Int32} {Q : am_O → am_H → Prop} (hL : L ≤ 8) (hx : ∀ h, lw_G L xs h → am_Ex nm_pr (d + 5) mt_La_law (33, [.ref 1, .ref 2, .ref 72, .ref 108, .int 1, .retAddr 0, .retAddr 0, .retAddr 0], [], h) Q) :
    am_Ex nm_pr (d + 5) mt_La_law (0, am_en [.ref 1] 8, [], am_0 L xs) Q := by
  have k1 : am_kd (am_0 L xs) 1 = 99 := rfl
  have l1 : am_ln (am_0 L xs) 1 = L := rfl
  have i1 : am_I (am_0 L xs) 1 = xs := by funext j; rfl
  have q1 : am_nx (am_0 L xs) = 2 := rfl
  have ce1 : am_ce (am_0 L xs) = 0 := rfl
  have sl1 : am_sl (am_0 L xs) = 0 := rfl
  generalize am_0 L xs = h at *
  refine am_go [] 5 ?_
  simp only [am_wp, am_stp, am_en, am_as, am_pad, am_nth, am_set, am_st1, am_st2, am_kl, am_kill, am_mem, am_fv, am_tk, am_wt, am_bk, Option.toList, List.cons_append, List.nil_append, Nat.reduceAdd, Nat.reduceEqDiff, Nat.reduceLeDiff, reduceIte, Nat.reduceLT, or_self, true_or, or_true, if_true, if_false, and_self, and_true, true_and, not_false_eq_true, not_true_eq_false, fd_La_law_0, fd_La_law_3, fd_La_law_4, fd_La_law_5, fd_La_law_6, hx_nx_sI, hx_ce_sI, hx_sl_sI, hx_kd_sI, hx_ln_sI, hx_I_sI, hx_L_sI, hx_R_sI, hx_nx_sL, hx_ce_sL, hx_sl_sL, hx_kd_sL, hx_ln_sL, hx_I_sL, hx_L_sL, hx_R_sL, hx_nx_sR, hx_ce_sR, hx_sl_sR, hx_kd_sR, hx_ln_sR, hx_I_sR, hx_L_sR, hx_R_sR, hx_nx_al, hx_ce_al, hx_sl_al, hx_kd_al, hx_ln_al, hx_I_al, hx_L_al, hx_R_al, hx_nx_row, hx_ce_row, hx_sl_row, hx_kd_row, hx_ln_row, hx_I_row, hx_L_row, hx_R_row, hx_nx_mk, hx_kd_mk, hx_ln_mk, hx_I_mk, hx_L_mk, hx_R_mk, q1]
  have kA : am_kd (am_al h 1 0 16) 1 = 99 := by rw [hx_kd_al, if_neg (by omega)]; exact k1
  have lA : am_ln (am_al h 1 0 16) 1 = L := by rw [hx_ln_al, if_neg (by omega)]; exact l1
  have iA : am_I (am_al h 1 0 16) 1 = xs := by rw [← i1]; funext j; rw [hx_I_al, if_neg (by omega)]
  have sA : fr_SR (am_al h 1 0 16) (fun _ => 0) (fun _ => 0) := by
    refine ⟨?_, ?_, ?_⟩
    all_goals (first | (funext j) | skip)
    all_goals simp only [hx_nx_sI, hx_ce_sI, hx_sl_sI, hx_kd_sI, hx_ln_sI, hx_I_sI, hx_L_sI, hx_R_sI, hx_nx_sL, hx_ce_sL, hx_sl_sL, hx_kd_sL, hx_ln_sL, hx_I_sL, hx_L_sL, hx_R_sL, hx_nx_sR, hx_ce_sR, hx_sl_sR, hx_kd_sR, hx_ln_sR, hx_I_sR, hx_L_sR, hx_R_sR, hx_nx_al, hx_ce_al, hx_sl_al, hx_kd_al, hx_ln_al, hx_I_al, hx_L_al, hx_R_al, hx_nx_row, hx_ce_row, hx_sl_row, hx_kd_row, hx_ln_row, hx_I_row, hx_L_row, hx_R_row, hx_nx_mk, hx_kd_mk, hx_ln_mk, hx_I_mk, hx_L_mk, hx_R_mk, q1, am_wp, am_stp, am_en, am_as, am_pad, am_nth, am_set, am_st1, am_st2, am_kl, am_kill, am_mem, am_fv, am_tk, am_wt, am_bk, Option.toList, List.cons_append, List.nil_append, Nat.reduceAdd, Nat.reduceEqDiff, Nat.reduceLeDiff, reduceIte, Nat.reduceLT, or_self, true_or, or_true, if_true, if_false, and_self, and_true, true_and, not_false_eq_true, not_true_eq_false]
  have nA : am_nx (am_al h 1 0 16) = 3 := by rw [hx_nx_al, q1]
  have cA : am_ce (am_al h 1 0 16) = 1 := by rw [hx_ce_al, ce1]
  have zA : am_sl (am_al h 1 0 16) = 16 := by rw [hx_sl_al, sl1]
  generalize am_al h 1 0 16 = g at *
  refine am_call (l2_cell kA lA iA hL) (fun o h1 q => ?_)
  obtain ⟨rfl, rfl⟩ := q
  simp only [am_wp, am_stp, am_en, am_as, am_pad, am_nth, am_set, am_st1, am_st2, am_kl, am_kill, am_mem, am_fv, am_tk, am_wt, am_bk, Option.toList, List.cons_append, List.nil_append, Nat.reduceAdd, Nat.reduceEqDiff, Nat.reduceLeDiff, reduceIte, Nat.reduceLT, or_self, true_or, or_true, if_true, if_false, and_self, and_true, true_and, not_false_eq_true, not_true_eq_false]
  refine am_go [] 1 ?_
  simp only [am_wp, am_stp, am_en, am_as, am_pad, am_nth, am_set, am_st1, am_st2, am_kl, am_kill, am_mem, am_fv, am_tk, am_wt, am_bk, Option.toList, List.cons_append, List.nil_append, Nat.reduceAdd, Nat.reduceEqDiff, Nat.reduceLeDiff, reduceIte, Nat.reduceLT, or_self, true_or, or_true, if_true, if_false, and_self, and_true, true_and, not_false_eq_true, not_true_eq_false, fd_La_law_9, sA.1]
  refine am_call (l2_SR_init nA sA) (fun o h2 q => ?_)
  obtain ⟨rfl, a1, a2, a3, a4, a5⟩ := q
  simp only [am_wp, am_stp, am_en, am_as, am_pad, am_nth, am_set, am_st1, am_st2, am_kl, am_kill, am_mem, am_fv, am_tk, am_wt, am_bk, Option.toList, List.cons_append, List.nil_append, Nat.reduceAdd, Nat.reduceEqDiff, Nat.reduceLeDiff, reduceIte, Nat.reduceLT, or_self, true_or, or_true, if_true, if_false, and_self, and_true, true_and, not_false_eq_true, not_true_eq_false]
  obtain ⟨x1, x2, x3, x4, x5⟩ := a5 1 (by decide) (by simp)
  refine am_go [] 6 ?_
  simp only [am_wp, am_stp, am_en, am_as, am_pad, am_nth, am_set, am_st1, am_st2, am_kl, am_kill, am_mem, am_fv, am_tk, am_wt, am_bk, Option.toList, List.cons_append, List.nil_append, Nat.reduceAdd, Nat.reduceEqDiff, Nat.reduceLeDiff, reduceIte, Nat.reduceLT, or_self, true_or, or_true, if_true, if_false, and_self, and_true, true_and, not_false_eq_true, not_true_eq_false, fd_La_law_12, fd_La_law_13, fd_La_law_16, fd_La_law_17, fd_La_law_18, fd_La_law_19, hx_nx_sI, hx_ce_sI, hx_sl_sI, hx_kd_sI, hx_ln_sI, hx_I_sI, hx_L_sI, hx_R_sI, hx_nx_sL, hx_ce_sL, hx_sl_sL, hx_kd_sL, hx_ln_sL, hx_I_sL, hx_L_sL, hx_R_sL, hx_nx_sR, hx_ce_sR, hx_sl_sR, hx_kd_sR, hx_ln_sR, hx_I_sR, hx_L_sR, hx_R_sR, hx_nx_al, hx_ce_al, hx_sl_al, hx_kd_al, hx_ln_al, hx_I_al, hx_L_al, hx_R_al, hx_nx_row, hx_ce_row, hx_sl_row, hx_kd_row, hx_ln_row, hx_I_row, hx_L_row, hx_R_row, hx_nx_mk, hx_kd_mk, hx_ln_mk, hx_I_mk, hx_L_mk, hx_R_mk, a1]
  have kB : am_kd (am_al h2 12 0 51) 1 = 99 := by rw [hx_kd_al, if_neg (by omega)]; exact x1.trans kA
  have lB : am_ln (am_al h2 12 0 51) 1 = L := by rw [hx_ln_al, if_neg (by omega)]; exact x2.trans lA
  have iB : am_I (am_al h2 12 0 51) 1 = xs := by rw [← iA, ← x3]; funext j; rw [hx_I_al, if_neg (by omega)]
  refine am_call (l2_cell kB lB iB hL) (fun o h3 q => ?_)
  obtain ⟨rfl, rfl⟩ := q
  simp only [am_wp, am_stp, am_en, am_as, am_pad, am_nth, am_set, am_st1, am_st2, am_kl, am_kill, am_mem, am_fv, am_tk, am_wt, am_bk, Option.toList, List.cons_append, List.nil_append, Nat.reduceAdd, Nat.reduceEqDiff, Nat.reduceLeDiff, reduceIte, Nat.reduceLT, or_self, true_or, or_true, if_true, if_false, and_self, and_true, true_and, not_false_eq_true, not_true_eq_false]
  have k72 : am_kd (am_al h2 12 0 51) 72 = 12 := by rw [hx_kd_al, if_pos a1.symm]
  refine am_go [] 1 ?_
  simp only [am_wp, am_stp, am_en, am_as, am_pad, am_nth, am_set, am_st1, am_st2, am_kl, am_kill, am_mem, am_fv, am_tk, am_wt, am_bk, Option.toList, List.cons_append, List.nil_append, Nat.reduceAdd, Nat.reduceEqDiff, Nat.reduceLeDiff, reduceIte, Nat.reduceLT, or_self, true_or, or_true, if_true, if_false, and_self, and_true, true_and, not_false_eq_true, not_true_eq_false, fd_La_law_22, k72]
  refine am_call (l2_Mo_init (by rw [hx_nx_al, a1]) k72 (funext fun j => by rw [hx_I_al, if_pos a1.symm]) (funext fun j => by rw [hx_L_al, if_pos a1.symm]) (funext fun j => by rw [hx_R_al, if_pos a1.symm])) (fun o h4 q => ?_)
  obtain ⟨rfl, b1, b2, b3, b4, b5⟩ := q
  simp only [am_wp, am_stp, am_en, am_as, am_pad, am_nth, am_set, am_st1, am_st2, am_kl, am_kill, am_mem, am_fv, am_tk, am_wt, am_bk, Option.toList, List.cons_append, List.nil_append, Nat.reduceAdd, Nat.reduceEqDiff, Nat.reduceLeDiff, reduceIte, Nat.reduceLT, or_self, true_or, or_true, if_true, if_false, and_self, and_true, true_and, not_false_eq_true, not_true_eq_false]
  refine am_go [33] 6 ?_
  have c1 : ¬ ((1 : Int32) < 0) := by decide
  have c2 : (1 : Int32).toNatClampNeg = 1 := by decide
  simp only [am_wp, am_stp, am_en, am_as, am_pad, am_nth, am_set, am_st1, am_st2, am_kl, am_kill, am_mem, am_fv, am_tk, am_wt, am_bk, Option.toList, List.cons_append, List.nil_append, Nat.reduceAdd, Nat.reduceEqDiff, Nat.reduceLeDiff, reduceIte, Nat.reduceLT, or_self, true_or, or_true, if_true, if_false, and_self, and_true, true_and, not_false_eq_true, not_true_eq_false, fd_La_law_25, fd_La_law_26, fd_La_law_27, fd_La_law_29, fd_La_law_30, fd_La_law_31, hx_nx_sI, hx_ce_sI, hx_sl_sI, hx_kd_sI, hx_ln_sI, hx_I_sI, hx_L_sI, hx_R_sI, hx_nx_sL, hx_ce_sL, hx_sl_sL, hx_kd_sL, hx_ln_sL, hx_I_sL, hx_L_sL, hx_R_sL, hx_nx_sR, hx_ce_sR, hx_sl_sR, hx_kd_sR, hx_ln_sR, hx_I_sR, hx_L_sR, hx_R_sR, hx_nx_al, hx_ce_al, hx_sl_al, hx_kd_al, hx_ln_al, hx_I_al, hx_L_al, hx_R_al, hx_nx_row, hx_ce_row, hx_sl_row, hx_kd_row, hx_ln_row, hx_I_row, hx_L_row, hx_R_row, hx_nx_mk, hx_kd_mk, hx_ln_mk, hx_I_mk, hx_L_mk, hx_R_mk, b1, c1, c2]
  have X0 : am_xt [72] 72 h2 h4 := (am_xt.refl.al (by omega)).trans b5 (by decide)
  have X1 : am_xt [] 108 h4 (am_al h4 101 1 1) := am_xt.refl.al (by omega)
  refine hx _ ⟨?_, ?_, ?_, ?_, ?_, ?_, ?_, ?_, ?_, ?_⟩
  · simp only [hx_nx_sI, hx_ce_sI, hx_sl_sI, hx_kd_sI, hx_ln_sI, hx_I_sI, hx_L_sI, hx_R_sI, hx_nx_sL, hx_ce_sL, hx_sl_sL, hx_kd_sL, hx_ln_sL, hx_I_sL, hx_L_sL, hx_R_sL, hx_nx_sR, hx_ce_sR, hx_sl_sR, hx_kd_sR, hx_ln_sR, hx_I_sR, hx_L_sR, hx_R_sR, hx_nx_al, hx_ce_al, hx_sl_al, hx_kd_al, hx_ln_al, hx_I_al, hx_L_al, hx_R_al, hx_nx_row, hx_ce_row, hx_sl_row, hx_kd_row, hx_ln_row, hx_I_row, hx_L_row, hx_R_row, hx_nx_mk, hx_kd_mk, hx_ln_mk, hx_I_mk, hx_L_mk, hx_R_mk, b1]
  · simp only [hx_nx_sI, hx_ce_sI, hx_sl_sI, hx_kd_sI, hx_ln_sI, hx_I_sI, hx_L_sI, hx_R_sI, hx_nx_sL, hx_ce_sL, hx_sl_sL, hx_kd_sL, hx_ln_sL, hx_I_sL, hx_L_sL, hx_R_sL, hx_nx_sR, hx_ce_sR, hx_sl_sR, hx_kd_sR, hx_ln_sR, hx_I_sR, hx_L_sR, hx_R_sR, hx_nx_al, hx_ce_al, hx_sl_al, hx_kd_al, hx_ln_al, hx_I_al, hx_L_al, hx_R_al, hx_nx_row, hx_ce_row, hx_sl_row, hx_kd_row, hx_ln_row, hx_I_row, hx_L_row, hx_R_row, hx_nx_mk, hx_kd_mk, hx_ln_mk, hx_I_mk, hx_L_mk, hx_R_mk, b2, a2, cA]
  · simp only [hx_nx_sI, hx_ce_sI, hx_sl_sI, hx_kd_sI, hx_ln_sI, hx_I_sI, hx_L_sI, hx_R_sI, hx_nx_sL, hx_ce_sL, hx_sl_sL, hx_kd_sL, hx_ln_sL, hx_I_sL, hx_L_sL, hx_R_sL, hx_nx_sR, hx_ce_sR, hx_sl_sR, hx_kd_sR, hx_ln_sR, hx_I_sR, hx_L_sR, hx_R_sR, hx_nx_al, hx_ce_al, hx_sl_al, hx_kd_al, hx_ln_al, hx_I_al, hx_L_al, hx_R_al, hx_nx_row, hx_ce_row, hx_sl_row, hx_kd_row, hx_ln_row, hx_I_row, hx_L_row, hx_R_row, hx_nx_mk, hx_kd_mk, hx_ln_mk, hx_I_mk, hx_L_mk, hx_R_mk, b3, a3, zA]; unfold sc_0; omega
  · exact (a4.xt X0 (by decide) (by simp)).xt X1 (by decide) (by simp)
  · exact b4.xt X1 (Nat.le_refl _) (by simp)
  · rw [hx_kd_al, if_neg (by omega)]; exact (X0 1 (by decide) (by simp)).1.trans (x1.trans kA)
  · rw [hx_ln_al, if_neg (by omega)]; exact (X0 1 (by decide) (by simp)).2.1.trans (x2.trans lA)
  · rw [(X1 1 (by decide) (by simp)).2.2.1, (X0 1 (by decide) (by simp)).2.2.1, x3]; exact iA
  · rw [hx_kd_al, if_pos b1.symm]
  · rw [hx_ln_al, if_pos b1.symm]
