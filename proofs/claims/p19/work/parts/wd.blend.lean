/-! THE BLEND, WEAKLY -/
theorem ww_TSstep {d P : Nat} {h : am_H} (w : wk P h) : am_Rt nm_pr (d + 1) mi_TableStream_step [.ref 29] h (fun o h' => o = .inl none ∧ wp P 0 h h') := by
  obtain ⟨n, T, -⟩ := w.tb
  obtain ⟨t1, t2, t3, t4, t5, t6, t7, t8, t9, t10, t11, t12, t13, t14⟩ := id T
  have k29 := w.kd 29 11 (by decide)
  have r29 := w.R 29 4 3 (by decide)
  obtain ⟨c, hc, ic⟩ : wn 64 (am_I h 29 5) := (w.2.1 29 5).2.2.2.2.2.2.2 ⟨rfl, rfl⟩
  have o0 : (0 : Int32) = 0 ∨ (0 : Int32) = 1 := by decide
  have o1 : (1 : Int32) = 0 ∨ (1 : Int32) = 1 := by decide
  have one0 : ¬ (1 : Int32) = 0 := by decide
  have no : am_Ex nm_pr d mt_TableStream_step (28, [.ref 29], [.ref 29], h) (fun o h' => o = .inl none ∧ wp P 0 h h') := by
    refine am_go [39] 7 ?_
    simp only [am_wp, am_stp, am_en, am_as, am_pad, am_nth, am_set, am_st1, am_st2, am_kl, am_kill, am_mem, am_fv, am_tk, am_wt, am_bk, Option.toList, List.cons_append, List.nil_append, Nat.reduceAdd, Nat.reduceEqDiff, Nat.reduceLeDiff, reduceIte, Nat.reduceLT, or_self, true_or, or_true, if_true, if_false, and_self, and_true, true_and, not_false_eq_true, not_true_eq_false, fd_TableStream_step_28, fd_TableStream_step_29, fd_TableStream_step_32, fd_TableStream_step_33, fd_TableStream_step_36, fd_TableStream_step_97, hx_nx_sI, hx_ce_sI, hx_sl_sI, hx_kd_sI, hx_ln_sI, hx_I_sI, hx_L_sI, hx_R_sI, hx_nx_sL, hx_ce_sL, hx_sl_sL, hx_kd_sL, hx_ln_sL, hx_I_sL, hx_L_sL, hx_R_sL, hx_nx_sR, hx_ce_sR, hx_sl_sR, hx_kd_sR, hx_ln_sR, hx_I_sR, hx_L_sR, hx_R_sR, hx_nx_al, hx_ce_al, hx_sl_al, hx_kd_al, hx_ln_al, hx_I_al, hx_L_al, hx_R_al, hx_nx_row, hx_ce_row, hx_sl_row, hx_kd_row, hx_ln_row, hx_I_row, hx_L_row, hx_R_row, hx_nx_mk, hx_kd_mk, hx_ln_mk, hx_I_mk, hx_L_mk, hx_R_mk, k29, o0]
    exact (wp.refl w).s29 (by decide)
  refine am_in' mt_TableStream_step 1 rfl rfl rfl ?_
  refine am_go [15, 28] 7 ?_
  simp only [am_wp, am_stp, am_en, am_as, am_pad, am_nth, am_set, am_st1, am_st2, am_kl, am_kill, am_mem, am_fv, am_tk, am_wt, am_bk, Option.toList, List.cons_append, List.nil_append, Nat.reduceAdd, Nat.reduceEqDiff, Nat.reduceLeDiff, reduceIte, Nat.reduceLT, or_self, true_or, or_true, if_true, if_false, and_self, and_true, true_and, not_false_eq_true, not_true_eq_false, fd_TableStream_step_0, fd_TableStream_step_1, fd_TableStream_step_2, fd_TableStream_step_5, fd_TableStream_step_6, fd_TableStream_step_9, fd_TableStream_step_12, k29, r29, t1]
  refine wif ?_ no
  by_cases e : c < 64
  · have l1 : nI c < 64 := nI_lt (b := 64) e (by decide)
    have i1 := am_inb (c := c) (N := 64) e (by omega)
    have q1 : (nI c).toNatClampNeg = c := nI_clamp (by omega)
    refine am_go [28] 7 ?_
    simp only [am_wp, am_stp, am_en, am_as, am_pad, am_nth, am_set, am_st1, am_st2, am_kl, am_kill, am_mem, am_fv, am_tk, am_wt, am_bk, Option.toList, List.cons_append, List.nil_append, Nat.reduceAdd, Nat.reduceEqDiff, Nat.reduceLeDiff, reduceIte, Nat.reduceLT, or_self, true_or, or_true, if_true, if_false, and_self, and_true, true_and, not_false_eq_true, not_true_eq_false, fd_TableStream_step_15, fd_TableStream_step_16, fd_TableStream_step_19, fd_TableStream_step_21, fd_TableStream_step_24, fd_TableStream_step_25, fd_TableStream_step_29, k29, ic, l1, o1]
    have w1 := (wp.refl w).s29 (j := 0) (v := 1) (by decide)
    have f0 : am_I (am_sI h 29 0 1) 29 0 = 1 := by simp only [hx_nx_sI, hx_ce_sI, hx_sl_sI, hx_kd_sI, hx_ln_sI, hx_I_sI, hx_L_sI, hx_R_sI, hx_nx_sL, hx_ce_sL, hx_sl_sL, hx_kd_sL, hx_ln_sL, hx_I_sL, hx_L_sL, hx_R_sL, hx_nx_sR, hx_ce_sR, hx_sl_sR, hx_kd_sR, hx_ln_sR, hx_I_sR, hx_L_sR, hx_R_sR, hx_nx_al, hx_ce_al, hx_sl_al, hx_kd_al, hx_ln_al, hx_I_al, hx_L_al, hx_R_al, hx_nx_row, hx_ce_row, hx_sl_row, hx_kd_row, hx_ln_row, hx_I_row, hx_L_row, hx_R_row, hx_nx_mk, hx_kd_mk, hx_ln_mk, hx_I_mk, hx_L_mk, hx_R_mk, am_wp, am_stp, am_en, am_as, am_pad, am_nth, am_set, am_st1, am_st2, am_kl, am_kill, am_mem, am_fv, am_tk, am_wt, am_bk, Option.toList, List.cons_append, List.nil_append, Nat.reduceAdd, Nat.reduceEqDiff, Nat.reduceLeDiff, reduceIte, Nat.reduceLT, or_self, true_or, or_true, if_true, if_false, and_self, and_true, true_and, not_false_eq_true, not_true_eq_false]
    have f5 : am_I (am_sI h 29 0 1) 29 5 = nI c := by simp only [hx_nx_sI, hx_ce_sI, hx_sl_sI, hx_kd_sI, hx_ln_sI, hx_I_sI, hx_L_sI, hx_R_sI, hx_nx_sL, hx_ce_sL, hx_sl_sL, hx_kd_sL, hx_ln_sL, hx_I_sL, hx_L_sL, hx_R_sL, hx_nx_sR, hx_ce_sR, hx_sl_sR, hx_kd_sR, hx_ln_sR, hx_I_sR, hx_L_sR, hx_R_sR, hx_nx_al, hx_ce_al, hx_sl_al, hx_kd_al, hx_ln_al, hx_I_al, hx_L_al, hx_R_al, hx_nx_row, hx_ce_row, hx_sl_row, hx_kd_row, hx_ln_row, hx_I_row, hx_L_row, hx_R_row, hx_nx_mk, hx_kd_mk, hx_ln_mk, hx_I_mk, hx_L_mk, hx_R_mk, am_wp, am_stp, am_en, am_as, am_pad, am_nth, am_set, am_st1, am_st2, am_kl, am_kill, am_mem, am_fv, am_tk, am_wt, am_bk, Option.toList, List.cons_append, List.nil_append, Nat.reduceAdd, Nat.reduceEqDiff, Nat.reduceLeDiff, reduceIte, Nat.reduceLT, or_self, true_or, or_true, if_true, if_false, and_self, and_true, true_and, not_false_eq_true, not_true_eq_false]; exact ic
    generalize am_sI h 29 0 1 = g at *
    obtain ⟨n', T', -⟩ := w1.1.tb
    obtain ⟨t1, t2, t3, t4, t5, t6, t7, t8, t9, t10, t11, t12, t13, t14⟩ := id T'
    have k29 := w1.1.kd 29 11 (by decide)
    have r29 := w1.1.R 29 4 3 (by decide)
    refine am_go [97, 39] 3 ?_
    simp only [am_wp, am_stp, am_en, am_as, am_pad, am_nth, am_set, am_st1, am_st2, am_kl, am_kill, am_mem, am_fv, am_tk, am_wt, am_bk, Option.toList, List.cons_append, List.nil_append, Nat.reduceAdd, Nat.reduceEqDiff, Nat.reduceLeDiff, reduceIte, Nat.reduceLT, or_self, true_or, or_true, if_true, if_false, and_self, and_true, true_and, not_false_eq_true, not_true_eq_false, fd_TableStream_step_32, fd_TableStream_step_33, fd_TableStream_step_36, k29, f0, one0]
    refine am_go [] 8 ?_
    simp only [am_wp, am_stp, am_en, am_as, am_pad, am_nth, am_set, am_st1, am_st2, am_kl, am_kill, am_mem, am_fv, am_tk, am_wt, am_bk, Option.toList, List.cons_append, List.nil_append, Nat.reduceAdd, Nat.reduceEqDiff, Nat.reduceLeDiff, reduceIte, Nat.reduceLT, or_self, true_or, or_true, if_true, if_false, and_self, and_true, true_and, not_false_eq_true, not_true_eq_false, fd_TableStream_step_39, fd_TableStream_step_40, fd_TableStream_step_41, fd_TableStream_step_44, fd_TableStream_step_47, fd_TableStream_step_48, fd_TableStream_step_51, fd_TableStream_step_52, k29, r29, f5, t1, t2, t6, t7, i1, q1]
    refine am_go [] 8 ?_
    simp only [am_wp, am_stp, am_en, am_as, am_pad, am_nth, am_set, am_st1, am_st2, am_kl, am_kill, am_mem, am_fv, am_tk, am_wt, am_bk, Option.toList, List.cons_append, List.nil_append, Nat.reduceAdd, Nat.reduceEqDiff, Nat.reduceLeDiff, reduceIte, Nat.reduceLT, or_self, true_or, or_true, if_true, if_false, and_self, and_true, true_and, not_false_eq_true, not_true_eq_false, fd_TableStream_step_55, fd_TableStream_step_56, fd_TableStream_step_57, fd_TableStream_step_60, fd_TableStream_step_63, fd_TableStream_step_64, fd_TableStream_step_67, fd_TableStream_step_68, hx_nx_sI, hx_ce_sI, hx_sl_sI, hx_kd_sI, hx_ln_sI, hx_I_sI, hx_L_sI, hx_R_sI, hx_nx_sL, hx_ce_sL, hx_sl_sL, hx_kd_sL, hx_ln_sL, hx_I_sL, hx_L_sL, hx_R_sL, hx_nx_sR, hx_ce_sR, hx_sl_sR, hx_kd_sR, hx_ln_sR, hx_I_sR, hx_L_sR, hx_R_sR, hx_nx_al, hx_ce_al, hx_sl_al, hx_kd_al, hx_ln_al, hx_I_al, hx_L_al, hx_R_al, hx_nx_row, hx_ce_row, hx_sl_row, hx_kd_row, hx_ln_row, hx_I_row, hx_L_row, hx_R_row, hx_nx_mk, hx_kd_mk, hx_ln_mk, hx_I_mk, hx_L_mk, hx_R_mk, k29, r29, f5, t1, t3, t8, t9, i1, q1]
    refine am_go [] 8 ?_
    simp only [am_wp, am_stp, am_en, am_as, am_pad, am_nth, am_set, am_st1, am_st2, am_kl, am_kill, am_mem, am_fv, am_tk, am_wt, am_bk, Option.toList, List.cons_append, List.nil_append, Nat.reduceAdd, Nat.reduceEqDiff, Nat.reduceLeDiff, reduceIte, Nat.reduceLT, or_self, true_or, or_true, if_true, if_false, and_self, and_true, true_and, not_false_eq_true, not_true_eq_false, fd_TableStream_step_71, fd_TableStream_step_72, fd_TableStream_step_73, fd_TableStream_step_76, fd_TableStream_step_79, fd_TableStream_step_80, fd_TableStream_step_83, fd_TableStream_step_84, hx_nx_sI, hx_ce_sI, hx_sl_sI, hx_kd_sI, hx_ln_sI, hx_I_sI, hx_L_sI, hx_R_sI, hx_nx_sL, hx_ce_sL, hx_sl_sL, hx_kd_sL, hx_ln_sL, hx_I_sL, hx_L_sL, hx_R_sL, hx_nx_sR, hx_ce_sR, hx_sl_sR, hx_kd_sR, hx_ln_sR, hx_I_sR, hx_L_sR, hx_R_sR, hx_nx_al, hx_ce_al, hx_sl_al, hx_kd_al, hx_ln_al, hx_I_al, hx_L_al, hx_R_al, hx_nx_row, hx_ce_row, hx_sl_row, hx_kd_row, hx_ln_row, hx_I_row, hx_L_row, hx_R_row, hx_nx_mk, hx_kd_mk, hx_ln_mk, hx_I_mk, hx_L_mk, hx_R_mk, k29, r29, f5, t1, t4, t10, t11, i1, q1]
    refine am_go [] 7 ?_
    simp only [am_wp, am_stp, am_en, am_as, am_pad, am_nth, am_set, am_st1, am_st2, am_kl, am_kill, am_mem, am_fv, am_tk, am_wt, am_bk, Option.toList, List.cons_append, List.nil_append, Nat.reduceAdd, Nat.reduceEqDiff, Nat.reduceLeDiff, reduceIte, Nat.reduceLT, or_self, true_or, or_true, if_true, if_false, and_self, and_true, true_and, not_false_eq_true, not_true_eq_false, fd_TableStream_step_87, fd_TableStream_step_88, fd_TableStream_step_89, fd_TableStream_step_92, fd_TableStream_step_93, fd_TableStream_step_94, fd_TableStream_step_97, hx_nx_sI, hx_ce_sI, hx_sl_sI, hx_kd_sI, hx_ln_sI, hx_I_sI, hx_L_sI, hx_R_sI, hx_nx_sL, hx_ce_sL, hx_sl_sL, hx_kd_sL, hx_ln_sL, hx_I_sL, hx_L_sL, hx_R_sL, hx_nx_sR, hx_ce_sR, hx_sl_sR, hx_kd_sR, hx_ln_sR, hx_I_sR, hx_L_sR, hx_R_sR, hx_nx_al, hx_ce_al, hx_sl_al, hx_kd_al, hx_ln_al, hx_I_al, hx_L_al, hx_R_al, hx_nx_row, hx_ce_row, hx_sl_row, hx_kd_row, hx_ln_row, hx_I_row, hx_L_row, hx_R_row, hx_nx_mk, hx_kd_mk, hx_ln_mk, hx_I_mk, hx_L_mk, hx_R_mk, k29, f5, nI_1]
    exact (((w1.sL (cw_lt (by omega) (by omega)) (by decide)).s29 (by decide)).sL (cw_lt (by omega) (by omega)) (by decide)).s29n (by omega)
  · have l1 : ¬ nI c < 64 := nI_nlt (b := 64) (by omega) (by omega)
    refine am_go [24, 28] 4 ?_
    simp only [am_wp, am_stp, am_en, am_as, am_pad, am_nth, am_set, am_st1, am_st2, am_kl, am_kill, am_mem, am_fv, am_tk, am_wt, am_bk, Option.toList, List.cons_append, List.nil_append, Nat.reduceAdd, Nat.reduceEqDiff, Nat.reduceLeDiff, reduceIte, Nat.reduceLT, or_self, true_or, or_true, if_true, if_false, and_self, and_true, true_and, not_false_eq_true, not_true_eq_false, fd_TableStream_step_15, fd_TableStream_step_16, fd_TableStream_step_19, fd_TableStream_step_21, k29, ic, l1]
    exact no
theorem wcell_25 {P j : Nat} {v : Int32} (h5 : j = 5 → wn 10 v) (h6 : j = 6 → wn 9 v) : wcell P 25 j v := by
  refine ⟨fun q => ?_, fun q => ?_, fun q => ?_, fun q => ?_, fun q => ?_, fun q => h5 q.2, fun q => h6 q.2, fun q => ?_⟩ <;> omega
theorem wp.s25 {P k j : Nat} {v : Int32} {h g : am_H} (w : wp P k h g) (h5 : j = 5 → wn 10 v) (h6 : j = 6 → wn 9 v) : wp P k h (am_sI g 25 j v) := w.sI (cw_lt (by omega) (by omega)) (fun e => absurd e (by decide)) (wcell_25 h5 h6)
theorem wp.s28 {P k i b : Nat} {h g : am_H} (w : wp P k h g) (h1 : 29 ≤ b) (h2 : b ≤ 38) : wp P k h (am_sR g 28 i b) := by
  obtain ⟨⟨⟨c1, c2, c3, c4, c5, c6, c7, c8, c9⟩, w2, w3⟩, f⟩ := w
  have hR : ∀ q, q ≠ 28 → am_R (am_sR g 28 i b) q = am_R g q := fun q hq => by
    funext j
    rw [hx_R_sR, if_neg hq]
  have k28 : am_kd g 28 = 203 := c1 (28, 203) (by decide)
  have upr : ∀ a, ru0 (am_kd g) (am_ln g) (am_R g) (am_nx g) a → ru0 (am_kd g) (am_ln g) (am_R (am_sR g 28 i b)) (am_nx g) a := fun a r => by
    have ne : a ≠ 28 := fun e => by have := r.1; rw [e, k28] at this; exact absurd this (by decide)
    exact r.up (fun _ _ => rfl) (fun _ _ => rfl) (by rw [hR a ne]) (Nat.le_refl _)
  have nR : ∀ q ∈ wk_R, q.1 ≠ 28 := by decide
  have na : ∀ q ∈ wk_as, q ≠ 28 := by decide
  refine ⟨⟨⟨c1, c2, c3, fun q hq => ?_, fun t ht j hj => ?_, fun j hj => ?_, c7, c8, c9⟩, w2, w3⟩, f.trans (l := 0) ⟨fun q hq => ⟨rfl, rfl, rfl, rfl, hR q (by omega)⟩, Nat.le_refl _, Nat.le_refl _, Nat.le_refl _, fun a _ ra => upr a ra⟩⟩
  · rw [hR _ (nR q hq)]; exact c4 q hq
  · rw [hR _ (na t ht)]; exact upr _ (c5 t ht j hj)
  · rw [hx_R_sR, if_pos rfl]
    by_cases e : j = i
    · rw [if_pos e]; exact ⟨h1, h2⟩
    · rw [if_neg e]; exact c6 j hj
theorem ww_begin {d P : Nat} {v : Int32} {h : am_H} (w : wk P h) (hv : v = 0 ∨ v = 1) : am_Rt nm_pr (d + 1) mi_Blend_begin [.ref 25, .int v] h (fun o h' => o = .inl none ∧ wp P 0 h h') := by
  refine am_in' mt_Blend_begin 2 rfl rfl rfl ?_
  refine am_go [] 12 ?_
  simp only [am_wp, am_stp, am_en, am_as, am_pad, am_nth, am_set, am_st1, am_st2, am_kl, am_kill, am_mem, am_fv, am_tk, am_wt, am_bk, Option.toList, List.cons_append, List.nil_append, Nat.reduceAdd, Nat.reduceEqDiff, Nat.reduceLeDiff, reduceIte, Nat.reduceLT, or_self, true_or, or_true, if_true, if_false, and_self, and_true, true_and, not_false_eq_true, not_true_eq_false, fd_Blend_begin_0, fd_Blend_begin_1, fd_Blend_begin_2, fd_Blend_begin_5, fd_Blend_begin_6, fd_Blend_begin_7, fd_Blend_begin_10, fd_Blend_begin_11, fd_Blend_begin_12, fd_Blend_begin_15, hx_nx_sI, hx_ce_sI, hx_sl_sI, hx_kd_sI, hx_ln_sI, hx_I_sI, hx_L_sI, hx_R_sI, hx_nx_sL, hx_ce_sL, hx_sl_sL, hx_kd_sL, hx_ln_sL, hx_I_sL, hx_L_sL, hx_R_sL, hx_nx_sR, hx_ce_sR, hx_sl_sR, hx_kd_sR, hx_ln_sR, hx_I_sR, hx_L_sR, hx_R_sR, hx_nx_al, hx_ce_al, hx_sl_al, hx_kd_al, hx_ln_al, hx_I_al, hx_L_al, hx_R_al, hx_nx_row, hx_ce_row, hx_sl_row, hx_kd_row, hx_ln_row, hx_I_row, hx_L_row, hx_R_row, hx_nx_mk, hx_kd_mk, hx_ln_mk, hx_I_mk, hx_L_mk, hx_R_mk, w.kd 25 2 (by decide), hv]
  exact (((wp.refl w).s25 (fun e => absurd e (by decide)) (fun e => absurd e (by decide))).s25 (fun _ => ⟨0, by omega, rfl⟩) (fun e => absurd e (by decide))).s25 (fun e => absurd e (by decide)) (fun _ => ⟨0, by omega, rfl⟩)
theorem wk.in {P t : Nat} {h : am_H} (w : wk P h) (h1 : 29 ≤ t) (h2 : t ≤ 38) : am_kd h t = 7 ∨ am_kd h t = 11 := by
  by_cases e : t = 29
  · rw [e]; exact Or.inr (w.kd 29 11 (by decide))
  · exact Or.inl (w.st (by omega) (by omega)).1
theorem ww_addInput {d P t : Nat} {h : am_H} (w : wk P h) (h1 : 29 ≤ t) (h2 : t ≤ 38) : am_Rt nm_pr (d + 1) mi_Blend_addInput [.ref 25, .ref t] h (fun o h' => o = .inl none ∧ wp P 0 h h') := by
  have k25 := w.kd 25 2 (by decide)
  have r4 := w.R 25 4 28 (by decide)
  have k28 := w.kd 28 203 (by decide)
  have n28 := w.ln 28 10 (by decide)
  have n1 : (200 ≤ 203 ∧ 203 < 204) := by decide
  obtain ⟨c, hc, ic⟩ : wn 10 (am_I h 25 5) := (w.2.1 25 5).2.2.2.2.2.1 ⟨rfl, rfl⟩
  refine am_in' mt_Blend_addInput 2 rfl rfl rfl ?_
  by_cases e : c < 10
  · have l1 : nI c < 10 := nI_lt (b := 10) e (by decide)
    have i1 := am_inb (c := c) (N := 10) e (by omega)
    have q1 : (nI c).toNatClampNeg = c := nI_clamp (by omega)
    refine am_go [29, 9] 4 ?_
    simp only [am_wp, am_stp, am_en, am_as, am_pad, am_nth, am_set, am_st1, am_st2, am_kl, am_kill, am_mem, am_fv, am_tk, am_wt, am_bk, Option.toList, List.cons_append, List.nil_append, Nat.reduceAdd, Nat.reduceEqDiff, Nat.reduceLeDiff, reduceIte, Nat.reduceLT, or_self, true_or, or_true, if_true, if_false, and_self, and_true, true_and, not_false_eq_true, not_true_eq_false, fd_Blend_addInput_0, fd_Blend_addInput_1, fd_Blend_addInput_4, fd_Blend_addInput_6, k25, ic, l1]
    refine am_go [] 5 ?_
    simp only [am_wp, am_stp, am_en, am_as, am_pad, am_nth, am_set, am_st1, am_st2, am_kl, am_kill, am_mem, am_fv, am_tk, am_wt, am_bk, Option.toList, List.cons_append, List.nil_append, Nat.reduceAdd, Nat.reduceEqDiff, Nat.reduceLeDiff, reduceIte, Nat.reduceLT, or_self, true_or, or_true, if_true, if_false, and_self, and_true, true_and, not_false_eq_true, not_true_eq_false, fd_Blend_addInput_9, fd_Blend_addInput_10, fd_Blend_addInput_13, fd_Blend_addInput_14, fd_Blend_addInput_17, k25, r4, ic]
    have w1 := (wp.refl w).s28 (i := c) h1 h2
    have f5 : am_I (am_sR h 28 c t) 25 5 = nI c := ic
    have tail : am_Ex nm_pr d mt_Blend_addInput (19, [.ref 25, .ref t], [], am_sR h 28 c t) (fun o h' => o = .inl none ∧ wp P 0 h h') := by
      generalize am_sR h 28 c t = g at *
      refine am_go [] 7 ?_
      simp only [am_wp, am_stp, am_en, am_as, am_pad, am_nth, am_set, am_st1, am_st2, am_kl, am_kill, am_mem, am_fv, am_tk, am_wt, am_bk, Option.toList, List.cons_append, List.nil_append, Nat.reduceAdd, Nat.reduceEqDiff, Nat.reduceLeDiff, reduceIte, Nat.reduceLT, or_self, true_or, or_true, if_true, if_false, and_self, and_true, true_and, not_false_eq_true, not_true_eq_false, fd_Blend_addInput_19, fd_Blend_addInput_20, fd_Blend_addInput_21, fd_Blend_addInput_24, fd_Blend_addInput_25, fd_Blend_addInput_26, fd_Blend_addInput_29, w1.1.kd 25 2 (by decide), f5, nI_1]
      exact w1.s25 (fun _ => ⟨c + 1, by omega, rfl⟩) (fun e => absurd e (by decide))
    rcases w.in h1 h2 with kt | kt
    · refine am_go [19] 1 ?_
      simp only [am_wp, am_stp, am_en, am_as, am_pad, am_nth, am_set, am_st1, am_st2, am_kl, am_kill, am_mem, am_fv, am_tk, am_wt, am_bk, Option.toList, List.cons_append, List.nil_append, Nat.reduceAdd, Nat.reduceEqDiff, Nat.reduceLeDiff, reduceIte, Nat.reduceLT, or_self, true_or, or_true, if_true, if_false, and_self, and_true, true_and, not_false_eq_true, not_true_eq_false, fd_Blend_addInput_18, k28, n28, n1, i1, q1, kt]
      exact tail
    · refine am_go [19] 1 ?_
      simp only [am_wp, am_stp, am_en, am_as, am_pad, am_nth, am_set, am_st1, am_st2, am_kl, am_kill, am_mem, am_fv, am_tk, am_wt, am_bk, Option.toList, List.cons_append, List.nil_append, Nat.reduceAdd, Nat.reduceEqDiff, Nat.reduceLeDiff, reduceIte, Nat.reduceLT, or_self, true_or, or_true, if_true, if_false, and_self, and_true, true_and, not_false_eq_true, not_true_eq_false, fd_Blend_addInput_18, k28, n28, n1, i1, q1, kt]
      exact tail
  · have l1 : ¬ nI c < 10 := nI_nlt (b := 10) (by omega) (by omega)
    refine am_go [9] 6 ?_
    simp only [am_wp, am_stp, am_en, am_as, am_pad, am_nth, am_set, am_st1, am_st2, am_kl, am_kill, am_mem, am_fv, am_tk, am_wt, am_bk, Option.toList, List.cons_append, List.nil_append, Nat.reduceAdd, Nat.reduceEqDiff, Nat.reduceLeDiff, reduceIte, Nat.reduceLT, or_self, true_or, or_true, if_true, if_false, and_self, and_true, true_and, not_false_eq_true, not_true_eq_false, fd_Blend_addInput_0, fd_Blend_addInput_1, fd_Blend_addInput_4, fd_Blend_addInput_6, fd_Blend_addInput_29, k25, ic, l1]
    exact wp.refl w
theorem ww_addTable {d P : Nat} {h : am_H} (w : wk P h) : am_Rt nm_pr (d + 2) mi_Blend_addTable [.ref 25] h (fun o h' => o = .inl none ∧ wp P 0 h h') := by
  refine am_in' (d := d + 1) mt_Blend_addTable 1 rfl rfl rfl ?_
  refine am_go [] 3 ?_
  simp only [am_wp, am_stp, am_en, am_as, am_pad, am_nth, am_set, am_st1, am_st2, am_kl, am_kill, am_mem, am_fv, am_tk, am_wt, am_bk, Option.toList, List.cons_append, List.nil_append, Nat.reduceAdd, Nat.reduceEqDiff, Nat.reduceLeDiff, reduceIte, Nat.reduceLT, or_self, true_or, or_true, if_true, if_false, and_self, and_true, true_and, not_false_eq_true, not_true_eq_false, fd_Blend_addTable_0, fd_Blend_addTable_1, fd_Blend_addTable_4, w.kd 25 2 (by decide), w.R 25 2 29 (by decide), w.kd 29 11 (by decide)]
  refine am_call (ww_TSstart w) (fun o h1 q => ?_)
  obtain ⟨rfl, w1⟩ := q
  simp only [am_wp, am_stp, am_en, am_as, am_pad, am_nth, am_set, am_st1, am_st2, am_kl, am_kill, am_mem, am_fv, am_tk, am_wt, am_bk, Option.toList, List.cons_append, List.nil_append, Nat.reduceAdd, Nat.reduceEqDiff, Nat.reduceLeDiff, reduceIte, Nat.reduceLT, or_self, true_or, or_true, if_true, if_false, and_self, and_true, true_and, not_false_eq_true, not_true_eq_false]
  refine am_go [] 3 ?_
  simp only [am_wp, am_stp, am_en, am_as, am_pad, am_nth, am_set, am_st1, am_st2, am_kl, am_kill, am_mem, am_fv, am_tk, am_wt, am_bk, Option.toList, List.cons_append, List.nil_append, Nat.reduceAdd, Nat.reduceEqDiff, Nat.reduceLeDiff, reduceIte, Nat.reduceLT, or_self, true_or, or_true, if_true, if_false, and_self, and_true, true_and, not_false_eq_true, not_true_eq_false, fd_Blend_addTable_7, fd_Blend_addTable_8, fd_Blend_addTable_11, w1.1.kd 25 2 (by decide), w1.1.R 25 2 29 (by decide), w1.1.kd 29 11 (by decide)]
  refine am_call (ww_TSstep w1.1) (fun o h2 q => ?_)
  obtain ⟨rfl, w2⟩ := q
  simp only [am_wp, am_stp, am_en, am_as, am_pad, am_nth, am_set, am_st1, am_st2, am_kl, am_kill, am_mem, am_fv, am_tk, am_wt, am_bk, Option.toList, List.cons_append, List.nil_append, Nat.reduceAdd, Nat.reduceEqDiff, Nat.reduceLeDiff, reduceIte, Nat.reduceLT, or_self, true_or, or_true, if_true, if_false, and_self, and_true, true_and, not_false_eq_true, not_true_eq_false]
  refine am_go [] 4 ?_
  simp only [am_wp, am_stp, am_en, am_as, am_pad, am_nth, am_set, am_st1, am_st2, am_kl, am_kill, am_mem, am_fv, am_tk, am_wt, am_bk, Option.toList, List.cons_append, List.nil_append, Nat.reduceAdd, Nat.reduceEqDiff, Nat.reduceLeDiff, reduceIte, Nat.reduceLT, or_self, true_or, or_true, if_true, if_false, and_self, and_true, true_and, not_false_eq_true, not_true_eq_false, fd_Blend_addTable_14, fd_Blend_addTable_15, fd_Blend_addTable_16, fd_Blend_addTable_19, w2.1.kd 25 2 (by decide), w2.1.R 25 2 29 (by decide)]
  refine am_call (ww_addInput w2.1 (by omega) (by omega)) (fun o h3 q => ?_)
  obtain ⟨rfl, w3⟩ := q
  simp only [am_wp, am_stp, am_en, am_as, am_pad, am_nth, am_set, am_st1, am_st2, am_kl, am_kill, am_mem, am_fv, am_tk, am_wt, am_bk, Option.toList, List.cons_append, List.nil_append, Nat.reduceAdd, Nat.reduceEqDiff, Nat.reduceLeDiff, reduceIte, Nat.reduceLT, or_self, true_or, or_true, if_true, if_false, and_self, and_true, true_and, not_false_eq_true, not_true_eq_false]
  refine am_go [] 2 ?_
  simp only [am_wp, am_stp, am_en, am_as, am_pad, am_nth, am_set, am_st1, am_st2, am_kl, am_kill, am_mem, am_fv, am_tk, am_wt, am_bk, Option.toList, List.cons_append, List.nil_append, Nat.reduceAdd, Nat.reduceEqDiff, Nat.reduceLeDiff, reduceIte, Nat.reduceLT, or_self, true_or, or_true, if_true, if_false, and_self, and_true, true_and, not_false_eq_true, not_true_eq_false, fd_Blend_addTable_22]
  exact ((w1.trans w2).trans w3).mono (by omega)
theorem ww_addRun {d P a : Nat} {z : Int64} {h : am_H} (w : wk P h) (r : ruh h a) : am_Rt nm_pr (d + 4) mi_Blend_addRun [.ref 25, .ref a, .long z] h (fun o h' => o = .inl none ∧ wp P 0 h h') := by
  have k25 := w.kd 25 2 (by decide)
  have r3 := w.R 25 3 27 (by decide)
  have k27 := w.kd 27 202 (by decide)
  have n27 := w.ln 27 9 (by decide)
  have n1 : (200 ≤ 202 ∧ 202 < 204) := by decide
  obtain ⟨c, hc, ic⟩ : wn 9 (am_I h 25 6) := (w.2.1 25 6).2.2.2.2.2.2.1 ⟨rfl, rfl⟩
  refine am_in' (d := d + 3) mt_Blend_addRun 5 rfl rfl rfl ?_
  by_cases e : c < 9
  · have l1 : nI c < 9 := nI_lt (b := 9) e (by decide)
    have i1 := am_inb (c := c) (N := 9) e (by omega)
    have q1 : (nI c).toNatClampNeg = c := nI_clamp (by omega)
    have rc : am_R h 27 c = 30 + c := by
      have e9 : c = 0 ∨ c = 1 ∨ c = 2 ∨ c = 3 ∨ c = 4 ∨ c = 5 ∨ c = 6 ∨ c = 7 ∨ c = 8 := by omega
      rcases e9 with e | e | e | e | e | e | e | e | e <;> subst e <;> exact w.R 27 _ _ (by decide)
    refine am_go [48, 9] 4 ?_
    simp only [am_wp, am_stp, am_en, am_as, am_pad, am_nth, am_set, am_st1, am_st2, am_kl, am_kill, am_mem, am_fv, am_tk, am_wt, am_bk, Option.toList, List.cons_append, List.nil_append, Nat.reduceAdd, Nat.reduceEqDiff, Nat.reduceLeDiff, reduceIte, Nat.reduceLT, or_self, true_or, or_true, if_true, if_false, and_self, and_true, true_and, not_false_eq_true, not_true_eq_false, fd_Blend_addRun_0, fd_Blend_addRun_1, fd_Blend_addRun_4, fd_Blend_addRun_6, k25, ic, l1]
    refine am_go [] 6 ?_
    simp only [am_wp, am_stp, am_en, am_as, am_pad, am_nth, am_set, am_st1, am_st2, am_kl, am_kill, am_mem, am_fv, am_tk, am_wt, am_bk, Option.toList, List.cons_append, List.nil_append, Nat.reduceAdd, Nat.reduceEqDiff, Nat.reduceLeDiff, reduceIte, Nat.reduceLT, or_self, true_or, or_true, if_true, if_false, and_self, and_true, true_and, not_false_eq_true, not_true_eq_false, fd_Blend_addRun_9, fd_Blend_addRun_10, fd_Blend_addRun_13, fd_Blend_addRun_14, fd_Blend_addRun_17, fd_Blend_addRun_18, k25, r3, ic, k27, n27, n1, i1, q1, rc]
    refine am_go [] 6 ?_
    simp only [am_wp, am_stp, am_en, am_as, am_pad, am_nth, am_set, am_st1, am_st2, am_kl, am_kill, am_mem, am_fv, am_tk, am_wt, am_bk, Option.toList, List.cons_append, List.nil_append, Nat.reduceAdd, Nat.reduceEqDiff, Nat.reduceLeDiff, reduceIte, Nat.reduceLT, or_self, true_or, or_true, if_true, if_false, and_self, and_true, true_and, not_false_eq_true, not_true_eq_false, fd_Blend_addRun_20, fd_Blend_addRun_21, fd_Blend_addRun_22, fd_Blend_addRun_25, fd_Blend_addRun_26, fd_Blend_addRun_27, k25, ic, nI_1]
    have w1 := (wp.refl w).s25 (j := 6) (v := nI (c + 1)) (fun e => absurd e (by decide)) (fun _ => ⟨c + 1, by omega, rfl⟩)
    generalize am_sI h 25 6 (nI (c + 1)) = g1 at *
    have r1 := w1.2.ru r
    refine am_go [] 4 ?_
    simp only [am_wp, am_stp, am_en, am_as, am_pad, am_nth, am_set, am_st1, am_st2, am_kl, am_kill, am_mem, am_fv, am_tk, am_wt, am_bk, Option.toList, List.cons_append, List.nil_append, Nat.reduceAdd, Nat.reduceEqDiff, Nat.reduceLeDiff, reduceIte, Nat.reduceLT, or_self, true_or, or_true, if_true, if_false, and_self, and_true, true_and, not_false_eq_true, not_true_eq_false, fd_Blend_addRun_30, fd_Blend_addRun_32, fd_Blend_addRun_33, fd_Blend_addRun_34, (w1.1.st (t := 30 + c) (by omega) (by omega)).1]
    refine am_call (ww_start w1.1 (by omega) (by omega) r1) (fun o g2 q => ?_)
    obtain ⟨rfl, w2⟩ := q
    simp only [am_wp, am_stp, am_en, am_as, am_pad, am_nth, am_set, am_st1, am_st2, am_kl, am_kill, am_mem, am_fv, am_tk, am_wt, am_bk, Option.toList, List.cons_append, List.nil_append, Nat.reduceAdd, Nat.reduceEqDiff, Nat.reduceLeDiff, reduceIte, Nat.reduceLT, or_self, true_or, or_true, if_true, if_false, and_self, and_true, true_and, not_false_eq_true, not_true_eq_false]
    refine am_go [] 2 ?_
    simp only [am_wp, am_stp, am_en, am_as, am_pad, am_nth, am_set, am_st1, am_st2, am_kl, am_kill, am_mem, am_fv, am_tk, am_wt, am_bk, Option.toList, List.cons_append, List.nil_append, Nat.reduceAdd, Nat.reduceEqDiff, Nat.reduceLeDiff, reduceIte, Nat.reduceLT, or_self, true_or, or_true, if_true, if_false, and_self, and_true, true_and, not_false_eq_true, not_true_eq_false, fd_Blend_addRun_37, fd_Blend_addRun_39, (w2.1.st (t := 30 + c) (by omega) (by omega)).1]
    refine am_call (ww_RSstep w2.1 (by omega) (by omega)) (fun o g3 q => ?_)
    obtain ⟨rfl, w3⟩ := q
    simp only [am_wp, am_stp, am_en, am_as, am_pad, am_nth, am_set, am_st1, am_st2, am_kl, am_kill, am_mem, am_fv, am_tk, am_wt, am_bk, Option.toList, List.cons_append, List.nil_append, Nat.reduceAdd, Nat.reduceEqDiff, Nat.reduceLeDiff, reduceIte, Nat.reduceLT, or_self, true_or, or_true, if_true, if_false, and_self, and_true, true_and, not_false_eq_true, not_true_eq_false]
    refine am_go [] 3 ?_
    simp only [am_wp, am_stp, am_en, am_as, am_pad, am_nth, am_set, am_st1, am_st2, am_kl, am_kill, am_mem, am_fv, am_tk, am_wt, am_bk, Option.toList, List.cons_append, List.nil_append, Nat.reduceAdd, Nat.reduceEqDiff, Nat.reduceLeDiff, reduceIte, Nat.reduceLT, or_self, true_or, or_true, if_true, if_false, and_self, and_true, true_and, not_false_eq_true, not_true_eq_false, fd_Blend_addRun_42, fd_Blend_addRun_43, fd_Blend_addRun_45, w3.1.kd 25 2 (by decide)]
    refine am_call (ww_addInput w3.1 (by omega) (by omega)) (fun o g4 q => ?_)
    obtain ⟨rfl, w4⟩ := q
    simp only [am_wp, am_stp, am_en, am_as, am_pad, am_nth, am_set, am_st1, am_st2, am_kl, am_kill, am_mem, am_fv, am_tk, am_wt, am_bk, Option.toList, List.cons_append, List.nil_append, Nat.reduceAdd, Nat.reduceEqDiff, Nat.reduceLeDiff, reduceIte, Nat.reduceLT, or_self, true_or, or_true, if_true, if_false, and_self, and_true, true_and, not_false_eq_true, not_true_eq_false]
    refine am_go [] 2 ?_
    simp only [am_wp, am_stp, am_en, am_as, am_pad, am_nth, am_set, am_st1, am_st2, am_kl, am_kill, am_mem, am_fv, am_tk, am_wt, am_bk, Option.toList, List.cons_append, List.nil_append, Nat.reduceAdd, Nat.reduceEqDiff, Nat.reduceLeDiff, reduceIte, Nat.reduceLT, or_self, true_or, or_true, if_true, if_false, and_self, and_true, true_and, not_false_eq_true, not_true_eq_false, fd_Blend_addRun_48]
    exact (((w1.trans w2).trans w3).trans w4).mono (by omega)
  · have l1 : ¬ nI c < 9 := nI_nlt (b := 9) (by omega) (by omega)
    refine am_go [9] 6 ?_
    simp only [am_wp, am_stp, am_en, am_as, am_pad, am_nth, am_set, am_st1, am_st2, am_kl, am_kill, am_mem, am_fv, am_tk, am_wt, am_bk, Option.toList, List.cons_append, List.nil_append, Nat.reduceAdd, Nat.reduceEqDiff, Nat.reduceLeDiff, reduceIte, Nat.reduceLT, or_self, true_or, or_true, if_true, if_false, and_self, and_true, true_and, not_false_eq_true, not_true_eq_false, fd_Blend_addRun_0, fd_Blend_addRun_1, fd_Blend_addRun_4, fd_Blend_addRun_6, fd_Blend_addRun_48, k25, ic, l1]
    exact wp.refl w
