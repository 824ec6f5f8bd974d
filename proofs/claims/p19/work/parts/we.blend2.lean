/-! THE BLEND, WEAKLY, 2 -/
theorem wk.inR {P i : Nat} {h : am_H} (w : wk P h) (hi : i < 10) : (29 ≤ am_R h 28 i ∧ am_R h 28 i ≤ 38) := w.1.2.2.2.2.2.1 i hi
theorem ww_findLeast_loop {d P : Nat} {h : am_H} : ∀ (m i : Nat) (b : Int32) (x : Value) (g : am_H), m + i = 10 → (b = 0 ∨ b = 1) → wp P 0 h g →
    am_Ex nm_pr d mt_Blend_findLeast (4, [.ref 25, .int b, .int (nI i), x], [], g) (fun o h' => b01 o ∧ wp P 0 h h')
  | m, i, b, x, g, hm, hb, w => by
    have k25 := w.1.kd 25 2 (by decide)
    have r4 := w.1.R 25 4 28 (by decide)
    have k28 := w.1.kd 28 203 (by decide)
    have n28 := w.1.ln 28 10 (by decide)
    have n1 : (200 ≤ 203 ∧ 203 < 204) := by decide
    have o1 : (1 : Int32) = 0 ∨ (1 : Int32) = 1 := by decide
    obtain ⟨c, hc, ic⟩ : wn 10 (am_I g 25 5) := (w.1.2.1 25 5).2.2.2.2.2.1 ⟨rfl, rfl⟩
    by_cases e : i < c
    · have l1 : nI i < nI c := nI_lt e (by omega)
      have i1 := am_inb (c := i) (N := 10) (by omega) (by omega)
      have q1 : (nI i).toNatClampNeg = i := nI_clamp (by omega)
      obtain ⟨t1, t2⟩ := w.1.inR (i := i) (by omega)
      have gx : (am_kd g (am_R g 28 i) = 7 ∨ am_kd g (am_R g 28 i) = 11) = True := eq_true (w.1.in t1 t2)
      cases m with
      | zero => omega
      | succ m =>
        have nx : ∀ (b : Int32) (x : Value) (g' : am_H), (b = 0 ∨ b = 1) → wp P 0 h g' → am_Ex nm_pr d mt_Blend_findLeast (52, [.ref 25, .int b, .int (nI i), x], [], g') (fun o h' => b01 o ∧ wp P 0 h h') := fun b x g' hb w' => by
          refine am_go [4] 2 ?_
          simp only [am_wp, am_stp, am_en, am_as, am_pad, am_nth, am_set, am_st1, am_st2, am_kl, am_kill, am_mem, am_fv, am_tk, am_wt, am_bk, Option.toList, List.cons_append, List.nil_append, Nat.reduceAdd, Nat.reduceEqDiff, Nat.reduceLeDiff, reduceIte, Nat.reduceLT, or_self, true_or, or_true, if_true, if_false, and_self, and_true, true_and, not_false_eq_true, not_true_eq_false, fd_Blend_findLeast_52, fd_Blend_findLeast_55, nI_1]
          exact ww_findLeast_loop m (i + 1) b x g' (by omega) hb w'
        have take : am_Ex nm_pr d mt_Blend_findLeast (42, [.ref 25, .int b, .int (nI i), .ref (am_R g 28 i)], [], g) (fun o h' => b01 o ∧ wp P 0 h h') := by
          refine am_go [52] 6 ?_
          simp only [am_wp, am_stp, am_en, am_as, am_pad, am_nth, am_set, am_st1, am_st2, am_kl, am_kill, am_mem, am_fv, am_tk, am_wt, am_bk, Option.toList, List.cons_append, List.nil_append, Nat.reduceAdd, Nat.reduceEqDiff, Nat.reduceLeDiff, reduceIte, Nat.reduceLT, or_self, true_or, or_true, if_true, if_false, and_self, and_true, true_and, not_false_eq_true, not_true_eq_false, fd_Blend_findLeast_42, fd_Blend_findLeast_43, fd_Blend_findLeast_44, fd_Blend_findLeast_47, fd_Blend_findLeast_50, fd_Blend_findLeast_51, k25, gx]
          exact nx _ _ _ o1 (w.sL (cw_lt (by omega) (by omega)) (by decide))
        refine am_go [12, 58] 4 ?_
        simp only [am_wp, am_stp, am_en, am_as, am_pad, am_nth, am_set, am_st1, am_st2, am_kl, am_kill, am_mem, am_fv, am_tk, am_wt, am_bk, Option.toList, List.cons_append, List.nil_append, Nat.reduceAdd, Nat.reduceEqDiff, Nat.reduceLeDiff, reduceIte, Nat.reduceLT, or_self, true_or, or_true, if_true, if_false, and_self, and_true, true_and, not_false_eq_true, not_true_eq_false, fd_Blend_findLeast_4, fd_Blend_findLeast_5, fd_Blend_findLeast_6, fd_Blend_findLeast_9, k25, ic, l1]
        refine am_go [19] 5 ?_
        simp only [am_wp, am_stp, am_en, am_as, am_pad, am_nth, am_set, am_st1, am_st2, am_kl, am_kill, am_mem, am_fv, am_tk, am_wt, am_bk, Option.toList, List.cons_append, List.nil_append, Nat.reduceAdd, Nat.reduceEqDiff, Nat.reduceLeDiff, reduceIte, Nat.reduceLT, or_self, true_or, or_true, if_true, if_false, and_self, and_true, true_and, not_false_eq_true, not_true_eq_false, fd_Blend_findLeast_12, fd_Blend_findLeast_13, fd_Blend_findLeast_16, fd_Blend_findLeast_17, fd_Blend_findLeast_18, k25, r4, k28, n28, n1, i1, q1]
        refine am_go [26, 52] 3 ?_
        simp only [am_wp, am_stp, am_en, am_as, am_pad, am_nth, am_set, am_st1, am_st2, am_kl, am_kill, am_mem, am_fv, am_tk, am_wt, am_bk, Option.toList, List.cons_append, List.nil_append, Nat.reduceAdd, Nat.reduceEqDiff, Nat.reduceLeDiff, reduceIte, Nat.reduceLT, or_self, true_or, or_true, if_true, if_false, and_self, and_true, true_and, not_false_eq_true, not_true_eq_false, fd_Blend_findLeast_19, fd_Blend_findLeast_20, fd_Blend_findLeast_23, gx]
        refine wif (nx _ _ _ hb w) ?_
        refine am_go [30, 42] 2 ?_
        simp only [am_wp, am_stp, am_en, am_as, am_pad, am_nth, am_set, am_st1, am_st2, am_kl, am_kill, am_mem, am_fv, am_tk, am_wt, am_bk, Option.toList, List.cons_append, List.nil_append, Nat.reduceAdd, Nat.reduceEqDiff, Nat.reduceLeDiff, reduceIte, Nat.reduceLT, or_self, true_or, or_true, if_true, if_false, and_self, and_true, true_and, not_false_eq_true, not_true_eq_false, fd_Blend_findLeast_26, fd_Blend_findLeast_27]
        refine wif take ?_
        refine am_go [42, 52] 6 ?_
        simp only [am_wp, am_stp, am_en, am_as, am_pad, am_nth, am_set, am_st1, am_st2, am_kl, am_kill, am_mem, am_fv, am_tk, am_wt, am_bk, Option.toList, List.cons_append, List.nil_append, Nat.reduceAdd, Nat.reduceEqDiff, Nat.reduceLeDiff, reduceIte, Nat.reduceLT, or_self, true_or, or_true, if_true, if_false, and_self, and_true, true_and, not_false_eq_true, not_true_eq_false, fd_Blend_findLeast_30, fd_Blend_findLeast_31, fd_Blend_findLeast_34, fd_Blend_findLeast_35, fd_Blend_findLeast_38, fd_Blend_findLeast_39, k25, gx]
        refine wif ?_ ?_
        · exact take
        · exact nx _ _ _ hb w
    · have l1 : ¬ nI i < nI c := nI_nlt (by omega) (by omega)
      refine am_go [12] 6 ?_
      simp only [am_wp, am_stp, am_en, am_as, am_pad, am_nth, am_set, am_st1, am_st2, am_kl, am_kill, am_mem, am_fv, am_tk, am_wt, am_bk, Option.toList, List.cons_append, List.nil_append, Nat.reduceAdd, Nat.reduceEqDiff, Nat.reduceLeDiff, reduceIte, Nat.reduceLT, or_self, true_or, or_true, if_true, if_false, and_self, and_true, true_and, not_false_eq_true, not_true_eq_false, fd_Blend_findLeast_4, fd_Blend_findLeast_5, fd_Blend_findLeast_6, fd_Blend_findLeast_9, fd_Blend_findLeast_58, fd_Blend_findLeast_59, k25, ic, l1, hb]
      refine ⟨?_, w⟩
      rcases hb with e | e <;> subst e
      · exact Or.inl rfl
      · exact Or.inr rfl
theorem ww_findLeast {d P : Nat} {h : am_H} (w : wk P h) : am_Rt nm_pr (d + 1) mi_Blend_findLeast [.ref 25] h (fun o h' => b01 o ∧ wp P 0 h h') := by
  refine am_in' mt_Blend_findLeast 4 rfl rfl rfl ?_
  refine am_go [4] 4 ?_
  simp only [am_wp, am_stp, am_en, am_as, am_pad, am_nth, am_set, am_st1, am_st2, am_kl, am_kill, am_mem, am_fv, am_tk, am_wt, am_bk, Option.toList, List.cons_append, List.nil_append, Nat.reduceAdd, Nat.reduceEqDiff, Nat.reduceLeDiff, reduceIte, Nat.reduceLT, or_self, true_or, or_true, if_true, if_false, and_self, and_true, true_and, not_false_eq_true, not_true_eq_false, fd_Blend_findLeast_0, fd_Blend_findLeast_1, fd_Blend_findLeast_2, fd_Blend_findLeast_3]
  exact ww_findLeast_loop 10 0 0 _ h rfl (by decide) (wp.refl w)
theorem ww_fate {d P t : Nat} {v : Int32} {z : Int64} {h : am_H} (w : wk P h) (ht : t = 7 ∨ t = 13 ∨ t = 26) : am_Rt nm_pr (d + 1) mi_Fate_layUpon [.ref t, .int v, .long z] h (fun o h' => o = .inl none ∧ wp P 0 h h') := by
  have kt : am_kd h t = 3 := by rcases ht with e | e | e <;> subst e <;> exact w.kd _ 3 (by decide)
  refine am_call (l2_layUpon kt) (fun o h' q => ⟨q.1, wp.fi0 w q.2.1 ?_⟩)
  rcases ht with e | e | e <;> subst e <;> simp [cw]
theorem ww_fbegin {d P t : Nat} {v : Int32} {z : Int64} {h : am_H} (w : wk P h) (ht : t = 7 ∨ t = 13 ∨ t = 26) : am_Rt nm_pr (d + 1) mi_Fate_begin [.ref t, .int v, .long z] h (fun o h' => o = .inl none ∧ wp P 0 h h') := by
  have kt : am_kd h t = 3 := by rcases ht with e | e | e <;> subst e <;> exact w.kd _ 3 (by decide)
  refine am_in' mt_Fate_begin 4 rfl rfl rfl ?_
  refine am_go [] 8 ?_
  simp only [am_wp, am_stp, am_en, am_as, am_pad, am_nth, am_set, am_st1, am_st2, am_kl, am_kill, am_mem, am_fv, am_tk, am_wt, am_bk, Option.toList, List.cons_append, List.nil_append, Nat.reduceAdd, Nat.reduceEqDiff, Nat.reduceLeDiff, reduceIte, Nat.reduceLT, or_self, true_or, or_true, if_true, if_false, and_self, and_true, true_and, not_false_eq_true, not_true_eq_false, fd_Fate_begin_0, fd_Fate_begin_1, fd_Fate_begin_2, fd_Fate_begin_5, fd_Fate_begin_6, fd_Fate_begin_7, fd_Fate_begin_10, hx_nx_sI, hx_ce_sI, hx_sl_sI, hx_kd_sI, hx_ln_sI, hx_I_sI, hx_L_sI, hx_R_sI, hx_nx_sL, hx_ce_sL, hx_sl_sL, hx_kd_sL, hx_ln_sL, hx_I_sL, hx_L_sL, hx_R_sL, hx_nx_sR, hx_ce_sR, hx_sl_sR, hx_kd_sR, hx_ln_sR, hx_I_sR, hx_L_sR, hx_R_sR, hx_nx_al, hx_ce_al, hx_sl_al, hx_kd_al, hx_ln_al, hx_I_al, hx_L_al, hx_R_al, hx_nx_row, hx_ce_row, hx_sl_row, hx_kd_row, hx_ln_row, hx_I_row, hx_L_row, hx_R_row, hx_nx_mk, hx_kd_mk, hx_ln_mk, hx_I_mk, hx_L_mk, hx_R_mk, kt]
  rcases ht with e | e | e <;> subst e <;> exact ((wp.refl w).sf (by decide)).sL (cw_lt (by omega) (by omega)) (by decide)
theorem ww_advance_in {d P : Nat} {x : Int32} {h : am_H} {Q : am_O → am_H → Prop} (hx : ∀ (i : Int32) (y : Value) (g : am_H), wp P 0 h g → am_Ex nm_pr (d + 3) mt_Blend_advance (85, [.ref 25, .int x, .int i, y], [], g) Q) : ∀ (m i : Nat) (y : Value) (g : am_H), m + i = 10 → wp P 0 h g →
    am_Ex nm_pr (d + 3) mt_Blend_advance (26, [.ref 25, .int x, .int (nI i), y], [], g) Q
  | m, i, y, g, hm, w => by
    have k25 := w.1.kd 25 2 (by decide)
    have r4 := w.1.R 25 4 28 (by decide)
    have r0 := w.1.R 25 0 26 (by decide)
    have k26 := w.1.kd 26 3 (by decide)
    have k28 := w.1.kd 28 203 (by decide)
    have n28 := w.1.ln 28 10 (by decide)
    have n1 : (200 ≤ 203 ∧ 203 < 204) := by decide
    obtain ⟨c, hc, ic⟩ : wn 10 (am_I g 25 5) := (w.1.2.1 25 5).2.2.2.2.2.1 ⟨rfl, rfl⟩
    by_cases e : i < c
    · have l1 : nI i < nI c := nI_lt e (by omega)
      have i1 := am_inb (c := i) (N := 10) (by omega) (by omega)
      have q1 : (nI i).toNatClampNeg = i := nI_clamp (by omega)
      obtain ⟨t1, t2⟩ := w.1.inR (i := i) (by omega)
      have gx : (am_kd g (am_R g 28 i) = 7 ∨ am_kd g (am_R g 28 i) = 11) = True := eq_true (w.1.in t1 t2)
      cases m with
      | zero => omega
      | succ m =>
        have nx : ∀ (y : Value) (g' : am_H), wp P 0 h g' → am_Ex nm_pr (d + 3) mt_Blend_advance (79, [.ref 25, .int x, .int (nI i), y], [], g') Q := fun y g' w' => by
          refine am_go [26] 2 ?_
          simp only [am_wp, am_stp, am_en, am_as, am_pad, am_nth, am_set, am_st1, am_st2, am_kl, am_kill, am_mem, am_fv, am_tk, am_wt, am_bk, Option.toList, List.cons_append, List.nil_append, Nat.reduceAdd, Nat.reduceEqDiff, Nat.reduceLeDiff, reduceIte, Nat.reduceLT, or_self, true_or, or_true, if_true, if_false, and_self, and_true, true_and, not_false_eq_true, not_true_eq_false, fd_Blend_advance_79, fd_Blend_advance_82, nI_1]
          exact ww_advance_in hx m (i + 1) y g' (by omega) w'
        refine am_go [34, 85] 4 ?_
        simp only [am_wp, am_stp, am_en, am_as, am_pad, am_nth, am_set, am_st1, am_st2, am_kl, am_kill, am_mem, am_fv, am_tk, am_wt, am_bk, Option.toList, List.cons_append, List.nil_append, Nat.reduceAdd, Nat.reduceEqDiff, Nat.reduceLeDiff, reduceIte, Nat.reduceLT, or_self, true_or, or_true, if_true, if_false, and_self, and_true, true_and, not_false_eq_true, not_true_eq_false, fd_Blend_advance_26, fd_Blend_advance_27, fd_Blend_advance_28, fd_Blend_advance_31, k25, ic, l1]
        refine am_go [41] 5 ?_
        simp only [am_wp, am_stp, am_en, am_as, am_pad, am_nth, am_set, am_st1, am_st2, am_kl, am_kill, am_mem, am_fv, am_tk, am_wt, am_bk, Option.toList, List.cons_append, List.nil_append, Nat.reduceAdd, Nat.reduceEqDiff, Nat.reduceLeDiff, reduceIte, Nat.reduceLT, or_self, true_or, or_true, if_true, if_false, and_self, and_true, true_and, not_false_eq_true, not_true_eq_false, fd_Blend_advance_34, fd_Blend_advance_35, fd_Blend_advance_38, fd_Blend_advance_39, fd_Blend_advance_40, k25, r4, k28, n28, n1, i1, q1]
        generalize am_R g 28 i = t at *
        refine am_go [48, 79] 3 ?_
        simp only [am_wp, am_stp, am_en, am_as, am_pad, am_nth, am_set, am_st1, am_st2, am_kl, am_kill, am_mem, am_fv, am_tk, am_wt, am_bk, Option.toList, List.cons_append, List.nil_append, Nat.reduceAdd, Nat.reduceEqDiff, Nat.reduceLeDiff, reduceIte, Nat.reduceLT, or_self, true_or, or_true, if_true, if_false, and_self, and_true, true_and, not_false_eq_true, not_true_eq_false, fd_Blend_advance_41, fd_Blend_advance_42, fd_Blend_advance_45, gx]
        refine wif (nx _ _ w) ?_
        refine am_go [60, 79] 6 ?_
        simp only [am_wp, am_stp, am_en, am_as, am_pad, am_nth, am_set, am_st1, am_st2, am_kl, am_kill, am_mem, am_fv, am_tk, am_wt, am_bk, Option.toList, List.cons_append, List.nil_append, Nat.reduceAdd, Nat.reduceEqDiff, Nat.reduceLeDiff, reduceIte, Nat.reduceLT, or_self, true_or, or_true, if_true, if_false, and_self, and_true, true_and, not_false_eq_true, not_true_eq_false, fd_Blend_advance_48, fd_Blend_advance_49, fd_Blend_advance_52, fd_Blend_advance_53, fd_Blend_advance_56, fd_Blend_advance_57, k25, gx]
        refine wif ?_ (nx _ _ w)
        refine am_go [] 7 ?_
        simp only [am_wp, am_stp, am_en, am_as, am_pad, am_nth, am_set, am_st1, am_st2, am_kl, am_kill, am_mem, am_fv, am_tk, am_wt, am_bk, Option.toList, List.cons_append, List.nil_append, Nat.reduceAdd, Nat.reduceEqDiff, Nat.reduceLeDiff, reduceIte, Nat.reduceLT, or_self, true_or, or_true, if_true, if_false, and_self, and_true, true_and, not_false_eq_true, not_true_eq_false, fd_Blend_advance_60, fd_Blend_advance_61, fd_Blend_advance_64, fd_Blend_advance_65, fd_Blend_advance_68, fd_Blend_advance_69, fd_Blend_advance_72, k25, r0, k26, gx]
        refine am_call (ww_fate w.1 (Or.inr (Or.inr rfl))) (fun o g1 q => ?_)
        obtain ⟨rfl, w1⟩ := q
        have w1 := (w.trans w1).mono (l := 0) (by omega)
        simp only [am_wp, am_stp, am_en, am_as, am_pad, am_nth, am_set, am_st1, am_st2, am_kl, am_kill, am_mem, am_fv, am_tk, am_wt, am_bk, Option.toList, List.cons_append, List.nil_append, Nat.reduceAdd, Nat.reduceEqDiff, Nat.reduceLeDiff, reduceIte, Nat.reduceLT, or_self, true_or, or_true, if_true, if_false, and_self, and_true, true_and, not_false_eq_true, not_true_eq_false]
        refine am_go [] 2 ?_
        simp only [am_wp, am_stp, am_en, am_as, am_pad, am_nth, am_set, am_st1, am_st2, am_kl, am_kill, am_mem, am_fv, am_tk, am_wt, am_bk, Option.toList, List.cons_append, List.nil_append, Nat.reduceAdd, Nat.reduceEqDiff, Nat.reduceLeDiff, reduceIte, Nat.reduceLT, or_self, true_or, or_true, if_true, if_false, and_self, and_true, true_and, not_false_eq_true, not_true_eq_false, fd_Blend_advance_75, fd_Blend_advance_76]
        by_cases e29 : t = 29
        · subst e29
          simp only [w1.1.kd 29 11 (by decide), am_wp, am_stp, am_en, am_as, am_pad, am_nth, am_set, am_st1, am_st2, am_kl, am_kill, am_mem, am_fv, am_tk, am_wt, am_bk, Option.toList, List.cons_append, List.nil_append, Nat.reduceAdd, Nat.reduceEqDiff, Nat.reduceLeDiff, reduceIte, Nat.reduceLT, or_self, true_or, or_true, if_true, if_false, and_self, and_true, true_and, not_false_eq_true, not_true_eq_false]
          refine am_call (ww_TSstep w1.1) (fun o g2 q => ?_)
          obtain ⟨rfl, w2⟩ := q
          simp only [am_wp, am_stp, am_en, am_as, am_pad, am_nth, am_set, am_st1, am_st2, am_kl, am_kill, am_mem, am_fv, am_tk, am_wt, am_bk, Option.toList, List.cons_append, List.nil_append, Nat.reduceAdd, Nat.reduceEqDiff, Nat.reduceLeDiff, reduceIte, Nat.reduceLT, or_self, true_or, or_true, if_true, if_false, and_self, and_true, true_and, not_false_eq_true, not_true_eq_false]
          exact nx _ _ ((w1.trans w2).mono (by omega))
        · simp only [(w1.1.st (t := t) (by omega) (by omega)).1, am_wp, am_stp, am_en, am_as, am_pad, am_nth, am_set, am_st1, am_st2, am_kl, am_kill, am_mem, am_fv, am_tk, am_wt, am_bk, Option.toList, List.cons_append, List.nil_append, Nat.reduceAdd, Nat.reduceEqDiff, Nat.reduceLeDiff, reduceIte, Nat.reduceLT, or_self, true_or, or_true, if_true, if_false, and_self, and_true, true_and, not_false_eq_true, not_true_eq_false]
          refine am_call (ww_RSstep w1.1 (t := t) (by omega) (by omega)) (fun o g2 q => ?_)
          obtain ⟨rfl, w2⟩ := q
          simp only [am_wp, am_stp, am_en, am_as, am_pad, am_nth, am_set, am_st1, am_st2, am_kl, am_kill, am_mem, am_fv, am_tk, am_wt, am_bk, Option.toList, List.cons_append, List.nil_append, Nat.reduceAdd, Nat.reduceEqDiff, Nat.reduceLeDiff, reduceIte, Nat.reduceLT, or_self, true_or, or_true, if_true, if_false, and_self, and_true, true_and, not_false_eq_true, not_true_eq_false]
          exact nx _ _ ((w1.trans w2).mono (by omega))
    · have l1 : ¬ nI i < nI c := nI_nlt (by omega) (by omega)
      refine am_go [34, 85] 4 ?_
      simp only [am_wp, am_stp, am_en, am_as, am_pad, am_nth, am_set, am_st1, am_st2, am_kl, am_kill, am_mem, am_fv, am_tk, am_wt, am_bk, Option.toList, List.cons_append, List.nil_append, Nat.reduceAdd, Nat.reduceEqDiff, Nat.reduceLeDiff, reduceIte, Nat.reduceLT, or_self, true_or, or_true, if_true, if_false, and_self, and_true, true_and, not_false_eq_true, not_true_eq_false, fd_Blend_advance_26, fd_Blend_advance_27, fd_Blend_advance_28, fd_Blend_advance_31, k25, ic, l1]
      exact hx _ _ g w
theorem ww_advance_loop {d P : Nat} {h : am_H} : ∀ (m i : Nat) (x y : Value) (g : am_H), m + i = 1000000 → (∀ z, x ≠ .long z) → wp P 0 h g →
    am_Ex nm_pr (d + 3) mt_Blend_advance (2, [.ref 25, .int (nI i), x, y], [], g) (fun o h' => b01 o ∧ wp P 0 h h')
  | m, i, x, y, g, hm, hx, w => by
    have o0 : (0 : Int32) = 0 ∨ (0 : Int32) = 1 := by decide
    have o1 : (1 : Int32) = 0 ∨ (1 : Int32) = 1 := by decide
    have no : ∀ g', wp P 0 h g' → am_Ex nm_pr (d + 3) mt_Blend_advance (121, [.ref 25, .int (nI i), x, y], [], g') (fun o h' => b01 o ∧ wp P 0 h h') := fun g' w' => by
      refine am_go [] 2 ?_
      simp only [am_wp, am_stp, am_en, am_as, am_pad, am_nth, am_set, am_st1, am_st2, am_kl, am_kill, am_mem, am_fv, am_tk, am_wt, am_bk, Option.toList, List.cons_append, List.nil_append, Nat.reduceAdd, Nat.reduceEqDiff, Nat.reduceLeDiff, reduceIte, Nat.reduceLT, or_self, true_or, or_true, if_true, if_false, and_self, and_true, true_and, not_false_eq_true, not_true_eq_false, fd_Blend_advance_121, fd_Blend_advance_122, o0]
      exact ⟨Or.inl rfl, w'⟩
    cases m with
    | zero =>
      have l1 : ¬ nI i < 1000000 := nI_nlt (b := 1000000) (by omega) (by omega)
      refine am_go [8, 121] 3 ?_
      simp only [am_wp, am_stp, am_en, am_as, am_pad, am_nth, am_set, am_st1, am_st2, am_kl, am_kill, am_mem, am_fv, am_tk, am_wt, am_bk, Option.toList, List.cons_append, List.nil_append, Nat.reduceAdd, Nat.reduceEqDiff, Nat.reduceLeDiff, reduceIte, Nat.reduceLT, or_self, true_or, or_true, if_true, if_false, and_self, and_true, true_and, not_false_eq_true, not_true_eq_false, fd_Blend_advance_2, fd_Blend_advance_3, fd_Blend_advance_5, l1]
      exact no g w
    | succ m =>
      have l1 : nI i < 1000000 := nI_lt (b := 1000000) (by omega) (by decide)
      refine am_go [8, 121] 3 ?_
      simp only [am_wp, am_stp, am_en, am_as, am_pad, am_nth, am_set, am_st1, am_st2, am_kl, am_kill, am_mem, am_fv, am_tk, am_wt, am_bk, Option.toList, List.cons_append, List.nil_append, Nat.reduceAdd, Nat.reduceEqDiff, Nat.reduceLeDiff, reduceIte, Nat.reduceLT, or_self, true_or, or_true, if_true, if_false, and_self, and_true, true_and, not_false_eq_true, not_true_eq_false, fd_Blend_advance_2, fd_Blend_advance_3, fd_Blend_advance_5, l1]
      refine am_go [] 2 ?_
      simp only [am_wp, am_stp, am_en, am_as, am_pad, am_nth, am_set, am_st1, am_st2, am_kl, am_kill, am_mem, am_fv, am_tk, am_wt, am_bk, Option.toList, List.cons_append, List.nil_append, Nat.reduceAdd, Nat.reduceEqDiff, Nat.reduceLeDiff, reduceIte, Nat.reduceLT, or_self, true_or, or_true, if_true, if_false, and_self, and_true, true_and, not_false_eq_true, not_true_eq_false, fd_Blend_advance_8, fd_Blend_advance_9, w.1.kd 25 2 (by decide)]
      refine am_call (ww_findLeast w.1) (fun o g1 q => ?_)
      obtain ⟨b, w1⟩ := q
      have w1 := (w.trans w1).mono (l := 0) (by omega)
      obtain ⟨v, rfl, -⟩ := b01_cases b
      simp only [am_wp, am_stp, am_en, am_as, am_pad, am_nth, am_set, am_st1, am_st2, am_kl, am_kill, am_mem, am_fv, am_tk, am_wt, am_bk, Option.toList, List.cons_append, List.nil_append, Nat.reduceAdd, Nat.reduceEqDiff, Nat.reduceLeDiff, reduceIte, Nat.reduceLT, or_self, true_or, or_true, if_true, if_false, and_self, and_true, true_and, not_false_eq_true, not_true_eq_false]
      refine am_go [15, 121] 1 ?_
      simp only [am_wp, am_stp, am_en, am_as, am_pad, am_nth, am_set, am_st1, am_st2, am_kl, am_kill, am_mem, am_fv, am_tk, am_wt, am_bk, Option.toList, List.cons_append, List.nil_append, Nat.reduceAdd, Nat.reduceEqDiff, Nat.reduceLeDiff, reduceIte, Nat.reduceLT, or_self, true_or, or_true, if_true, if_false, and_self, and_true, true_and, not_false_eq_true, not_true_eq_false, fd_Blend_advance_12]
      refine wif (no _ w1) ?_
      refine am_go [] 5 ?_
      simp only [am_wp, am_stp, am_en, am_as, am_pad, am_nth, am_set, am_st1, am_st2, am_kl, am_kill, am_mem, am_fv, am_tk, am_wt, am_bk, Option.toList, List.cons_append, List.nil_append, Nat.reduceAdd, Nat.reduceEqDiff, Nat.reduceLeDiff, reduceIte, Nat.reduceLT, or_self, true_or, or_true, if_true, if_false, and_self, and_true, true_and, not_false_eq_true, not_true_eq_false, fd_Blend_advance_15, fd_Blend_advance_16, fd_Blend_advance_19, fd_Blend_advance_20, fd_Blend_advance_21, w1.1.kd 25 2 (by decide), w1.1.R 25 0 26 (by decide), w1.1.kd 26 3 (by decide)]
      refine am_call (ww_fbegin w1.1 (Or.inr (Or.inr rfl))) (fun o g2 q => ?_)
      obtain ⟨rfl, w2⟩ := q
      have w2 := (w1.trans w2).mono (l := 0) (by omega)
      simp only [am_wp, am_stp, am_en, am_as, am_pad, am_nth, am_set, am_st1, am_st2, am_kl, am_kill, am_mem, am_fv, am_tk, am_wt, am_bk, Option.toList, List.cons_append, List.nil_append, Nat.reduceAdd, Nat.reduceEqDiff, Nat.reduceLeDiff, reduceIte, Nat.reduceLT, or_self, true_or, or_true, if_true, if_false, and_self, and_true, true_and, not_false_eq_true, not_true_eq_false]
      refine am_go [26] 2 ?_
      simp only [am_wp, am_stp, am_en, am_as, am_pad, am_nth, am_set, am_st1, am_st2, am_kl, am_kill, am_mem, am_fv, am_tk, am_wt, am_bk, Option.toList, List.cons_append, List.nil_append, Nat.reduceAdd, Nat.reduceEqDiff, Nat.reduceLeDiff, reduceIte, Nat.reduceLT, or_self, true_or, or_true, if_true, if_false, and_self, and_true, true_and, not_false_eq_true, not_true_eq_false, fd_Blend_advance_24, fd_Blend_advance_25]
      refine ww_advance_in (P := P) (h := h) (fun s t g3 w3 => ?_) 10 0 _ g2 rfl w2
      have k25 := w3.1.kd 25 2 (by decide)
      have r0 := w3.1.R 25 0 26 (by decide)
      have k26 := w3.1.kd 26 3 (by decide)
      refine am_go [92, 94] 3 ?_
      simp only [am_wp, am_stp, am_en, am_as, am_pad, am_nth, am_set, am_st1, am_st2, am_kl, am_kill, am_mem, am_fv, am_tk, am_wt, am_bk, Option.toList, List.cons_append, List.nil_append, Nat.reduceAdd, Nat.reduceEqDiff, Nat.reduceLeDiff, reduceIte, Nat.reduceLT, or_self, true_or, or_true, if_true, if_false, and_self, and_true, true_and, not_false_eq_true, not_true_eq_false, fd_Blend_advance_85, fd_Blend_advance_86, fd_Blend_advance_89, k25]
      refine wif ?_ ?_
      · refine am_go [] 2 ?_
        simp only [am_wp, am_stp, am_en, am_as, am_pad, am_nth, am_set, am_st1, am_st2, am_kl, am_kill, am_mem, am_fv, am_tk, am_wt, am_bk, Option.toList, List.cons_append, List.nil_append, Nat.reduceAdd, Nat.reduceEqDiff, Nat.reduceLeDiff, reduceIte, Nat.reduceLT, or_self, true_or, or_true, if_true, if_false, and_self, and_true, true_and, not_false_eq_true, not_true_eq_false, fd_Blend_advance_92, fd_Blend_advance_93, o1]
        exact ⟨Or.inr rfl, w3⟩
      · refine am_go [105, 115] 5 ?_
        simp only [am_wp, am_stp, am_en, am_as, am_pad, am_nth, am_set, am_st1, am_st2, am_kl, am_kill, am_mem, am_fv, am_tk, am_wt, am_bk, Option.toList, List.cons_append, List.nil_append, Nat.reduceAdd, Nat.reduceEqDiff, Nat.reduceLeDiff, reduceIte, Nat.reduceLT, or_self, true_or, or_true, if_true, if_false, and_self, and_true, true_and, not_false_eq_true, not_true_eq_false, fd_Blend_advance_94, fd_Blend_advance_95, fd_Blend_advance_98, fd_Blend_advance_101, fd_Blend_advance_102, k25, r0, k26]
        refine wif ?_ ?_
        · refine am_go [2] 2 ?_
          simp only [am_wp, am_stp, am_en, am_as, am_pad, am_nth, am_set, am_st1, am_st2, am_kl, am_kill, am_mem, am_fv, am_tk, am_wt, am_bk, Option.toList, List.cons_append, List.nil_append, Nat.reduceAdd, Nat.reduceEqDiff, Nat.reduceLeDiff, reduceIte, Nat.reduceLT, or_self, true_or, or_true, if_true, if_false, and_self, and_true, true_and, not_false_eq_true, not_true_eq_false, fd_Blend_advance_115, fd_Blend_advance_118, nI_1]
          exact ww_advance_loop m (i + 1) _ _ g3 (by omega) (fun z e => by cases e) w3
        · refine am_go [] 6 ?_
          simp only [am_wp, am_stp, am_en, am_as, am_pad, am_nth, am_set, am_st1, am_st2, am_kl, am_kill, am_mem, am_fv, am_tk, am_wt, am_bk, Option.toList, List.cons_append, List.nil_append, Nat.reduceAdd, Nat.reduceEqDiff, Nat.reduceLeDiff, reduceIte, Nat.reduceLT, or_self, true_or, or_true, if_true, if_false, and_self, and_true, true_and, not_false_eq_true, not_true_eq_false, fd_Blend_advance_105, fd_Blend_advance_106, fd_Blend_advance_109, fd_Blend_advance_110, fd_Blend_advance_113, fd_Blend_advance_114, k25, r0, k26, o1]
          exact ⟨Or.inr rfl, w3.sf (by decide)⟩
theorem ww_advance {d P : Nat} {h : am_H} (w : wk P h) : am_Rt nm_pr (d + 4) mi_Blend_advance [.ref 25] h (fun o h' => b01 o ∧ wp P 0 h h') := by
  refine am_in' (d := d + 3) mt_Blend_advance 4 rfl rfl rfl ?_
  refine am_go [2] 2 ?_
  simp only [am_wp, am_stp, am_en, am_as, am_pad, am_nth, am_set, am_st1, am_st2, am_kl, am_kill, am_mem, am_fv, am_tk, am_wt, am_bk, Option.toList, List.cons_append, List.nil_append, Nat.reduceAdd, Nat.reduceEqDiff, Nat.reduceLeDiff, reduceIte, Nat.reduceLT, or_self, true_or, or_true, if_true, if_false, and_self, and_true, true_and, not_false_eq_true, not_true_eq_false, fd_Blend_advance_0, fd_Blend_advance_1]
  exact ww_advance_loop 1000000 0 _ _ h rfl (fun z e => by cases e) (wp.refl w)
