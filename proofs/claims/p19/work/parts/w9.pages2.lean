/-! THE PAGES, WEAKLY, 2 -/
theorem wcell_20 {P j : Nat} {v : Int32} (hv : v = 0 ∨ v = 1) : wcell P 20 j v := by
  refine ⟨fun q => ?_, fun q => hv, fun q => ?_, fun q => ?_, fun q => ?_, fun q => ?_, fun q => ?_, fun q => ?_⟩ <;> omega
theorem ww_checkSum {d P : Nat} {v : Int32} {h : am_H} (w : wk P h) : am_Rt nm_pr (d + 2) mi_Pages_checkSum [.ref 18, .int v] h (fun o h' => o = .inl none ∧ wp P 0 h h') := by
  by_cases e : ∃ p, p < P ∧ v = nI p
  · obtain ⟨p, hp, rfl⟩ := e
    refine am_call (l2_checkSum hp w.pg) (fun o h' q => ⟨q.1, ?_⟩)
    rw [q.2]
    exact (wp.refl w).sI (cw_lt (by omega) (by omega)) (fun e => absurd e (by decide)) (wcell_20 (cs_B_01 _ _ _))
  · refine am_in' (d := d + 1) mt_Pages_checkSum 6 rfl rfl rfl ?_
    refine am_go [] 3 ?_
    simp only [am_wp, am_stp, am_en, am_as, am_pad, am_nth, am_set, am_st1, am_st2, am_kl, am_kill, am_mem, am_fv, am_tk, am_wt, am_bk, Option.toList, List.cons_append, List.nil_append, Nat.reduceAdd, Nat.reduceEqDiff, Nat.reduceLeDiff, reduceIte, Nat.reduceLT, or_self, true_or, or_true, if_true, if_false, and_self, and_true, true_and, not_false_eq_true, not_true_eq_false, fd_Pages_checkSum_0, fd_Pages_checkSum_1, fd_Pages_checkSum_2, w.pg.1]
    refine am_call (ww_phas w) (fun o h1 q => ?_)
    obtain ⟨rfl, q⟩ := q
    rcases q with ⟨-, q⟩ | rfl
    · exact absurd q e
    · simp only [am_wp, am_stp, am_en, am_as, am_pad, am_nth, am_set, am_st1, am_st2, am_kl, am_kill, am_mem, am_fv, am_tk, am_wt, am_bk, Option.toList, List.cons_append, List.nil_append, Nat.reduceAdd, Nat.reduceEqDiff, Nat.reduceLeDiff, reduceIte, Nat.reduceLT, or_self, true_or, or_true, if_true, if_false, and_self, and_true, true_and, not_false_eq_true, not_true_eq_false]
      refine am_go [9] 3 ?_
      simp only [am_wp, am_stp, am_en, am_as, am_pad, am_nth, am_set, am_st1, am_st2, am_kl, am_kill, am_mem, am_fv, am_tk, am_wt, am_bk, Option.toList, List.cons_append, List.nil_append, Nat.reduceAdd, Nat.reduceEqDiff, Nat.reduceLeDiff, reduceIte, Nat.reduceLT, or_self, true_or, or_true, if_true, if_false, and_self, and_true, true_and, not_false_eq_true, not_true_eq_false, fd_Pages_checkSum_5, fd_Pages_checkSum_8]
      exact wp.refl w
theorem ww_lay_loop {d P : Nat} {v len : Int32} {h : am_H} : ∀ (m i : Nat) (g : am_H), m + i = 128 → wp P 0 h g →
    am_Ex nm_pr (d + 1) mt_Pages_lay (3, [.ref 18, .int v, .ref 14, .int len, .int (nI i)], [], g) (fun o h' => o = .inl none ∧ wp P 0 h h')
  | m, i, g, hm, w => by
    obtain ⟨k18, r1, r2, i0, k19, n19, k20, n20, P4, P1⟩ := id w.1.pg
    obtain ⟨s1, s2, s3, s4⟩ := id w.1.sh.1
    have one0 : ¬ (1 : Int32) = 0 := by decide
    have fin : am_Ex nm_pr (d + 1) mt_Pages_lay (51, [.ref 18, .int v, .ref 14, .int len, .int (nI i)], [], g) (fun o h' => o = .inl none ∧ wp P 0 h h') := by
      refine am_go [] 2 ?_
      simp only [am_wp, am_stp, am_en, am_as, am_pad, am_nth, am_set, am_st1, am_st2, am_kl, am_kill, am_mem, am_fv, am_tk, am_wt, am_bk, Option.toList, List.cons_append, List.nil_append, Nat.reduceAdd, Nat.reduceEqDiff, Nat.reduceLeDiff, reduceIte, Nat.reduceLT, or_self, true_or, or_true, if_true, if_false, and_self, and_true, true_and, not_false_eq_true, not_true_eq_false, fd_Pages_lay_51]
      exact w
    refine am_go [9, 51] 3 ?_
    simp only [am_wp, am_stp, am_en, am_as, am_pad, am_nth, am_set, am_st1, am_st2, am_kl, am_kill, am_mem, am_fv, am_tk, am_wt, am_bk, Option.toList, List.cons_append, List.nil_append, Nat.reduceAdd, Nat.reduceEqDiff, Nat.reduceLeDiff, reduceIte, Nat.reduceLT, or_self, true_or, or_true, if_true, if_false, and_self, and_true, true_and, not_false_eq_true, not_true_eq_false, fd_Pages_lay_3, fd_Pages_lay_5, fd_Pages_lay_6]
    refine wif ?_ fin
    cases m with
    | zero =>
      have e : i = 128 := by omega
      subst e
      have l1 : ¬ nI 128 < 128 := by decide
      refine am_go [17, 51] 3 ?_
      simp only [am_wp, am_stp, am_en, am_as, am_pad, am_nth, am_set, am_st1, am_st2, am_kl, am_kill, am_mem, am_fv, am_tk, am_wt, am_bk, Option.toList, List.cons_append, List.nil_append, Nat.reduceAdd, Nat.reduceEqDiff, Nat.reduceLeDiff, reduceIte, Nat.reduceLT, or_self, true_or, or_true, if_true, if_false, and_self, and_true, true_and, not_false_eq_true, not_true_eq_false, fd_Pages_lay_9, fd_Pages_lay_11, fd_Pages_lay_14, l1]
      exact fin
    | succ m =>
      have l1 : nI i < 128 := nI_lt (b := 128) (by omega) (by decide)
      refine am_go [17, 51] 3 ?_
      simp only [am_wp, am_stp, am_en, am_as, am_pad, am_nth, am_set, am_st1, am_st2, am_kl, am_kill, am_mem, am_fv, am_tk, am_wt, am_bk, Option.toList, List.cons_append, List.nil_append, Nat.reduceAdd, Nat.reduceEqDiff, Nat.reduceLeDiff, reduceIte, Nat.reduceLT, or_self, true_or, or_true, if_true, if_false, and_self, and_true, true_and, not_false_eq_true, not_true_eq_false, fd_Pages_lay_9, fd_Pages_lay_11, fd_Pages_lay_14, l1]
      refine am_go [] 3 ?_
      simp only [am_wp, am_stp, am_en, am_as, am_pad, am_nth, am_set, am_st1, am_st2, am_kl, am_kill, am_mem, am_fv, am_tk, am_wt, am_bk, Option.toList, List.cons_append, List.nil_append, Nat.reduceAdd, Nat.reduceEqDiff, Nat.reduceLeDiff, reduceIte, Nat.reduceLT, or_self, true_or, or_true, if_true, if_false, and_self, and_true, true_and, not_false_eq_true, not_true_eq_false, fd_Pages_lay_17, fd_Pages_lay_18, fd_Pages_lay_19, k18]
      refine am_call (ww_phas w.1) (fun o g1 q => ?_)
      obtain ⟨rfl, q⟩ := q
      rcases q with ⟨rfl, p, p1, rfl⟩ | rfl
      · have i1 := am_inb (c := p * 128 + i) (N := P * 128) (by omega) (by omega)
        have q1 : (nI (p * 128 + i)).toNatClampNeg = p * 128 + i := nI_clamp (by omega)
        have i2 := am_inb (c := i) (N := 128) (by omega) (by omega)
        have q2 : (nI i).toNatClampNeg = i := nI_clamp (by omega)
        simp only [am_wp, am_stp, am_en, am_as, am_pad, am_nth, am_set, am_st1, am_st2, am_kl, am_kill, am_mem, am_fv, am_tk, am_wt, am_bk, Option.toList, List.cons_append, List.nil_append, Nat.reduceAdd, Nat.reduceEqDiff, Nat.reduceLeDiff, reduceIte, Nat.reduceLT, or_self, true_or, or_true, if_true, if_false, and_self, and_true, true_and, not_false_eq_true, not_true_eq_false]
        refine am_go [25, 51] 1 ?_
        simp only [am_wp, am_stp, am_en, am_as, am_pad, am_nth, am_set, am_st1, am_st2, am_kl, am_kill, am_mem, am_fv, am_tk, am_wt, am_bk, Option.toList, List.cons_append, List.nil_append, Nat.reduceAdd, Nat.reduceEqDiff, Nat.reduceLeDiff, reduceIte, Nat.reduceLT, or_self, true_or, or_true, if_true, if_false, and_self, and_true, true_and, not_false_eq_true, not_true_eq_false, fd_Pages_lay_22, one0]
        refine am_go [] 11 ?_
        simp only [am_wp, am_stp, am_en, am_as, am_pad, am_nth, am_set, am_st1, am_st2, am_kl, am_kill, am_mem, am_fv, am_tk, am_wt, am_bk, Option.toList, List.cons_append, List.nil_append, Nat.reduceAdd, Nat.reduceEqDiff, Nat.reduceLeDiff, reduceIte, Nat.reduceLT, or_self, true_or, or_true, if_true, if_false, and_self, and_true, true_and, not_false_eq_true, not_true_eq_false, fd_Pages_lay_25, fd_Pages_lay_26, fd_Pages_lay_29, fd_Pages_lay_30, fd_Pages_lay_33, fd_Pages_lay_34, fd_Pages_lay_36, fd_Pages_lay_37, fd_Pages_lay_38, fd_Pages_lay_41, fd_Pages_lay_43, k18, r1, s1, s2, s3, s4, nI_mul128, nI_add, i2, q2]
        refine am_go [3] 3 ?_
        simp only [am_wp, am_stp, am_en, am_as, am_pad, am_nth, am_set, am_st1, am_st2, am_kl, am_kill, am_mem, am_fv, am_tk, am_wt, am_bk, Option.toList, List.cons_append, List.nil_append, Nat.reduceAdd, Nat.reduceEqDiff, Nat.reduceLeDiff, reduceIte, Nat.reduceLT, or_self, true_or, or_true, if_true, if_false, and_self, and_true, true_and, not_false_eq_true, not_true_eq_false, fd_Pages_lay_44, fd_Pages_lay_45, fd_Pages_lay_48, k19, n19, i1, q1, nI_1]
        exact ww_lay_loop m (i + 1) _ (by omega) (w.sf (by decide))
      · simp only [am_wp, am_stp, am_en, am_as, am_pad, am_nth, am_set, am_st1, am_st2, am_kl, am_kill, am_mem, am_fv, am_tk, am_wt, am_bk, Option.toList, List.cons_append, List.nil_append, Nat.reduceAdd, Nat.reduceEqDiff, Nat.reduceLeDiff, reduceIte, Nat.reduceLT, or_self, true_or, or_true, if_true, if_false, and_self, and_true, true_and, not_false_eq_true, not_true_eq_false]
        refine am_go [25, 51] 1 ?_
        simp only [am_wp, am_stp, am_en, am_as, am_pad, am_nth, am_set, am_st1, am_st2, am_kl, am_kill, am_mem, am_fv, am_tk, am_wt, am_bk, Option.toList, List.cons_append, List.nil_append, Nat.reduceAdd, Nat.reduceEqDiff, Nat.reduceLeDiff, reduceIte, Nat.reduceLT, or_self, true_or, or_true, if_true, if_false, and_self, and_true, true_and, not_false_eq_true, not_true_eq_false, fd_Pages_lay_22]
        exact fin
theorem ww_lay {d P : Nat} {v len : Int32} {h : am_H} (w : wk P h) : am_Rt nm_pr (d + 2) mi_Pages_lay [.ref 18, .int v, .ref 14, .int len] h (fun o h' => o = .inl none ∧ wp P 0 h h') := by
  refine am_in' (d := d + 1) mt_Pages_lay 5 rfl rfl rfl ?_
  refine am_go [3] 2 ?_
  simp only [am_wp, am_stp, am_en, am_as, am_pad, am_nth, am_set, am_st1, am_st2, am_kl, am_kill, am_mem, am_fv, am_tk, am_wt, am_bk, Option.toList, List.cons_append, List.nil_append, Nat.reduceAdd, Nat.reduceEqDiff, Nat.reduceLeDiff, reduceIte, Nat.reduceLT, or_self, true_or, or_true, if_true, if_false, and_self, and_true, true_and, not_false_eq_true, not_true_eq_false, fd_Pages_lay_0, fd_Pages_lay_1]
  exact ww_lay_loop 128 0 h rfl (wp.refl w)
theorem ww_turn {d P : Nat} {v i k : Int32} {h : am_H} (w : wk P h) : am_Rt nm_pr (d + 3) mi_Pages_turn [.ref 18, .int v, .int i, .int k] h (fun o h' => o = .inl none ∧ wp P 0 h h') := by
  obtain ⟨k18, r1, r2, i0, k19, n19, k20, n20, P4, P1⟩ := id w.pg
  have one0 : ¬ (1 : Int32) = 0 := by decide
  have fin : ∀ g, wp P 0 h g → am_Ex nm_pr (d + 2) mt_Pages_turn (42, [.ref 18, .int v, .int i, .int k], [], g) (fun o h' => o = .inl none ∧ wp P 0 h h') := fun g wg => by
    refine am_go [] 2 ?_
    simp only [am_wp, am_stp, am_en, am_as, am_pad, am_nth, am_set, am_st1, am_st2, am_kl, am_kill, am_mem, am_fv, am_tk, am_wt, am_bk, Option.toList, List.cons_append, List.nil_append, Nat.reduceAdd, Nat.reduceEqDiff, Nat.reduceLeDiff, reduceIte, Nat.reduceLT, or_self, true_or, or_true, if_true, if_false, and_self, and_true, true_and, not_false_eq_true, not_true_eq_false, fd_Pages_turn_42]
    exact wg
  refine am_in' (d := d + 2) mt_Pages_turn 4 rfl rfl rfl ?_
  refine am_go [] 3 ?_
  simp only [am_wp, am_stp, am_en, am_as, am_pad, am_nth, am_set, am_st1, am_st2, am_kl, am_kill, am_mem, am_fv, am_tk, am_wt, am_bk, Option.toList, List.cons_append, List.nil_append, Nat.reduceAdd, Nat.reduceEqDiff, Nat.reduceLeDiff, reduceIte, Nat.reduceLT, or_self, true_or, or_true, if_true, if_false, and_self, and_true, true_and, not_false_eq_true, not_true_eq_false, fd_Pages_turn_0, fd_Pages_turn_1, fd_Pages_turn_2, k18]
  refine am_call (ww_phas w) (fun o h1 q => ?_)
  obtain ⟨rfl, q⟩ := q
  rcases q with ⟨rfl, p, p1, rfl⟩ | rfl
  · simp only [am_wp, am_stp, am_en, am_as, am_pad, am_nth, am_set, am_st1, am_st2, am_kl, am_kill, am_mem, am_fv, am_tk, am_wt, am_bk, Option.toList, List.cons_append, List.nil_append, Nat.reduceAdd, Nat.reduceEqDiff, Nat.reduceLeDiff, reduceIte, Nat.reduceLT, or_self, true_or, or_true, if_true, if_false, and_self, and_true, true_and, not_false_eq_true, not_true_eq_false]
    refine am_go [8, 42] 1 ?_
    simp only [am_wp, am_stp, am_en, am_as, am_pad, am_nth, am_set, am_st1, am_st2, am_kl, am_kill, am_mem, am_fv, am_tk, am_wt, am_bk, Option.toList, List.cons_append, List.nil_append, Nat.reduceAdd, Nat.reduceEqDiff, Nat.reduceLeDiff, reduceIte, Nat.reduceLT, or_self, true_or, or_true, if_true, if_false, and_self, and_true, true_and, not_false_eq_true, not_true_eq_false, fd_Pages_turn_5, one0]
    refine am_go [12, 42] 2 ?_
    simp only [am_wp, am_stp, am_en, am_as, am_pad, am_nth, am_set, am_st1, am_st2, am_kl, am_kill, am_mem, am_fv, am_tk, am_wt, am_bk, Option.toList, List.cons_append, List.nil_append, Nat.reduceAdd, Nat.reduceEqDiff, Nat.reduceLeDiff, reduceIte, Nat.reduceLT, or_self, true_or, or_true, if_true, if_false, and_self, and_true, true_and, not_false_eq_true, not_true_eq_false, fd_Pages_turn_8, fd_Pages_turn_9]
    by_cases e1 : i < 0
    · simp only [e1, am_wp, am_stp, am_en, am_as, am_pad, am_nth, am_set, am_st1, am_st2, am_kl, am_kill, am_mem, am_fv, am_tk, am_wt, am_bk, Option.toList, List.cons_append, List.nil_append, Nat.reduceAdd, Nat.reduceEqDiff, Nat.reduceLeDiff, reduceIte, Nat.reduceLT, or_self, true_or, or_true, if_true, if_false, and_self, and_true, true_and, not_false_eq_true, not_true_eq_false]
      exact fin _ (wp.refl w)
    simp only [e1, am_wp, am_stp, am_en, am_as, am_pad, am_nth, am_set, am_st1, am_st2, am_kl, am_kill, am_mem, am_fv, am_tk, am_wt, am_bk, Option.toList, List.cons_append, List.nil_append, Nat.reduceAdd, Nat.reduceEqDiff, Nat.reduceLeDiff, reduceIte, Nat.reduceLT, or_self, true_or, or_true, if_true, if_false, and_self, and_true, true_and, not_false_eq_true, not_true_eq_false]
    refine am_go [19, 42] 3 ?_
    simp only [am_wp, am_stp, am_en, am_as, am_pad, am_nth, am_set, am_st1, am_st2, am_kl, am_kill, am_mem, am_fv, am_tk, am_wt, am_bk, Option.toList, List.cons_append, List.nil_append, Nat.reduceAdd, Nat.reduceEqDiff, Nat.reduceLeDiff, reduceIte, Nat.reduceLT, or_self, true_or, or_true, if_true, if_false, and_self, and_true, true_and, not_false_eq_true, not_true_eq_false, fd_Pages_turn_12, fd_Pages_turn_13, fd_Pages_turn_16]
    by_cases e2 : i < 128
    · simp only [e2, am_wp, am_stp, am_en, am_as, am_pad, am_nth, am_set, am_st1, am_st2, am_kl, am_kill, am_mem, am_fv, am_tk, am_wt, am_bk, Option.toList, List.cons_append, List.nil_append, Nat.reduceAdd, Nat.reduceEqDiff, Nat.reduceLeDiff, reduceIte, Nat.reduceLT, or_self, true_or, or_true, if_true, if_false, and_self, and_true, true_and, not_false_eq_true, not_true_eq_false]
      obtain ⟨x, x1, rfl⟩ := in_nat (P := 128) (by decide) e1 e2
      have i1 := am_inb (c := p * 128 + x) (N := P * 128) (by omega) (by omega)
      have q1 : (nI (p * 128 + x)).toNatClampNeg = p * 128 + x := nI_clamp (by omega)
      refine am_go [] 7 ?_
      simp only [am_wp, am_stp, am_en, am_as, am_pad, am_nth, am_set, am_st1, am_st2, am_kl, am_kill, am_mem, am_fv, am_tk, am_wt, am_bk, Option.toList, List.cons_append, List.nil_append, Nat.reduceAdd, Nat.reduceEqDiff, Nat.reduceLeDiff, reduceIte, Nat.reduceLT, or_self, true_or, or_true, if_true, if_false, and_self, and_true, true_and, not_false_eq_true, not_true_eq_false, fd_Pages_turn_19, fd_Pages_turn_20, fd_Pages_turn_23, fd_Pages_turn_24, fd_Pages_turn_27, fd_Pages_turn_28, fd_Pages_turn_29, k18, r1, nI_mul128, nI_add]
      refine am_go [] 7 ?_
      simp only [am_wp, am_stp, am_en, am_as, am_pad, am_nth, am_set, am_st1, am_st2, am_kl, am_kill, am_mem, am_fv, am_tk, am_wt, am_bk, Option.toList, List.cons_append, List.nil_append, Nat.reduceAdd, Nat.reduceEqDiff, Nat.reduceLeDiff, reduceIte, Nat.reduceLT, or_self, true_or, or_true, if_true, if_false, and_self, and_true, true_and, not_false_eq_true, not_true_eq_false, fd_Pages_turn_30, fd_Pages_turn_31, fd_Pages_turn_32, fd_Pages_turn_33, fd_Pages_turn_34, fd_Pages_turn_35, fd_Pages_turn_36, k19, n19, i1, q1]
      have w1 := (wp.refl w).sf (a := 19) (j := p * 128 + x) (v := am_b8 (am_b8 (am_I h1 19 (p * 128 + x) ^^^ am_b8 k))) (by decide)
      revert w1
      generalize am_sI h1 19 (p * 128 + x) (am_b8 (am_b8 (am_I h1 19 (p * 128 + x) ^^^ am_b8 k))) = g
      intro w1
      refine am_go [] 3 ?_
      simp only [am_wp, am_stp, am_en, am_as, am_pad, am_nth, am_set, am_st1, am_st2, am_kl, am_kill, am_mem, am_fv, am_tk, am_wt, am_bk, Option.toList, List.cons_append, List.nil_append, Nat.reduceAdd, Nat.reduceEqDiff, Nat.reduceLeDiff, reduceIte, Nat.reduceLT, or_self, true_or, or_true, if_true, if_false, and_self, and_true, true_and, not_false_eq_true, not_true_eq_false, fd_Pages_turn_37, fd_Pages_turn_38, fd_Pages_turn_39, w1.1.pg.1]
      refine am_call (ww_checkSum w1.1) (fun o g2 q => ?_)
      obtain ⟨rfl, w2⟩ := q
      simp only [am_wp, am_stp, am_en, am_as, am_pad, am_nth, am_set, am_st1, am_st2, am_kl, am_kill, am_mem, am_fv, am_tk, am_wt, am_bk, Option.toList, List.cons_append, List.nil_append, Nat.reduceAdd, Nat.reduceEqDiff, Nat.reduceLeDiff, reduceIte, Nat.reduceLT, or_self, true_or, or_true, if_true, if_false, and_self, and_true, true_and, not_false_eq_true, not_true_eq_false]
      exact fin _ ((w1.trans w2).mono (by omega))
    · simp only [e2, am_wp, am_stp, am_en, am_as, am_pad, am_nth, am_set, am_st1, am_st2, am_kl, am_kill, am_mem, am_fv, am_tk, am_wt, am_bk, Option.toList, List.cons_append, List.nil_append, Nat.reduceAdd, Nat.reduceEqDiff, Nat.reduceLeDiff, reduceIte, Nat.reduceLT, or_self, true_or, or_true, if_true, if_false, and_self, and_true, true_and, not_false_eq_true, not_true_eq_false]
      exact fin _ (wp.refl w)
  · simp only [am_wp, am_stp, am_en, am_as, am_pad, am_nth, am_set, am_st1, am_st2, am_kl, am_kill, am_mem, am_fv, am_tk, am_wt, am_bk, Option.toList, List.cons_append, List.nil_append, Nat.reduceAdd, Nat.reduceEqDiff, Nat.reduceLeDiff, reduceIte, Nat.reduceLT, or_self, true_or, or_true, if_true, if_false, and_self, and_true, true_and, not_false_eq_true, not_true_eq_false]
    refine am_go [8, 42] 1 ?_
    simp only [am_wp, am_stp, am_en, am_as, am_pad, am_nth, am_set, am_st1, am_st2, am_kl, am_kill, am_mem, am_fv, am_tk, am_wt, am_bk, Option.toList, List.cons_append, List.nil_append, Nat.reduceAdd, Nat.reduceEqDiff, Nat.reduceLeDiff, reduceIte, Nat.reduceLT, or_self, true_or, or_true, if_true, if_false, and_self, and_true, true_and, not_false_eq_true, not_true_eq_false, fd_Pages_turn_5]
    exact fin _ (wp.refl w)
theorem ww_store {d P : Nat} {v : Int32} {h : am_H} (w : wk P h) : am_Rt nm_pr (d + 3) mi_Pages_store [.ref 18, .int v, .ref 14] h (fun o h' => b01 o ∧ wp P 0 h h') := by
  refine am_in' (d := d + 2) mt_Pages_store 4 rfl rfl rfl ?_
  refine am_go [] 3 ?_
  simp only [am_wp, am_stp, am_en, am_as, am_pad, am_nth, am_set, am_st1, am_st2, am_kl, am_kill, am_mem, am_fv, am_tk, am_wt, am_bk, Option.toList, List.cons_append, List.nil_append, Nat.reduceAdd, Nat.reduceEqDiff, Nat.reduceLeDiff, reduceIte, Nat.reduceLT, or_self, true_or, or_true, if_true, if_false, and_self, and_true, true_and, not_false_eq_true, not_true_eq_false, fd_Pages_store_0, fd_Pages_store_1, fd_Pages_store_2, w.sh.1.1]
  refine am_call (ww_seal w) (fun o g q => ?_)
  obtain ⟨rfl, w1⟩ := q
  simp only [am_wp, am_stp, am_en, am_as, am_pad, am_nth, am_set, am_st1, am_st2, am_kl, am_kill, am_mem, am_fv, am_tk, am_wt, am_bk, Option.toList, List.cons_append, List.nil_append, Nat.reduceAdd, Nat.reduceEqDiff, Nat.reduceLeDiff, reduceIte, Nat.reduceLT, or_self, true_or, or_true, if_true, if_false, and_self, and_true, true_and, not_false_eq_true, not_true_eq_false]
  have tail : ∀ (x y : Int32) (g2 : am_H), (x = 0 ∨ x = 1) → wp P 0 h g2 → am_Ex nm_pr (d + 2) mt_Pages_store (60, [.ref 18, .int v, .ref 14, .int x], [.int y, .ref 14, .int v, .ref 18], g2) (fun o h' => b01 o ∧ wp P 0 h h') := fun x y g2 hx w2 => by
    refine am_go [] 1 ?_
    simp only [am_wp, am_stp, am_en, am_as, am_pad, am_nth, am_set, am_st1, am_st2, am_kl, am_kill, am_mem, am_fv, am_tk, am_wt, am_bk, Option.toList, List.cons_append, List.nil_append, Nat.reduceAdd, Nat.reduceEqDiff, Nat.reduceLeDiff, reduceIte, Nat.reduceLT, or_self, true_or, or_true, if_true, if_false, and_self, and_true, true_and, not_false_eq_true, not_true_eq_false, fd_Pages_store_60, w2.1.pg.1]
    refine am_call (ww_lay w2.1) (fun o g3 q => ?_)
    obtain ⟨rfl, w3⟩ := q
    simp only [am_wp, am_stp, am_en, am_as, am_pad, am_nth, am_set, am_st1, am_st2, am_kl, am_kill, am_mem, am_fv, am_tk, am_wt, am_bk, Option.toList, List.cons_append, List.nil_append, Nat.reduceAdd, Nat.reduceEqDiff, Nat.reduceLeDiff, reduceIte, Nat.reduceLT, or_self, true_or, or_true, if_true, if_false, and_self, and_true, true_and, not_false_eq_true, not_true_eq_false]
    refine am_go [] 3 ?_
    simp only [am_wp, am_stp, am_en, am_as, am_pad, am_nth, am_set, am_st1, am_st2, am_kl, am_kill, am_mem, am_fv, am_tk, am_wt, am_bk, Option.toList, List.cons_append, List.nil_append, Nat.reduceAdd, Nat.reduceEqDiff, Nat.reduceLeDiff, reduceIte, Nat.reduceLT, or_self, true_or, or_true, if_true, if_false, and_self, and_true, true_and, not_false_eq_true, not_true_eq_false, fd_Pages_store_63, fd_Pages_store_64, fd_Pages_store_65, w3.1.pg.1]
    refine am_call (ww_checkSum w3.1) (fun o g4 q => ?_)
    obtain ⟨rfl, w4⟩ := q
    simp only [am_wp, am_stp, am_en, am_as, am_pad, am_nth, am_set, am_st1, am_st2, am_kl, am_kill, am_mem, am_fv, am_tk, am_wt, am_bk, Option.toList, List.cons_append, List.nil_append, Nat.reduceAdd, Nat.reduceEqDiff, Nat.reduceLeDiff, reduceIte, Nat.reduceLT, or_self, true_or, or_true, if_true, if_false, and_self, and_true, true_and, not_false_eq_true, not_true_eq_false]
    refine am_go [] 2 ?_
    simp only [am_wp, am_stp, am_en, am_as, am_pad, am_nth, am_set, am_st1, am_st2, am_kl, am_kill, am_mem, am_fv, am_tk, am_wt, am_bk, Option.toList, List.cons_append, List.nil_append, Nat.reduceAdd, Nat.reduceEqDiff, Nat.reduceLeDiff, reduceIte, Nat.reduceLT, or_self, true_or, or_true, if_true, if_false, and_self, and_true, true_and, not_false_eq_true, not_true_eq_false, fd_Pages_store_68, fd_Pages_store_69, hx]
    refine ⟨?_, ((w2.trans w3).trans w4).mono (by omega)⟩
    rcases hx with e | e <;> subst e
    · exact Or.inl rfl
    · exact Or.inr rfl
  have mid : ∀ (x : Int32) (g2 : am_H), (x = 0 ∨ x = 1) → wp P 0 h g2 → am_Ex nm_pr (d + 2) mt_Pages_store (28, [.ref 18, .int v, .ref 14, .retAddr 0], [.int x], g2) (fun o h' => b01 o ∧ wp P 0 h h') := fun x g2 hx w2 => by
    refine am_go [43] 9 ?_
    simp only [am_wp, am_stp, am_en, am_as, am_pad, am_nth, am_set, am_st1, am_st2, am_kl, am_kill, am_mem, am_fv, am_tk, am_wt, am_bk, Option.toList, List.cons_append, List.nil_append, Nat.reduceAdd, Nat.reduceEqDiff, Nat.reduceLeDiff, reduceIte, Nat.reduceLT, or_self, true_or, or_true, if_true, if_false, and_self, and_true, true_and, not_false_eq_true, not_true_eq_false, fd_Pages_store_28, fd_Pages_store_29, fd_Pages_store_30, fd_Pages_store_31, fd_Pages_store_32, fd_Pages_store_35, fd_Pages_store_36, fd_Pages_store_37, fd_Pages_store_40, w2.1.pg.1]
    have w3 := w2.s18 (j := 5) (v := am_mx 0 (am_I g2 18 5 - 1)) (by decide)
    generalize am_sI g2 18 5 (am_mx 0 (am_I g2 18 5 - 1)) = g3 at *
    refine am_go [50, 56] 5 ?_
    simp only [am_wp, am_stp, am_en, am_as, am_pad, am_nth, am_set, am_st1, am_st2, am_kl, am_kill, am_mem, am_fv, am_tk, am_wt, am_bk, Option.toList, List.cons_append, List.nil_append, Nat.reduceAdd, Nat.reduceEqDiff, Nat.reduceLeDiff, reduceIte, Nat.reduceLT, or_self, true_or, or_true, if_true, if_false, and_self, and_true, true_and, not_false_eq_true, not_true_eq_false, fd_Pages_store_43, fd_Pages_store_44, fd_Pages_store_45, fd_Pages_store_46, fd_Pages_store_47]
    refine wif ?_ ?_
    · refine am_go [60] 2 ?_
      simp only [am_wp, am_stp, am_en, am_as, am_pad, am_nth, am_set, am_st1, am_st2, am_kl, am_kill, am_mem, am_fv, am_tk, am_wt, am_bk, Option.toList, List.cons_append, List.nil_append, Nat.reduceAdd, Nat.reduceEqDiff, Nat.reduceLeDiff, reduceIte, Nat.reduceLT, or_self, true_or, or_true, if_true, if_false, and_self, and_true, true_and, not_false_eq_true, not_true_eq_false, fd_Pages_store_56, fd_Pages_store_57, w3.1.pg.1]
      exact tail x _ g3 hx w3
    · refine am_go [60] 2 ?_
      simp only [am_wp, am_stp, am_en, am_as, am_pad, am_nth, am_set, am_st1, am_st2, am_kl, am_kill, am_mem, am_fv, am_tk, am_wt, am_bk, Option.toList, List.cons_append, List.nil_append, Nat.reduceAdd, Nat.reduceEqDiff, Nat.reduceLeDiff, reduceIte, Nat.reduceLT, or_self, true_or, or_true, if_true, if_false, and_self, and_true, true_and, not_false_eq_true, not_true_eq_false, fd_Pages_store_50, fd_Pages_store_53]
      exact tail x _ g3 hx w3
  refine am_go [] 6 ?_
  simp only [am_wp, am_stp, am_en, am_as, am_pad, am_nth, am_set, am_st1, am_st2, am_kl, am_kill, am_mem, am_fv, am_tk, am_wt, am_bk, Option.toList, List.cons_append, List.nil_append, Nat.reduceAdd, Nat.reduceEqDiff, Nat.reduceLeDiff, reduceIte, Nat.reduceLT, or_self, true_or, or_true, if_true, if_false, and_self, and_true, true_and, not_false_eq_true, not_true_eq_false, fd_Pages_store_5, fd_Pages_store_6, fd_Pages_store_7, fd_Pages_store_10, fd_Pages_store_11, fd_Pages_store_12, w1.1.pg.1]
  have w2 := w1.s18 (j := 4) (v := am_I g 18 4 + 1) (by decide)
  generalize am_sI g 18 4 (am_I g 18 4 + 1) = g2 at *
  refine am_go [23, 27] 4 ?_
  simp only [am_wp, am_stp, am_en, am_as, am_pad, am_nth, am_set, am_st1, am_st2, am_kl, am_kill, am_mem, am_fv, am_tk, am_wt, am_bk, Option.toList, List.cons_append, List.nil_append, Nat.reduceAdd, Nat.reduceEqDiff, Nat.reduceLeDiff, reduceIte, Nat.reduceLT, or_self, true_or, or_true, if_true, if_false, and_self, and_true, true_and, not_false_eq_true, not_true_eq_false, fd_Pages_store_15, fd_Pages_store_16, fd_Pages_store_19, fd_Pages_store_20, w2.1.pg.1]
  refine wif ?_ ?_
  · refine am_go [28] 1 ?_
    simp only [am_wp, am_stp, am_en, am_as, am_pad, am_nth, am_set, am_st1, am_st2, am_kl, am_kill, am_mem, am_fv, am_tk, am_wt, am_bk, Option.toList, List.cons_append, List.nil_append, Nat.reduceAdd, Nat.reduceEqDiff, Nat.reduceLeDiff, reduceIte, Nat.reduceLT, or_self, true_or, or_true, if_true, if_false, and_self, and_true, true_and, not_false_eq_true, not_true_eq_false, fd_Pages_store_27]
    exact mid 0 g2 (Or.inl rfl) w2
  · refine am_go [28] 2 ?_
    simp only [am_wp, am_stp, am_en, am_as, am_pad, am_nth, am_set, am_st1, am_st2, am_kl, am_kill, am_mem, am_fv, am_tk, am_wt, am_bk, Option.toList, List.cons_append, List.nil_append, Nat.reduceAdd, Nat.reduceEqDiff, Nat.reduceLeDiff, reduceIte, Nat.reduceLT, or_self, true_or, or_true, if_true, if_false, and_self, and_true, true_and, not_false_eq_true, not_true_eq_false, fd_Pages_store_23, fd_Pages_store_24]
    exact mid 1 g2 (Or.inr rfl) w2
