/-! SortedRuns' OWN METHODS, WEAKLY, 11: range, at, run, octet, poke, badAt, told -/
theorem wcell_2n {P n : Nat} (hn : n ≤ 200) : wcell P 2 11 (nI n) := by
  refine ⟨fun q => ?_, fun q => ?_, fun q => ?_, fun q => ⟨n, hn, rfl⟩, fun q => ?_, fun q => ?_, fun q => ?_, fun q => ?_⟩ <;> omega
theorem wp.s2n {P k n : Nat} {h g : am_H} (w : wp P k h g) (hn : n ≤ 200) : wp P k h (am_sI g 2 11 (nI n)) := w.sI (cw_lt (by omega) (by omega)) (fun e => absurd e (by decide)) (wcell_2n hn)
theorem ww_noteAnswer {d P : Nat} {z y : Int64} {h : am_H} (w : wk P h) : am_Rt nm_pr (d + 1) mi_SR_noteAnswer [.ref 2, .long z, .long y] h (fun o h' => o = .inl none ∧ wp P 0 h h') := by
  obtain ⟨n, hn, e⟩ : wn 200 (am_I h 2 11) := (w.2.1 2 11).2.2.2.1 ⟨rfl, rfl⟩
  have w := wp.refl w
  refine am_in' (d := d) mt_SR_noteAnswer 5 rfl rfl rfl ?_
  by_cases hl : n < 200
  · have l1 : nI n < 200 := nI_lt (b := 200) hl (by decide)
    have i1 := am_inb (c := n) (N := 200) (by omega) (by omega)
    have q1 : (nI n).toNatClampNeg = n := nI_clamp (by omega)
    refine am_go [10, 40] 4 ?_
    simp only [am_wp, am_stp, am_en, am_as, am_pad, am_nth, am_set, am_st1, am_st2, am_kl, am_kill, am_mem, am_fv, am_tk, am_wt, am_bk, Option.toList, List.cons_append, List.nil_append, Nat.reduceAdd, Nat.reduceEqDiff, Nat.reduceLeDiff, reduceIte, Nat.reduceLT, or_self, true_or, or_true, if_true, if_false, and_self, and_true, true_and, not_false_eq_true, not_true_eq_false, fd_SR_noteAnswer_0, fd_SR_noteAnswer_1, fd_SR_noteAnswer_4, fd_SR_noteAnswer_7, w.1.all, e, l1]
    refine am_go [20] 6 ?_
    simp only [am_wp, am_stp, am_en, am_as, am_pad, am_nth, am_set, am_st1, am_st2, am_kl, am_kill, am_mem, am_fv, am_tk, am_wt, am_bk, Option.toList, List.cons_append, List.nil_append, Nat.reduceAdd, Nat.reduceEqDiff, Nat.reduceLeDiff, reduceIte, Nat.reduceLT, or_self, true_or, or_true, if_true, if_false, and_self, and_true, true_and, not_false_eq_true, not_true_eq_false, fd_SR_noteAnswer_10, fd_SR_noteAnswer_11, fd_SR_noteAnswer_14, fd_SR_noteAnswer_15, fd_SR_noteAnswer_18, fd_SR_noteAnswer_19, w.1.all, e, i1, q1]
    have w1 := w.sL (a := 16) (j := n) (v := z) (cw_lt (by omega) (by omega)) (by decide)
    have e1 : am_I (am_sL h 16 n z) 2 11 = nI n := e
    generalize am_sL h 16 n z = g1 at *
    refine am_go [30] 6 ?_
    simp only [am_wp, am_stp, am_en, am_as, am_pad, am_nth, am_set, am_st1, am_st2, am_kl, am_kill, am_mem, am_fv, am_tk, am_wt, am_bk, Option.toList, List.cons_append, List.nil_append, Nat.reduceAdd, Nat.reduceEqDiff, Nat.reduceLeDiff, reduceIte, Nat.reduceLT, or_self, true_or, or_true, if_true, if_false, and_self, and_true, true_and, not_false_eq_true, not_true_eq_false, fd_SR_noteAnswer_20, fd_SR_noteAnswer_21, fd_SR_noteAnswer_24, fd_SR_noteAnswer_25, fd_SR_noteAnswer_28, fd_SR_noteAnswer_29, w1.1.all, e1, i1, q1]
    have w2 := w1.sL (a := 17) (j := n) (v := y) (cw_lt (by omega) (by omega)) (by decide)
    have e2 : am_I (am_sL g1 17 n y) 2 11 = nI n := e1
    generalize am_sL g1 17 n y = g2 at *
    refine am_go [] 7 ?_
    simp only [am_wp, am_stp, am_en, am_as, am_pad, am_nth, am_set, am_st1, am_st2, am_kl, am_kill, am_mem, am_fv, am_tk, am_wt, am_bk, Option.toList, List.cons_append, List.nil_append, Nat.reduceAdd, Nat.reduceEqDiff, Nat.reduceLeDiff, reduceIte, Nat.reduceLT, or_self, true_or, or_true, if_true, if_false, and_self, and_true, true_and, not_false_eq_true, not_true_eq_false, fd_SR_noteAnswer_30, fd_SR_noteAnswer_31, fd_SR_noteAnswer_32, fd_SR_noteAnswer_35, fd_SR_noteAnswer_36, fd_SR_noteAnswer_37, fd_SR_noteAnswer_40, w2.1.all, e2, nI_1]
    exact w2.s2n (by omega)
  · have l1 : ¬ nI n < 200 := nI_nlt (b := 200) (by omega) (by omega)
    refine am_go [10, 40] 4 ?_
    simp only [am_wp, am_stp, am_en, am_as, am_pad, am_nth, am_set, am_st1, am_st2, am_kl, am_kill, am_mem, am_fv, am_tk, am_wt, am_bk, Option.toList, List.cons_append, List.nil_append, Nat.reduceAdd, Nat.reduceEqDiff, Nat.reduceLeDiff, reduceIte, Nat.reduceLT, or_self, true_or, or_true, if_true, if_false, and_self, and_true, true_and, not_false_eq_true, not_true_eq_false, fd_SR_noteAnswer_0, fd_SR_noteAnswer_1, fd_SR_noteAnswer_4, fd_SR_noteAnswer_7, w.1.all, e, l1]
    refine am_go [] 1 ?_
    simp only [am_wp, am_stp, am_en, am_as, am_pad, am_nth, am_set, am_st1, am_st2, am_kl, am_kill, am_mem, am_fv, am_tk, am_wt, am_bk, Option.toList, List.cons_append, List.nil_append, Nat.reduceAdd, Nat.reduceEqDiff, Nat.reduceLeDiff, reduceIte, Nat.reduceLT, or_self, true_or, or_true, if_true, if_false, and_self, and_true, true_and, not_false_eq_true, not_true_eq_false, fd_SR_noteAnswer_40, w.1.all]
    exact w
theorem ww_gather_loop {d P : Nat} {f t : Int64} {h : am_H} : ∀ (m i : Nat) (c : Int32) (g : am_H), m + i = 1000000 → wp P 0 h g →
    am_Ex nm_pr (d + 4) mt_SR_gatherAnswers (6, [.ref 2, .long f, .retAddr 0, .long t, .retAddr 0, .int c, .int (nI i)], [], g) (fun o h' => iany o ∧ wp P 0 h h')
  | m, i, c, g, hm, w => by
    have out : ∀ g, wp P 0 h g → am_Ex nm_pr (d + 4) mt_SR_gatherAnswers (77, [.ref 2, .long f, .retAddr 0, .long t, .retAddr 0, .int c, .int (nI i)], [], g) (fun o h' => iany o ∧ wp P 0 h h') := fun g w => by
      refine am_go [] 2 ?_
      simp only [am_wp, am_stp, am_en, am_as, am_pad, am_nth, am_set, am_st1, am_st2, am_kl, am_kill, am_mem, am_fv, am_tk, am_wt, am_bk, Option.toList, List.cons_append, List.nil_append, Nat.reduceAdd, Nat.reduceEqDiff, Nat.reduceLeDiff, reduceIte, Nat.reduceLT, or_self, true_or, or_true, if_true, if_false, and_self, and_true, true_and, not_false_eq_true, not_true_eq_false, fd_SR_gatherAnswers_77, fd_SR_gatherAnswers_79, w.1.all]
      exact ⟨⟨_, rfl⟩, w⟩
    cases m with
    | zero =>
      have e : i = 1000000 := by omega
      subst e
      have l1 : ¬ nI 1000000 < 1000000 := by decide
      refine am_go [13, 77] 3 ?_
      simp only [am_wp, am_stp, am_en, am_as, am_pad, am_nth, am_set, am_st1, am_st2, am_kl, am_kill, am_mem, am_fv, am_tk, am_wt, am_bk, Option.toList, List.cons_append, List.nil_append, Nat.reduceAdd, Nat.reduceEqDiff, Nat.reduceLeDiff, reduceIte, Nat.reduceLT, or_self, true_or, or_true, if_true, if_false, and_self, and_true, true_and, not_false_eq_true, not_true_eq_false, fd_SR_gatherAnswers_6, fd_SR_gatherAnswers_8, fd_SR_gatherAnswers_10, w.1.all, l1]
      exact out _ w
    | succ m =>
      have l1 : nI i < 1000000 := nI_lt (b := 1000000) (by omega) (by decide)
      refine am_go [13, 77] 3 ?_
      simp only [am_wp, am_stp, am_en, am_as, am_pad, am_nth, am_set, am_st1, am_st2, am_kl, am_kill, am_mem, am_fv, am_tk, am_wt, am_bk, Option.toList, List.cons_append, List.nil_append, Nat.reduceAdd, Nat.reduceEqDiff, Nat.reduceLeDiff, reduceIte, Nat.reduceLT, or_self, true_or, or_true, if_true, if_false, and_self, and_true, true_and, not_false_eq_true, not_true_eq_false, fd_SR_gatherAnswers_6, fd_SR_gatherAnswers_8, fd_SR_gatherAnswers_10, w.1.all, l1]
      refine am_go [] 3 ?_
      simp only [am_wp, am_stp, am_en, am_as, am_pad, am_nth, am_set, am_st1, am_st2, am_kl, am_kill, am_mem, am_fv, am_tk, am_wt, am_bk, Option.toList, List.cons_append, List.nil_append, Nat.reduceAdd, Nat.reduceEqDiff, Nat.reduceLeDiff, reduceIte, Nat.reduceLT, or_self, true_or, or_true, if_true, if_false, and_self, and_true, true_and, not_false_eq_true, not_true_eq_false, fd_SR_gatherAnswers_13, fd_SR_gatherAnswers_14, fd_SR_gatherAnswers_17, w.1.all]
      refine am_call (ww_advance w.1) (fun o g1 q => ?_)
      obtain ⟨b, w1⟩ := q
      have w1 := (w.trans w1).mono (l := 0) (by omega)
      obtain ⟨x, rfl, -⟩ := b01_cases b
      simp only [am_wp, am_stp, am_en, am_as, am_pad, am_nth, am_set, am_st1, am_st2, am_kl, am_kill, am_mem, am_fv, am_tk, am_wt, am_bk, Option.toList, List.cons_append, List.nil_append, Nat.reduceAdd, Nat.reduceEqDiff, Nat.reduceLeDiff, reduceIte, Nat.reduceLT, or_self, true_or, or_true, if_true, if_false, and_self, and_true, true_and, not_false_eq_true, not_true_eq_false]
      have next : ∀ (c : Int32) g, wp P 0 h g → am_Ex nm_pr (d + 4) mt_SR_gatherAnswers (71, [.ref 2, .long f, .retAddr 0, .long t, .retAddr 0, .int c, .int (nI i)], [], g) (fun o h' => iany o ∧ wp P 0 h h') := fun c g w => by
        refine am_go [6] 2 ?_
        simp only [am_wp, am_stp, am_en, am_as, am_pad, am_nth, am_set, am_st1, am_st2, am_kl, am_kill, am_mem, am_fv, am_tk, am_wt, am_bk, Option.toList, List.cons_append, List.nil_append, Nat.reduceAdd, Nat.reduceEqDiff, Nat.reduceLeDiff, reduceIte, Nat.reduceLT, or_self, true_or, or_true, if_true, if_false, and_self, and_true, true_and, not_false_eq_true, not_true_eq_false, fd_SR_gatherAnswers_71, fd_SR_gatherAnswers_74, w.1.all, nI_1]
        exact ww_gather_loop m (i + 1) c g (by omega) w
      refine am_go [23, 77] 1 ?_
      simp only [am_wp, am_stp, am_en, am_as, am_pad, am_nth, am_set, am_st1, am_st2, am_kl, am_kill, am_mem, am_fv, am_tk, am_wt, am_bk, Option.toList, List.cons_append, List.nil_append, Nat.reduceAdd, Nat.reduceEqDiff, Nat.reduceLeDiff, reduceIte, Nat.reduceLT, or_self, true_or, or_true, if_true, if_false, and_self, and_true, true_and, not_false_eq_true, not_true_eq_false, fd_SR_gatherAnswers_20, w1.1.all]
      refine wif (out _ w1) ?_
      refine am_go [35, 77] 6 ?_
      simp only [am_wp, am_stp, am_en, am_as, am_pad, am_nth, am_set, am_st1, am_st2, am_kl, am_kill, am_mem, am_fv, am_tk, am_wt, am_bk, Option.toList, List.cons_append, List.nil_append, Nat.reduceAdd, Nat.reduceEqDiff, Nat.reduceLeDiff, reduceIte, Nat.reduceLT, or_self, true_or, or_true, if_true, if_false, and_self, and_true, true_and, not_false_eq_true, not_true_eq_false, fd_SR_gatherAnswers_23, fd_SR_gatherAnswers_24, fd_SR_gatherAnswers_27, fd_SR_gatherAnswers_30, fd_SR_gatherAnswers_31, fd_SR_gatherAnswers_32, w1.1.all]
      refine wif (out _ w1) ?_
      refine am_go [47, 71] 6 ?_
      simp only [am_wp, am_stp, am_en, am_as, am_pad, am_nth, am_set, am_st1, am_st2, am_kl, am_kill, am_mem, am_fv, am_tk, am_wt, am_bk, Option.toList, List.cons_append, List.nil_append, Nat.reduceAdd, Nat.reduceEqDiff, Nat.reduceLeDiff, reduceIte, Nat.reduceLT, or_self, true_or, or_true, if_true, if_false, and_self, and_true, true_and, not_false_eq_true, not_true_eq_false, fd_SR_gatherAnswers_35, fd_SR_gatherAnswers_36, fd_SR_gatherAnswers_39, fd_SR_gatherAnswers_42, fd_SR_gatherAnswers_43, fd_SR_gatherAnswers_44, w1.1.all]
      refine wif (next _ _ w1) ?_
      refine am_go [] 9 ?_
      simp only [am_wp, am_stp, am_en, am_as, am_pad, am_nth, am_set, am_st1, am_st2, am_kl, am_kill, am_mem, am_fv, am_tk, am_wt, am_bk, Option.toList, List.cons_append, List.nil_append, Nat.reduceAdd, Nat.reduceEqDiff, Nat.reduceLeDiff, reduceIte, Nat.reduceLT, or_self, true_or, or_true, if_true, if_false, and_self, and_true, true_and, not_false_eq_true, not_true_eq_false, fd_SR_gatherAnswers_47, fd_SR_gatherAnswers_48, fd_SR_gatherAnswers_49, fd_SR_gatherAnswers_52, fd_SR_gatherAnswers_55, fd_SR_gatherAnswers_56, fd_SR_gatherAnswers_59, fd_SR_gatherAnswers_62, fd_SR_gatherAnswers_65, w1.1.all]
      refine am_call (ww_noteAnswer w1.1) (fun o g2 q => ?_)
      obtain ⟨rfl, w2⟩ := q
      have w2 := (w1.trans w2).mono (l := 0) (by omega)
      simp only [am_wp, am_stp, am_en, am_as, am_pad, am_nth, am_set, am_st1, am_st2, am_kl, am_kill, am_mem, am_fv, am_tk, am_wt, am_bk, Option.toList, List.cons_append, List.nil_append, Nat.reduceAdd, Nat.reduceEqDiff, Nat.reduceLeDiff, reduceIte, Nat.reduceLT, or_self, true_or, or_true, if_true, if_false, and_self, and_true, true_and, not_false_eq_true, not_true_eq_false]
      refine am_go [71] 1 ?_
      simp only [am_wp, am_stp, am_en, am_as, am_pad, am_nth, am_set, am_st1, am_st2, am_kl, am_kill, am_mem, am_fv, am_tk, am_wt, am_bk, Option.toList, List.cons_append, List.nil_append, Nat.reduceAdd, Nat.reduceEqDiff, Nat.reduceLeDiff, reduceIte, Nat.reduceLT, or_self, true_or, or_true, if_true, if_false, and_self, and_true, true_and, not_false_eq_true, not_true_eq_false, fd_SR_gatherAnswers_68, w2.1.all]
      exact next _ _ w2
theorem ww_gather {d P : Nat} {f t : Int64} {h : am_H} (w : wk P h) : am_Rt nm_pr (d + 5) mi_SR_gatherAnswers [.ref 2, .long f, .long t] h (fun o h' => iany o ∧ wp P 0 h h') := by
  have w := wp.refl w
  refine am_in' (d := d + 4) mt_SR_gatherAnswers 7 rfl rfl rfl ?_
  refine am_go [6] 4 ?_
  simp only [am_wp, am_stp, am_en, am_as, am_pad, am_nth, am_set, am_st1, am_st2, am_kl, am_kill, am_mem, am_fv, am_tk, am_wt, am_bk, Option.toList, List.cons_append, List.nil_append, Nat.reduceAdd, Nat.reduceEqDiff, Nat.reduceLeDiff, reduceIte, Nat.reduceLT, or_self, true_or, or_true, if_true, if_false, and_self, and_true, true_and, not_false_eq_true, not_true_eq_false, fd_SR_gatherAnswers_0, fd_SR_gatherAnswers_1, fd_SR_gatherAnswers_3, fd_SR_gatherAnswers_4, w.1.all]
  exact ww_gather_loop 1000000 0 0 h rfl w
theorem ww_range_loop {d P r : Nat} {v : Int32} {f t : Int64} {h : am_H} (ht : wl r) : ∀ (m i : Nat) (g : am_H), m + i = 9 → wp P 2 h g →
    am_Ex nm_pr (d + 5) mt_SR_range (80, [.ref 2, .int v, .long f, .retAddr 0, .long t, .retAddr 0, .ref r, .int (nI i)], [], g) (wx iany [0, 1, 2] P 2 h)
  | m, i, g, hm, w => by
    obtain ⟨k1, k2, k3, k4, k5, k6, -⟩ := w.1.lst ht
    have out : am_Ex nm_pr (d + 5) mt_SR_range (119, [.ref 2, .int v, .long f, .retAddr 0, .long t, .retAddr 0, .ref r, .int (nI i)], [], g) (wx iany [0, 1, 2] P 2 h) := by
      refine am_go [] 4 ?_
      simp only [am_wp, am_stp, am_en, am_as, am_pad, am_nth, am_set, am_st1, am_st2, am_kl, am_kill, am_mem, am_fv, am_tk, am_wt, am_bk, Option.toList, List.cons_append, List.nil_append, Nat.reduceAdd, Nat.reduceEqDiff, Nat.reduceLeDiff, reduceIte, Nat.reduceLT, or_self, true_or, or_true, if_true, if_false, and_self, and_true, true_and, not_false_eq_true, not_true_eq_false, fd_SR_range_119, fd_SR_range_120, fd_SR_range_121, fd_SR_range_123, w.1.all]
      refine am_call (ww_gather w.1) (fun o g1 q => ?_)
      obtain ⟨⟨x, rfl⟩, w1⟩ := q
      have w1 := (w.trans w1).mono (l := 2) (by omega)
      simp only [am_wp, am_stp, am_en, am_as, am_pad, am_nth, am_set, am_st1, am_st2, am_kl, am_kill, am_mem, am_fv, am_tk, am_wt, am_bk, Option.toList, List.cons_append, List.nil_append, Nat.reduceAdd, Nat.reduceEqDiff, Nat.reduceLeDiff, reduceIte, Nat.reduceLT, or_self, true_or, or_true, if_true, if_false, and_self, and_true, true_and, not_false_eq_true, not_true_eq_false]
      refine am_go [] 1 ?_
      simp only [am_wp, am_stp, am_en, am_as, am_pad, am_nth, am_set, am_st1, am_st2, am_kl, am_kill, am_mem, am_fv, am_tk, am_wt, am_bk, Option.toList, List.cons_append, List.nil_append, Nat.reduceAdd, Nat.reduceEqDiff, Nat.reduceLeDiff, reduceIte, Nat.reduceLT, or_self, true_or, or_true, if_true, if_false, and_self, and_true, true_and, not_false_eq_true, not_true_eq_false, fd_SR_range_126, w1.1.all]
      exact ⟨Or.inl ⟨_, rfl⟩, w1⟩
    refine am_go [90, 119] 4 ?_
    simp only [am_wp, am_stp, am_en, am_as, am_pad, am_nth, am_set, am_st1, am_st2, am_kl, am_kill, am_mem, am_fv, am_tk, am_wt, am_bk, Option.toList, List.cons_append, List.nil_append, Nat.reduceAdd, Nat.reduceEqDiff, Nat.reduceLeDiff, reduceIte, Nat.reduceLT, or_self, true_or, or_true, if_true, if_false, and_self, and_true, true_and, not_false_eq_true, not_true_eq_false, fd_SR_range_80, fd_SR_range_82, fd_SR_range_84, fd_SR_range_87, w.1.all, k1]
    refine wif ?_ out
    cases m with
    | zero =>
      have e : i = 9 := by omega
      subst e
      have l1 : ¬ nI 9 < 9 := by decide
      refine am_go [97, 119] 3 ?_
      simp only [am_wp, am_stp, am_en, am_as, am_pad, am_nth, am_set, am_st1, am_st2, am_kl, am_kill, am_mem, am_fv, am_tk, am_wt, am_bk, Option.toList, List.cons_append, List.nil_append, Nat.reduceAdd, Nat.reduceEqDiff, Nat.reduceLeDiff, reduceIte, Nat.reduceLT, or_self, true_or, or_true, if_true, if_false, and_self, and_true, true_and, not_false_eq_true, not_true_eq_false, fd_SR_range_90, fd_SR_range_92, fd_SR_range_94, w.1.all, l1]
      exact out
    | succ m =>
      have l1 : nI i < 9 := nI_lt (b := 9) (by omega) (by decide)
      have i1 := am_inb (c := i) (N := 9) (by omega) (by omega)
      have q1 : (nI i).toNatClampNeg = i := nI_clamp (by omega)
      have r := w.1.pl ht (i := i) (by omega)
      refine am_go [97, 119] 3 ?_
      simp only [am_wp, am_stp, am_en, am_as, am_pad, am_nth, am_set, am_st1, am_st2, am_kl, am_kill, am_mem, am_fv, am_tk, am_wt, am_bk, Option.toList, List.cons_append, List.nil_append, Nat.reduceAdd, Nat.reduceEqDiff, Nat.reduceLeDiff, reduceIte, Nat.reduceLT, or_self, true_or, or_true, if_true, if_false, and_self, and_true, true_and, not_false_eq_true, not_true_eq_false, fd_SR_range_90, fd_SR_range_92, fd_SR_range_94, w.1.all, l1]
      refine am_go [] 8 ?_
      simp only [am_wp, am_stp, am_en, am_as, am_pad, am_nth, am_set, am_st1, am_st2, am_kl, am_kill, am_mem, am_fv, am_tk, am_wt, am_bk, Option.toList, List.cons_append, List.nil_append, Nat.reduceAdd, Nat.reduceEqDiff, Nat.reduceLeDiff, reduceIte, Nat.reduceLT, or_self, true_or, or_true, if_true, if_false, and_self, and_true, true_and, not_false_eq_true, not_true_eq_false, fd_SR_range_97, fd_SR_range_98, fd_SR_range_101, fd_SR_range_103, fd_SR_range_106, fd_SR_range_108, fd_SR_range_109, fd_SR_range_110, w.1.all, k1, k2, k3, k4, i1, q1]
      refine am_call (ww_addRun w.1 r) (fun o g1 q => ?_)
      obtain ⟨rfl, w1⟩ := q
      have w1 := (w.trans w1).mono (l := 2) (by omega)
      simp only [am_wp, am_stp, am_en, am_as, am_pad, am_nth, am_set, am_st1, am_st2, am_kl, am_kill, am_mem, am_fv, am_tk, am_wt, am_bk, Option.toList, List.cons_append, List.nil_append, Nat.reduceAdd, Nat.reduceEqDiff, Nat.reduceLeDiff, reduceIte, Nat.reduceLT, or_self, true_or, or_true, if_true, if_false, and_self, and_true, true_and, not_false_eq_true, not_true_eq_false]
      refine am_go [80] 2 ?_
      simp only [am_wp, am_stp, am_en, am_as, am_pad, am_nth, am_set, am_st1, am_st2, am_kl, am_kill, am_mem, am_fv, am_tk, am_wt, am_bk, Option.toList, List.cons_append, List.nil_append, Nat.reduceAdd, Nat.reduceEqDiff, Nat.reduceLeDiff, reduceIte, Nat.reduceLT, or_self, true_or, or_true, if_true, if_false, and_self, and_true, true_and, not_false_eq_true, not_true_eq_false, fd_SR_range_113, fd_SR_range_116, w1.1.all, nI_1]
      exact ww_range_loop ht m (i + 1) g1 (by omega) w1
theorem ww_range {d P : Nat} {v : Int32} {f t : Int64} {h : am_H} (w : wk P h) : am_Rt nm_pr (d + 6) mi_SR_range [.ref 2, .int v, .long f, .long t] h (wx iany [0, 1, 2] P 2 h) := by
  have w := wp.refl w
  refine am_in' (d := d + 5) mt_SR_range 8 rfl rfl rfl ?_
  refine am_go [] 3 ?_
  simp only [am_wp, am_stp, am_en, am_as, am_pad, am_nth, am_set, am_st1, am_st2, am_kl, am_kill, am_mem, am_fv, am_tk, am_wt, am_bk, Option.toList, List.cons_append, List.nil_append, Nat.reduceAdd, Nat.reduceEqDiff, Nat.reduceLeDiff, reduceIte, Nat.reduceLT, or_self, true_or, or_true, if_true, if_false, and_self, and_true, true_and, not_false_eq_true, not_true_eq_false, fd_SR_range_0, fd_SR_range_1, fd_SR_range_2, w.1.all]
  refine am_call (ww_runsOf w.1) (fun o g2 q => ?_)
  obtain ⟨⟨r, ht, rfl⟩ | ⟨c, a, hc, rfl⟩, w2⟩ := q
  rotate_left
  · simp only [am_wp, am_stp, am_en, am_as, am_pad, am_nth, am_set, am_st1, am_st2, am_kl, am_kill, am_mem, am_fv, am_tk, am_wt, am_bk, Option.toList, List.cons_append, List.nil_append, Nat.reduceAdd, Nat.reduceEqDiff, Nat.reduceLeDiff, reduceIte, Nat.reduceLT, or_self, true_or, or_true, if_true, if_false, and_self, and_true, true_and, not_false_eq_true, not_true_eq_false, show mt_SR_range.2.2 = [] from rfl, am_hd]
    exact ⟨Or.inr ⟨c, a, by simp at hc ⊢; omega, rfl⟩, w2.mono (by omega)⟩
  simp only [am_wp, am_stp, am_en, am_as, am_pad, am_nth, am_set, am_st1, am_st2, am_kl, am_kill, am_mem, am_fv, am_tk, am_wt, am_bk, Option.toList, List.cons_append, List.nil_append, Nat.reduceAdd, Nat.reduceEqDiff, Nat.reduceLeDiff, reduceIte, Nat.reduceLT, or_self, true_or, or_true, if_true, if_false, and_self, and_true, true_and, not_false_eq_true, not_true_eq_false]
  refine am_go [14, 25] 5 ?_
  simp only [am_wp, am_stp, am_en, am_as, am_pad, am_nth, am_set, am_st1, am_st2, am_kl, am_kill, am_mem, am_fv, am_tk, am_wt, am_bk, Option.toList, List.cons_append, List.nil_append, Nat.reduceAdd, Nat.reduceEqDiff, Nat.reduceLeDiff, reduceIte, Nat.reduceLT, or_self, true_or, or_true, if_true, if_false, and_self, and_true, true_and, not_false_eq_true, not_true_eq_false, fd_SR_range_5, fd_SR_range_7, fd_SR_range_8, fd_SR_range_10, fd_SR_range_11, w2.1.all]
  refine wif ?_ ?_
  · refine am_go [] 1 ?_
    simp only [am_wp, am_stp, am_en, am_as, am_pad, am_nth, am_set, am_st1, am_st2, am_kl, am_kill, am_mem, am_fv, am_tk, am_wt, am_bk, Option.toList, List.cons_append, List.nil_append, Nat.reduceAdd, Nat.reduceEqDiff, Nat.reduceLeDiff, reduceIte, Nat.reduceLT, or_self, true_or, or_true, if_true, if_false, and_self, and_true, true_and, not_false_eq_true, not_true_eq_false, fd_SR_range_14, w2.1.all]
    exact ⟨Or.inr ⟨1, _, by simp, rfl⟩, (w2.trans (wp.ex w2.1)).mono (by omega)⟩
  have w3 := (w2.s2n (n := 0) (by omega)).mono (l := 2) (by omega)
  refine am_go [30] 3 ?_
  simp only [am_wp, am_stp, am_en, am_as, am_pad, am_nth, am_set, am_st1, am_st2, am_kl, am_kill, am_mem, am_fv, am_tk, am_wt, am_bk, Option.toList, List.cons_append, List.nil_append, Nat.reduceAdd, Nat.reduceEqDiff, Nat.reduceLeDiff, reduceIte, Nat.reduceLT, or_self, true_or, or_true, if_true, if_false, and_self, and_true, true_and, not_false_eq_true, not_true_eq_false, fd_SR_range_25, fd_SR_range_26, fd_SR_range_27, w2.1.all]
  change wp P 2 h (am_sI g2 2 11 0) at w3
  generalize am_sI g2 2 11 0 = g3 at *
  obtain ⟨k1, k2, k3, k4, k5, k6, -⟩ := w3.1.lst ht
  refine am_go [] 6 ?_
  simp only [am_wp, am_stp, am_en, am_as, am_pad, am_nth, am_set, am_st1, am_st2, am_kl, am_kill, am_mem, am_fv, am_tk, am_wt, am_bk, Option.toList, List.cons_append, List.nil_append, Nat.reduceAdd, Nat.reduceEqDiff, Nat.reduceLeDiff, reduceIte, Nat.reduceLT, or_self, true_or, or_true, if_true, if_false, and_self, and_true, true_and, not_false_eq_true, not_true_eq_false, fd_SR_range_30, fd_SR_range_31, fd_SR_range_33, fd_SR_range_34, fd_SR_range_36, fd_SR_range_39, w3.1.all, k1]
  refine am_call (ww_readRuns (f := 0) w3.1 ht (by omega)) (fun o g4 q => ?_)
  obtain ⟨b, w4⟩ := q
  have w4 := (w3.trans w4).mono (l := 2) (by omega)
  obtain ⟨x, rfl, -⟩ := b01_cases b
  simp only [am_wp, am_stp, am_en, am_as, am_pad, am_nth, am_set, am_st1, am_st2, am_kl, am_kill, am_mem, am_fv, am_tk, am_wt, am_bk, Option.toList, List.cons_append, List.nil_append, Nat.reduceAdd, Nat.reduceEqDiff, Nat.reduceLeDiff, reduceIte, Nat.reduceLT, or_self, true_or, or_true, if_true, if_false, and_self, and_true, true_and, not_false_eq_true, not_true_eq_false]
  refine am_go [45, 52] 1 ?_
  simp only [am_wp, am_stp, am_en, am_as, am_pad, am_nth, am_set, am_st1, am_st2, am_kl, am_kill, am_mem, am_fv, am_tk, am_wt, am_bk, Option.toList, List.cons_append, List.nil_append, Nat.reduceAdd, Nat.reduceEqDiff, Nat.reduceLeDiff, reduceIte, Nat.reduceLT, or_self, true_or, or_true, if_true, if_false, and_self, and_true, true_and, not_false_eq_true, not_true_eq_false, fd_SR_range_42, w4.1.all]
  refine wif ?_ ?_
  · have w5 := w4.s2 (j := 14) (v := 3) (by decide)
    refine am_go [] 5 ?_
    simp only [am_wp, am_stp, am_en, am_as, am_pad, am_nth, am_set, am_st1, am_st2, am_kl, am_kill, am_mem, am_fv, am_tk, am_wt, am_bk, Option.toList, List.cons_append, List.nil_append, Nat.reduceAdd, Nat.reduceEqDiff, Nat.reduceLeDiff, reduceIte, Nat.reduceLT, or_self, true_or, or_true, if_true, if_false, and_self, and_true, true_and, not_false_eq_true, not_true_eq_false, fd_SR_range_45, fd_SR_range_46, fd_SR_range_47, fd_SR_range_50, fd_SR_range_51, w4.1.all]
    exact ⟨Or.inl ⟨_, rfl⟩, w5⟩
  have w5 := w4.s2 (j := 14) (v := 1) (by decide)
  refine am_go [57] 3 ?_
  simp only [am_wp, am_stp, am_en, am_as, am_pad, am_nth, am_set, am_st1, am_st2, am_kl, am_kill, am_mem, am_fv, am_tk, am_wt, am_bk, Option.toList, List.cons_append, List.nil_append, Nat.reduceAdd, Nat.reduceEqDiff, Nat.reduceLeDiff, reduceIte, Nat.reduceLT, or_self, true_or, or_true, if_true, if_false, and_self, and_true, true_and, not_false_eq_true, not_true_eq_false, fd_SR_range_52, fd_SR_range_53, fd_SR_range_54, w4.1.all]
  generalize am_sI g4 2 14 1 = g5 at *
  refine am_go [] 4 ?_
  simp only [am_wp, am_stp, am_en, am_as, am_pad, am_nth, am_set, am_st1, am_st2, am_kl, am_kill, am_mem, am_fv, am_tk, am_wt, am_bk, Option.toList, List.cons_append, List.nil_append, Nat.reduceAdd, Nat.reduceEqDiff, Nat.reduceLeDiff, reduceIte, Nat.reduceLT, or_self, true_or, or_true, if_true, if_false, and_self, and_true, true_and, not_false_eq_true, not_true_eq_false, fd_SR_range_57, fd_SR_range_58, fd_SR_range_61, fd_SR_range_62, w5.1.all]
  refine am_call (ww_begin w5.1 (Or.inr rfl)) (fun o g6 q => ?_)
  obtain ⟨rfl, w6⟩ := q
  have w6 := (w5.trans w6).mono (l := 2) (by omega)
  simp only [am_wp, am_stp, am_en, am_as, am_pad, am_nth, am_set, am_st1, am_st2, am_kl, am_kill, am_mem, am_fv, am_tk, am_wt, am_bk, Option.toList, List.cons_append, List.nil_append, Nat.reduceAdd, Nat.reduceEqDiff, Nat.reduceLeDiff, reduceIte, Nat.reduceLT, or_self, true_or, or_true, if_true, if_false, and_self, and_true, true_and, not_false_eq_true, not_true_eq_false]
  have go : ∀ g, wp P 2 h g → am_Ex nm_pr (d + 5) mt_SR_range (77, [.ref 2, .int v, .long f, .retAddr 0, .long t, .retAddr 0, .ref r, .retAddr 0], [], g) (wx iany [0, 1, 2] P 2 h) := fun g w => by
    refine am_go [80] 2 ?_
    simp only [am_wp, am_stp, am_en, am_as, am_pad, am_nth, am_set, am_st1, am_st2, am_kl, am_kill, am_mem, am_fv, am_tk, am_wt, am_bk, Option.toList, List.cons_append, List.nil_append, Nat.reduceAdd, Nat.reduceEqDiff, Nat.reduceLeDiff, reduceIte, Nat.reduceLT, or_self, true_or, or_true, if_true, if_false, and_self, and_true, true_and, not_false_eq_true, not_true_eq_false, fd_SR_range_77, fd_SR_range_78, w.1.all]
    exact ww_range_loop ht 9 0 g rfl w
  refine am_go [70, 77] 3 ?_
  simp only [am_wp, am_stp, am_en, am_as, am_pad, am_nth, am_set, am_st1, am_st2, am_kl, am_kill, am_mem, am_fv, am_tk, am_wt, am_bk, Option.toList, List.cons_append, List.nil_append, Nat.reduceAdd, Nat.reduceEqDiff, Nat.reduceLeDiff, reduceIte, Nat.reduceLT, or_self, true_or, or_true, if_true, if_false, and_self, and_true, true_and, not_false_eq_true, not_true_eq_false, fd_SR_range_65, fd_SR_range_66, fd_SR_range_67, w6.1.all]
  refine wif ?_ (go _ w6)
  refine am_go [] 3 ?_
  simp only [am_wp, am_stp, am_en, am_as, am_pad, am_nth, am_set, am_st1, am_st2, am_kl, am_kill, am_mem, am_fv, am_tk, am_wt, am_bk, Option.toList, List.cons_append, List.nil_append, Nat.reduceAdd, Nat.reduceEqDiff, Nat.reduceLeDiff, reduceIte, Nat.reduceLT, or_self, true_or, or_true, if_true, if_false, and_self, and_true, true_and, not_false_eq_true, not_true_eq_false, fd_SR_range_70, fd_SR_range_71, fd_SR_range_74, w6.1.all]
  refine am_call (ww_addTable w6.1) (fun o g7 q => ?_)
  obtain ⟨rfl, w7⟩ := q
  have w7 := (w6.trans w7).mono (l := 2) (by omega)
  simp only [am_wp, am_stp, am_en, am_as, am_pad, am_nth, am_set, am_st1, am_st2, am_kl, am_kill, am_mem, am_fv, am_tk, am_wt, am_bk, Option.toList, List.cons_append, List.nil_append, Nat.reduceAdd, Nat.reduceEqDiff, Nat.reduceLeDiff, reduceIte, Nat.reduceLT, or_self, true_or, or_true, if_true, if_false, and_self, and_true, true_and, not_false_eq_true, not_true_eq_false]
  exact go _ w7
theorem ww_at {d P : Nat} {i v : Int32} {h : am_H} (w : wk P h) : am_Rt nm_pr (d + 1) mi_SR_at [.ref 2, .int i, .int v] h (wx lany [2] P 1 h) := by
  obtain ⟨n, hn, e⟩ : wn 200 (am_I h 2 11) := (w.2.1 2 11).2.2.2.1 ⟨rfl, rfl⟩
  have w := wp.refl w
  refine am_in' (d := d) mt_SR_at 3 rfl rfl rfl ?_
  have bad : am_Ex nm_pr d mt_SR_at (28, [.ref 2, .int i, .int v], [], h) (wx lany [2] P 1 h) := by
    refine am_go [] 1 ?_
    simp only [am_wp, am_stp, am_en, am_as, am_pad, am_nth, am_set, am_st1, am_st2, am_kl, am_kill, am_mem, am_fv, am_tk, am_wt, am_bk, Option.toList, List.cons_append, List.nil_append, Nat.reduceAdd, Nat.reduceEqDiff, Nat.reduceLeDiff, reduceIte, Nat.reduceLT, or_self, true_or, or_true, if_true, if_false, and_self, and_true, true_and, not_false_eq_true, not_true_eq_false, fd_SR_at_28, w.1.all]
    exact ⟨Or.inr ⟨2, _, by simp, rfl⟩, wp.ex w.1⟩
  by_cases e1 : i < 0
  · refine am_go [4, 28] 2 ?_
    simp only [am_wp, am_stp, am_en, am_as, am_pad, am_nth, am_set, am_st1, am_st2, am_kl, am_kill, am_mem, am_fv, am_tk, am_wt, am_bk, Option.toList, List.cons_append, List.nil_append, Nat.reduceAdd, Nat.reduceEqDiff, Nat.reduceLeDiff, reduceIte, Nat.reduceLT, or_self, true_or, or_true, if_true, if_false, and_self, and_true, true_and, not_false_eq_true, not_true_eq_false, fd_SR_at_0, fd_SR_at_1, w.1.all, e1]
    exact bad
  refine am_go [4, 28] 2 ?_
  simp only [am_wp, am_stp, am_en, am_as, am_pad, am_nth, am_set, am_st1, am_st2, am_kl, am_kill, am_mem, am_fv, am_tk, am_wt, am_bk, Option.toList, List.cons_append, List.nil_append, Nat.reduceAdd, Nat.reduceEqDiff, Nat.reduceLeDiff, reduceIte, Nat.reduceLT, or_self, true_or, or_true, if_true, if_false, and_self, and_true, true_and, not_false_eq_true, not_true_eq_false, fd_SR_at_0, fd_SR_at_1, w.1.all, e1]
  by_cases e2 : i < nI n
  · obtain ⟨p, hp, rfl⟩ := in_natL (N := n) (by omega) e1 e2
    have i1 := am_inb (c := p) (N := 200) (by omega) (by omega)
    have q1 : (nI p).toNatClampNeg = p := nI_clamp (by omega)
    have l1 : nI p < 200 := nI_lt (b := 200) (by omega) (by decide)
    refine am_go [12, 28] 4 ?_
    simp only [am_wp, am_stp, am_en, am_as, am_pad, am_nth, am_set, am_st1, am_st2, am_kl, am_kill, am_mem, am_fv, am_tk, am_wt, am_bk, Option.toList, List.cons_append, List.nil_append, Nat.reduceAdd, Nat.reduceEqDiff, Nat.reduceLeDiff, reduceIte, Nat.reduceLT, or_self, true_or, or_true, if_true, if_false, and_self, and_true, true_and, not_false_eq_true, not_true_eq_false, fd_SR_at_4, fd_SR_at_5, fd_SR_at_6, fd_SR_at_9, w.1.all, e, e2]
    refine am_go [19, 28] 3 ?_
    simp only [am_wp, am_stp, am_en, am_as, am_pad, am_nth, am_set, am_st1, am_st2, am_kl, am_kill, am_mem, am_fv, am_tk, am_wt, am_bk, Option.toList, List.cons_append, List.nil_append, Nat.reduceAdd, Nat.reduceEqDiff, Nat.reduceLeDiff, reduceIte, Nat.reduceLT, or_self, true_or, or_true, if_true, if_false, and_self, and_true, true_and, not_false_eq_true, not_true_eq_false, fd_SR_at_12, fd_SR_at_13, fd_SR_at_16, w.1.all, l1]
    refine am_go [23, 28] 2 ?_
    simp only [am_wp, am_stp, am_en, am_as, am_pad, am_nth, am_set, am_st1, am_st2, am_kl, am_kill, am_mem, am_fv, am_tk, am_wt, am_bk, Option.toList, List.cons_append, List.nil_append, Nat.reduceAdd, Nat.reduceEqDiff, Nat.reduceLeDiff, reduceIte, Nat.reduceLT, or_self, true_or, or_true, if_true, if_false, and_self, and_true, true_and, not_false_eq_true, not_true_eq_false, fd_SR_at_19, fd_SR_at_20, w.1.all]
    refine wif bad ?_
    refine am_go [28, 39] 3 ?_
    simp only [am_wp, am_stp, am_en, am_as, am_pad, am_nth, am_set, am_st1, am_st2, am_kl, am_kill, am_mem, am_fv, am_tk, am_wt, am_bk, Option.toList, List.cons_append, List.nil_append, Nat.reduceAdd, Nat.reduceEqDiff, Nat.reduceLeDiff, reduceIte, Nat.reduceLT, or_self, true_or, or_true, if_true, if_false, and_self, and_true, true_and, not_false_eq_true, not_true_eq_false, fd_SR_at_23, fd_SR_at_24, fd_SR_at_25, w.1.all]
    refine wif bad ?_
    refine am_go [43, 52] 2 ?_
    simp only [am_wp, am_stp, am_en, am_as, am_pad, am_nth, am_set, am_st1, am_st2, am_kl, am_kill, am_mem, am_fv, am_tk, am_wt, am_bk, Option.toList, List.cons_append, List.nil_append, Nat.reduceAdd, Nat.reduceEqDiff, Nat.reduceLeDiff, reduceIte, Nat.reduceLT, or_self, true_or, or_true, if_true, if_false, and_self, and_true, true_and, not_false_eq_true, not_true_eq_false, fd_SR_at_39, fd_SR_at_40, w.1.all]
    refine wif ?_ ?_
    rotate_left
    · refine am_go [] 5 ?_
      simp only [am_wp, am_stp, am_en, am_as, am_pad, am_nth, am_set, am_st1, am_st2, am_kl, am_kill, am_mem, am_fv, am_tk, am_wt, am_bk, Option.toList, List.cons_append, List.nil_append, Nat.reduceAdd, Nat.reduceEqDiff, Nat.reduceLeDiff, reduceIte, Nat.reduceLT, or_self, true_or, or_true, if_true, if_false, and_self, and_true, true_and, not_false_eq_true, not_true_eq_false, fd_SR_at_52, fd_SR_at_53, fd_SR_at_56, fd_SR_at_57, fd_SR_at_58, w.1.all, i1, q1]
      exact ⟨Or.inl ⟨_, rfl⟩, w.mono (by omega)⟩
    · refine am_go [] 6 ?_
      simp only [am_wp, am_stp, am_en, am_as, am_pad, am_nth, am_set, am_st1, am_st2, am_kl, am_kill, am_mem, am_fv, am_tk, am_wt, am_bk, Option.toList, List.cons_append, List.nil_append, Nat.reduceAdd, Nat.reduceEqDiff, Nat.reduceLeDiff, reduceIte, Nat.reduceLT, or_self, true_or, or_true, if_true, if_false, and_self, and_true, true_and, not_false_eq_true, not_true_eq_false, fd_SR_at_43, fd_SR_at_44, fd_SR_at_47, fd_SR_at_48, fd_SR_at_49, fd_SR_at_58, w.1.all, i1, q1]
      exact ⟨Or.inl ⟨_, rfl⟩, w.mono (by omega)⟩
  · refine am_go [12, 28] 4 ?_
    simp only [am_wp, am_stp, am_en, am_as, am_pad, am_nth, am_set, am_st1, am_st2, am_kl, am_kill, am_mem, am_fv, am_tk, am_wt, am_bk, Option.toList, List.cons_append, List.nil_append, Nat.reduceAdd, Nat.reduceEqDiff, Nat.reduceLeDiff, reduceIte, Nat.reduceLT, or_self, true_or, or_true, if_true, if_false, and_self, and_true, true_and, not_false_eq_true, not_true_eq_false, fd_SR_at_4, fd_SR_at_5, fd_SR_at_6, fd_SR_at_9, w.1.all, e, e2]
    exact bad
theorem am_sw_all {x : Int32} {k : Nat → Prop} {d : Nat} (hd : k d) : ∀ (ts : List Nat) (lo : Int32), (∀ t ∈ ts, k t) → am_sw x k d lo ts
  | [], lo, _ => hd
  | t :: ts, lo, hk => by
    simp only [am_sw]
    exact wif (hk t (by simp)) (am_sw_all hd ts (lo + 1) (fun u hu => hk u (by simp [hu])))
theorem ww_run {d P : Nat} {i v : Int32} {h : am_H} (w : wk P h) : am_Rt nm_pr (d + 1) mi_SR_run [.ref 2, .int i, .int v] h (wx iany [2] P 1 h) := by
  obtain ⟨-, -, -, -, -, -, n, hn, e⟩ := w.lst (t := 8) (Or.inl rfl)
  have w := wp.refl w
  refine am_in' (d := d) mt_SR_run 4 rfl rfl rfl ?_
  have bad : am_Ex nm_pr d mt_SR_run (30, [.ref 2, .int i, .int v, .retAddr 0], [], h) (wx iany [2] P 1 h) := by
    refine am_go [] 1 ?_
    simp only [am_wp, am_stp, am_en, am_as, am_pad, am_nth, am_set, am_st1, am_st2, am_kl, am_kill, am_mem, am_fv, am_tk, am_wt, am_bk, Option.toList, List.cons_append, List.nil_append, Nat.reduceAdd, Nat.reduceEqDiff, Nat.reduceLeDiff, reduceIte, Nat.reduceLT, or_self, true_or, or_true, if_true, if_false, and_self, and_true, true_and, not_false_eq_true, not_true_eq_false, fd_SR_run_30, w.1.all]
    exact ⟨Or.inr ⟨2, _, by simp, rfl⟩, wp.ex w.1⟩
  by_cases e1 : i < 0
  · refine am_go [4, 30] 2 ?_
    simp only [am_wp, am_stp, am_en, am_as, am_pad, am_nth, am_set, am_st1, am_st2, am_kl, am_kill, am_mem, am_fv, am_tk, am_wt, am_bk, Option.toList, List.cons_append, List.nil_append, Nat.reduceAdd, Nat.reduceEqDiff, Nat.reduceLeDiff, reduceIte, Nat.reduceLT, or_self, true_or, or_true, if_true, if_false, and_self, and_true, true_and, not_false_eq_true, not_true_eq_false, fd_SR_run_0, fd_SR_run_1, w.1.all, e1]
    exact bad
  refine am_go [4, 30] 2 ?_
  simp only [am_wp, am_stp, am_en, am_as, am_pad, am_nth, am_set, am_st1, am_st2, am_kl, am_kill, am_mem, am_fv, am_tk, am_wt, am_bk, Option.toList, List.cons_append, List.nil_append, Nat.reduceAdd, Nat.reduceEqDiff, Nat.reduceLeDiff, reduceIte, Nat.reduceLT, or_self, true_or, or_true, if_true, if_false, and_self, and_true, true_and, not_false_eq_true, not_true_eq_false, fd_SR_run_0, fd_SR_run_1, w.1.all, e1]
  by_cases e2 : i < nI n
  · obtain ⟨p, hp, rfl⟩ := in_natL (N := n) (by omega) e1 e2
    have i1 := am_inb (c := p) (N := 9) (by omega) (by omega)
    have q1 : (nI p).toNatClampNeg = p := nI_clamp (by omega)
    have l1 : nI p < 9 := nI_lt (b := 9) (by omega) (by decide)
    have r := w.1.ru 9 p (by decide) (by omega)
    refine am_go [15, 30] 5 ?_
    simp only [am_wp, am_stp, am_en, am_as, am_pad, am_nth, am_set, am_st1, am_st2, am_kl, am_kill, am_mem, am_fv, am_tk, am_wt, am_bk, Option.toList, List.cons_append, List.nil_append, Nat.reduceAdd, Nat.reduceEqDiff, Nat.reduceLeDiff, reduceIte, Nat.reduceLT, or_self, true_or, or_true, if_true, if_false, and_self, and_true, true_and, not_false_eq_true, not_true_eq_false, fd_SR_run_4, fd_SR_run_5, fd_SR_run_6, fd_SR_run_9, fd_SR_run_12, w.1.all, e, e2]
    refine am_go [21, 30] 3 ?_
    simp only [am_wp, am_stp, am_en, am_as, am_pad, am_nth, am_set, am_st1, am_st2, am_kl, am_kill, am_mem, am_fv, am_tk, am_wt, am_bk, Option.toList, List.cons_append, List.nil_append, Nat.reduceAdd, Nat.reduceEqDiff, Nat.reduceLeDiff, reduceIte, Nat.reduceLT, or_self, true_or, or_true, if_true, if_false, and_self, and_true, true_and, not_false_eq_true, not_true_eq_false, fd_SR_run_15, fd_SR_run_16, fd_SR_run_18, w.1.all, l1]
    refine am_go [25, 30] 2 ?_
    simp only [am_wp, am_stp, am_en, am_as, am_pad, am_nth, am_set, am_st1, am_st2, am_kl, am_kill, am_mem, am_fv, am_tk, am_wt, am_bk, Option.toList, List.cons_append, List.nil_append, Nat.reduceAdd, Nat.reduceEqDiff, Nat.reduceLeDiff, reduceIte, Nat.reduceLT, or_self, true_or, or_true, if_true, if_false, and_self, and_true, true_and, not_false_eq_true, not_true_eq_false, fd_SR_run_21, fd_SR_run_22, w.1.all]
    refine wif bad ?_
    refine am_go [30, 41] 3 ?_
    simp only [am_wp, am_stp, am_en, am_as, am_pad, am_nth, am_set, am_st1, am_st2, am_kl, am_kill, am_mem, am_fv, am_tk, am_wt, am_bk, Option.toList, List.cons_append, List.nil_append, Nat.reduceAdd, Nat.reduceEqDiff, Nat.reduceLeDiff, reduceIte, Nat.reduceLT, or_self, true_or, or_true, if_true, if_false, and_self, and_true, true_and, not_false_eq_true, not_true_eq_false, fd_SR_run_25, fd_SR_run_26, fd_SR_run_27, w.1.all]
    refine wif bad ?_
    refine am_go [51] 6 ?_
    simp only [am_wp, am_stp, am_en, am_as, am_pad, am_nth, am_set, am_st1, am_st2, am_kl, am_kill, am_mem, am_fv, am_tk, am_wt, am_bk, Option.toList, List.cons_append, List.nil_append, Nat.reduceAdd, Nat.reduceEqDiff, Nat.reduceLeDiff, reduceIte, Nat.reduceLT, or_self, true_or, or_true, if_true, if_false, and_self, and_true, true_and, not_false_eq_true, not_true_eq_false, fd_SR_run_41, fd_SR_run_42, fd_SR_run_45, fd_SR_run_48, fd_SR_run_49, fd_SR_run_50, w.1.all, i1, q1]
    generalize am_R h 9 p = a at *
    refine am_go [84, 89, 94, 99, 104] 2 ?_
    simp only [am_wp, am_stp, am_en, am_as, am_pad, am_nth, am_set, am_st1, am_st2, am_kl, am_kill, am_mem, am_fv, am_tk, am_wt, am_bk, Option.toList, List.cons_append, List.nil_append, Nat.reduceAdd, Nat.reduceEqDiff, Nat.reduceLeDiff, reduceIte, Nat.reduceLT, or_self, true_or, or_true, if_true, if_false, and_self, and_true, true_and, not_false_eq_true, not_true_eq_false, fd_SR_run_51, fd_SR_run_52]
    have ets : (List.map (fun o => ((52 : Int) + o).toNat) [32, 37, 42, 47]) = [84, 89, 94, 99] := by decide
    have G : am_sw v (fun t => am_Ex nm_pr d mt_SR_run (t, [.ref 2, .int (nI p), .int v, .ref a], [], h) (wx iany [2] P 1 h)) 104 0 [84, 89, 94, 99] := by
      refine am_sw_all ?_ _ _ (fun t ht => ?_)
      · refine am_go [] 3 ?_
        simp only [am_wp, am_stp, am_en, am_as, am_pad, am_nth, am_set, am_st1, am_st2, am_kl, am_kill, am_mem, am_fv, am_tk, am_wt, am_bk, Option.toList, List.cons_append, List.nil_append, Nat.reduceAdd, Nat.reduceEqDiff, Nat.reduceLeDiff, reduceIte, Nat.reduceLT, or_self, true_or, or_true, if_true, if_false, and_self, and_true, true_and, not_false_eq_true, not_true_eq_false, fd_SR_run_104, fd_SR_run_105, fd_SR_run_108, w.1.all, r.1]
        exact ⟨Or.inl ⟨_, rfl⟩, w.mono (by omega)⟩
      · simp only [List.mem_cons, List.not_mem_nil, or_false] at ht
        rcases ht with rfl | rfl | rfl | rfl
        · refine am_go [] 3 ?_
          simp only [am_wp, am_stp, am_en, am_as, am_pad, am_nth, am_set, am_st1, am_st2, am_kl, am_kill, am_mem, am_fv, am_tk, am_wt, am_bk, Option.toList, List.cons_append, List.nil_append, Nat.reduceAdd, Nat.reduceEqDiff, Nat.reduceLeDiff, reduceIte, Nat.reduceLT, or_self, true_or, or_true, if_true, if_false, and_self, and_true, true_and, not_false_eq_true, not_true_eq_false, fd_SR_run_84, fd_SR_run_85, fd_SR_run_88, w.1.all, r.1]
          exact ⟨Or.inl ⟨_, rfl⟩, w.mono (by omega)⟩
        · refine am_go [] 3 ?_
          simp only [am_wp, am_stp, am_en, am_as, am_pad, am_nth, am_set, am_st1, am_st2, am_kl, am_kill, am_mem, am_fv, am_tk, am_wt, am_bk, Option.toList, List.cons_append, List.nil_append, Nat.reduceAdd, Nat.reduceEqDiff, Nat.reduceLeDiff, reduceIte, Nat.reduceLT, or_self, true_or, or_true, if_true, if_false, and_self, and_true, true_and, not_false_eq_true, not_true_eq_false, fd_SR_run_89, fd_SR_run_90, fd_SR_run_93, w.1.all, r.1]
          exact ⟨Or.inl ⟨_, rfl⟩, w.mono (by omega)⟩
        · refine am_go [] 3 ?_
          simp only [am_wp, am_stp, am_en, am_as, am_pad, am_nth, am_set, am_st1, am_st2, am_kl, am_kill, am_mem, am_fv, am_tk, am_wt, am_bk, Option.toList, List.cons_append, List.nil_append, Nat.reduceAdd, Nat.reduceEqDiff, Nat.reduceLeDiff, reduceIte, Nat.reduceLT, or_self, true_or, or_true, if_true, if_false, and_self, and_true, true_and, not_false_eq_true, not_true_eq_false, fd_SR_run_94, fd_SR_run_95, fd_SR_run_98, w.1.all, r.1]
          exact ⟨Or.inl ⟨_, rfl⟩, w.mono (by omega)⟩
        · refine am_go [] 3 ?_
          simp only [am_wp, am_stp, am_en, am_as, am_pad, am_nth, am_set, am_st1, am_st2, am_kl, am_kill, am_mem, am_fv, am_tk, am_wt, am_bk, Option.toList, List.cons_append, List.nil_append, Nat.reduceAdd, Nat.reduceEqDiff, Nat.reduceLeDiff, reduceIte, Nat.reduceLT, or_self, true_or, or_true, if_true, if_false, and_self, and_true, true_and, not_false_eq_true, not_true_eq_false, fd_SR_run_99, fd_SR_run_100, fd_SR_run_103, w.1.all, r.1]
          exact ⟨Or.inl ⟨_, rfl⟩, w.mono (by omega)⟩
    rw [← ets] at G
    exact G
  · refine am_go [15, 30] 5 ?_
    simp only [am_wp, am_stp, am_en, am_as, am_pad, am_nth, am_set, am_st1, am_st2, am_kl, am_kill, am_mem, am_fv, am_tk, am_wt, am_bk, Option.toList, List.cons_append, List.nil_append, Nat.reduceAdd, Nat.reduceEqDiff, Nat.reduceLeDiff, reduceIte, Nat.reduceLT, or_self, true_or, or_true, if_true, if_false, and_self, and_true, true_and, not_false_eq_true, not_true_eq_false, fd_SR_run_4, fd_SR_run_5, fd_SR_run_6, fd_SR_run_9, fd_SR_run_12, w.1.all, e, e2]
    exact bad
theorem ww_requireOctet {d P : Nat} {p i : Int32} {h : am_H} (w : wk P h) : am_Rt nm_pr (d + 2) mi_SR_requireOctet [.ref 2, .int p, .int i] h (fun o h' => (o = .inl none ∧ h' = h) ∨ ((∃ a, o = .inr (2, a)) ∧ wp P 1 h h')) := by
  refine am_call (l2_requireOctet (w.kd 2 1 (by decide)) (w.R 2 0 18 (by decide)) w.pg) (fun o h' q => ?_)
  cases e : oc_ok P p i with
  | true => rw [e] at q; exact Or.inl q
  | false =>
    rw [e] at q
    obtain ⟨rfl, rfl⟩ := q
    exact Or.inr ⟨⟨_, rfl⟩, wp.ex w⟩
theorem ww_octet {d P : Nat} {p i : Int32} {h : am_H} (w : wk P h) : am_Rt nm_pr (d + 3) mi_SR_octet [.ref 2, .int p, .int i] h (wx iany [2] P 1 h) := by
  have w := wp.refl w
  refine am_in' (d := d + 2) mt_SR_octet 3 rfl rfl rfl ?_
  refine am_go [] 4 ?_
  simp only [am_wp, am_stp, am_en, am_as, am_pad, am_nth, am_set, am_st1, am_st2, am_kl, am_kill, am_mem, am_fv, am_tk, am_wt, am_bk, Option.toList, List.cons_append, List.nil_append, Nat.reduceAdd, Nat.reduceEqDiff, Nat.reduceLeDiff, reduceIte, Nat.reduceLT, or_self, true_or, or_true, if_true, if_false, and_self, and_true, true_and, not_false_eq_true, not_true_eq_false, fd_SR_octet_0, fd_SR_octet_1, fd_SR_octet_2, fd_SR_octet_3, w.1.all]
  refine am_call (ww_requireOctet w.1) (fun o g1 q => ?_)
  rcases q with ⟨rfl, rfl⟩ | ⟨⟨a, rfl⟩, w1⟩
  rotate_left
  · simp only [am_wp, am_stp, am_en, am_as, am_pad, am_nth, am_set, am_st1, am_st2, am_kl, am_kill, am_mem, am_fv, am_tk, am_wt, am_bk, Option.toList, List.cons_append, List.nil_append, Nat.reduceAdd, Nat.reduceEqDiff, Nat.reduceLeDiff, reduceIte, Nat.reduceLT, or_self, true_or, or_true, if_true, if_false, and_self, and_true, true_and, not_false_eq_true, not_true_eq_false, show mt_SR_octet.2.2 = [] from rfl, am_hd]
    exact ⟨Or.inr ⟨2, a, by simp, rfl⟩, w1⟩
  simp only [am_wp, am_stp, am_en, am_as, am_pad, am_nth, am_set, am_st1, am_st2, am_kl, am_kill, am_mem, am_fv, am_tk, am_wt, am_bk, Option.toList, List.cons_append, List.nil_append, Nat.reduceAdd, Nat.reduceEqDiff, Nat.reduceLeDiff, reduceIte, Nat.reduceLT, or_self, true_or, or_true, if_true, if_false, and_self, and_true, true_and, not_false_eq_true, not_true_eq_false]
  refine am_go [] 5 ?_
  simp only [am_wp, am_stp, am_en, am_as, am_pad, am_nth, am_set, am_st1, am_st2, am_kl, am_kill, am_mem, am_fv, am_tk, am_wt, am_bk, Option.toList, List.cons_append, List.nil_append, Nat.reduceAdd, Nat.reduceEqDiff, Nat.reduceLeDiff, reduceIte, Nat.reduceLT, or_self, true_or, or_true, if_true, if_false, and_self, and_true, true_and, not_false_eq_true, not_true_eq_false, fd_SR_octet_6, fd_SR_octet_7, fd_SR_octet_10, fd_SR_octet_11, fd_SR_octet_12, w.1.all]
  refine am_call (ww_peek w.1) (fun o g2 q => ?_)
  obtain ⟨⟨x, rfl⟩, rfl⟩ := q
  simp only [am_wp, am_stp, am_en, am_as, am_pad, am_nth, am_set, am_st1, am_st2, am_kl, am_kill, am_mem, am_fv, am_tk, am_wt, am_bk, Option.toList, List.cons_append, List.nil_append, Nat.reduceAdd, Nat.reduceEqDiff, Nat.reduceLeDiff, reduceIte, Nat.reduceLT, or_self, true_or, or_true, if_true, if_false, and_self, and_true, true_and, not_false_eq_true, not_true_eq_false]
  refine am_go [] 1 ?_
  simp only [am_wp, am_stp, am_en, am_as, am_pad, am_nth, am_set, am_st1, am_st2, am_kl, am_kill, am_mem, am_fv, am_tk, am_wt, am_bk, Option.toList, List.cons_append, List.nil_append, Nat.reduceAdd, Nat.reduceEqDiff, Nat.reduceLeDiff, reduceIte, Nat.reduceLT, or_self, true_or, or_true, if_true, if_false, and_self, and_true, true_and, not_false_eq_true, not_true_eq_false, fd_SR_octet_15, w.1.all]
  exact ⟨Or.inl ⟨_, rfl⟩, w.mono (by omega)⟩
def nany (o : am_O) : Prop := o = .inl none
theorem ww_poke {d P : Nat} {p i k : Int32} {h : am_H} (w : wk P h) : am_Rt nm_pr (d + 4) mi_SR_poke [.ref 2, .int p, .int i, .int k] h (wx nany [0, 1, 2] P 1 h) := by
  have w := wp.refl w
  refine am_in' (d := d + 3) mt_SR_poke 4 rfl rfl rfl ?_
  refine am_go [] 4 ?_
  simp only [am_wp, am_stp, am_en, am_as, am_pad, am_nth, am_set, am_st1, am_st2, am_kl, am_kill, am_mem, am_fv, am_tk, am_wt, am_bk, Option.toList, List.cons_append, List.nil_append, Nat.reduceAdd, Nat.reduceEqDiff, Nat.reduceLeDiff, reduceIte, Nat.reduceLT, or_self, true_or, or_true, if_true, if_false, and_self, and_true, true_and, not_false_eq_true, not_true_eq_false, fd_SR_poke_0, fd_SR_poke_1, fd_SR_poke_2, fd_SR_poke_3, w.1.all]
  refine am_call (ww_requireOctet w.1) (fun o g1 q => ?_)
  rcases q with ⟨rfl, rfl⟩ | ⟨⟨a, rfl⟩, w1⟩
  rotate_left
  · simp only [am_wp, am_stp, am_en, am_as, am_pad, am_nth, am_set, am_st1, am_st2, am_kl, am_kill, am_mem, am_fv, am_tk, am_wt, am_bk, Option.toList, List.cons_append, List.nil_append, Nat.reduceAdd, Nat.reduceEqDiff, Nat.reduceLeDiff, reduceIte, Nat.reduceLT, or_self, true_or, or_true, if_true, if_false, and_self, and_true, true_and, not_false_eq_true, not_true_eq_false, show mt_SR_poke.2.2 = [] from rfl, am_hd]
    exact ⟨Or.inr ⟨2, a, by simp, rfl⟩, w1⟩
  simp only [am_wp, am_stp, am_en, am_as, am_pad, am_nth, am_set, am_st1, am_st2, am_kl, am_kill, am_mem, am_fv, am_tk, am_wt, am_bk, Option.toList, List.cons_append, List.nil_append, Nat.reduceAdd, Nat.reduceEqDiff, Nat.reduceLeDiff, reduceIte, Nat.reduceLT, or_self, true_or, or_true, if_true, if_false, and_self, and_true, true_and, not_false_eq_true, not_true_eq_false]
  refine am_go [] 4 ?_
  simp only [am_wp, am_stp, am_en, am_as, am_pad, am_nth, am_set, am_st1, am_st2, am_kl, am_kill, am_mem, am_fv, am_tk, am_wt, am_bk, Option.toList, List.cons_append, List.nil_append, Nat.reduceAdd, Nat.reduceEqDiff, Nat.reduceLeDiff, reduceIte, Nat.reduceLT, or_self, true_or, or_true, if_true, if_false, and_self, and_true, true_and, not_false_eq_true, not_true_eq_false, fd_SR_poke_6, fd_SR_poke_7, fd_SR_poke_10, fd_SR_poke_11, w.1.all]
  refine am_call (ww_isRight w.1) (fun o g2 q => ?_)
  obtain ⟨b, rfl⟩ := q
  obtain ⟨x, rfl, -⟩ := b01_cases b
  simp only [am_wp, am_stp, am_en, am_as, am_pad, am_nth, am_set, am_st1, am_st2, am_kl, am_kill, am_mem, am_fv, am_tk, am_wt, am_bk, Option.toList, List.cons_append, List.nil_append, Nat.reduceAdd, Nat.reduceEqDiff, Nat.reduceLeDiff, reduceIte, Nat.reduceLT, or_self, true_or, or_true, if_true, if_false, and_self, and_true, true_and, not_false_eq_true, not_true_eq_false]
  refine am_go [17, 28] 1 ?_
  simp only [am_wp, am_stp, am_en, am_as, am_pad, am_nth, am_set, am_st1, am_st2, am_kl, am_kill, am_mem, am_fv, am_tk, am_wt, am_bk, Option.toList, List.cons_append, List.nil_append, Nat.reduceAdd, Nat.reduceEqDiff, Nat.reduceLeDiff, reduceIte, Nat.reduceLT, or_self, true_or, or_true, if_true, if_false, and_self, and_true, true_and, not_false_eq_true, not_true_eq_false, fd_SR_poke_14, w.1.all]
  refine wif ?_ ?_
  · refine am_go [] 1 ?_
    simp only [am_wp, am_stp, am_en, am_as, am_pad, am_nth, am_set, am_st1, am_st2, am_kl, am_kill, am_mem, am_fv, am_tk, am_wt, am_bk, Option.toList, List.cons_append, List.nil_append, Nat.reduceAdd, Nat.reduceEqDiff, Nat.reduceLeDiff, reduceIte, Nat.reduceLT, or_self, true_or, or_true, if_true, if_false, and_self, and_true, true_and, not_false_eq_true, not_true_eq_false, fd_SR_poke_17, w.1.all]
    exact ⟨Or.inr ⟨0, _, by simp, rfl⟩, wp.ex w.1⟩
  have bad : am_Ex nm_pr (d + 3) mt_SR_poke (40, [.ref 2, .int p, .int i, .int k], [], g2) (wx nany [0, 1, 2] P 1 g2) := by
    refine am_go [] 1 ?_
    simp only [am_wp, am_stp, am_en, am_as, am_pad, am_nth, am_set, am_st1, am_st2, am_kl, am_kill, am_mem, am_fv, am_tk, am_wt, am_bk, Option.toList, List.cons_append, List.nil_append, Nat.reduceAdd, Nat.reduceEqDiff, Nat.reduceLeDiff, reduceIte, Nat.reduceLT, or_self, true_or, or_true, if_true, if_false, and_self, and_true, true_and, not_false_eq_true, not_true_eq_false, fd_SR_poke_40, w.1.all]
    exact ⟨Or.inr ⟨1, _, by simp, rfl⟩, wp.ex w.1⟩
  refine am_go [33, 40] 3 ?_
  simp only [am_wp, am_stp, am_en, am_as, am_pad, am_nth, am_set, am_st1, am_st2, am_kl, am_kill, am_mem, am_fv, am_tk, am_wt, am_bk, Option.toList, List.cons_append, List.nil_append, Nat.reduceAdd, Nat.reduceEqDiff, Nat.reduceLeDiff, reduceIte, Nat.reduceLT, or_self, true_or, or_true, if_true, if_false, and_self, and_true, true_and, not_false_eq_true, not_true_eq_false, fd_SR_poke_28, fd_SR_poke_29, fd_SR_poke_30, w.1.all]
  refine wif bad ?_
  refine am_go [40, 51] 3 ?_
  simp only [am_wp, am_stp, am_en, am_as, am_pad, am_nth, am_set, am_st1, am_st2, am_kl, am_kill, am_mem, am_fv, am_tk, am_wt, am_bk, Option.toList, List.cons_append, List.nil_append, Nat.reduceAdd, Nat.reduceEqDiff, Nat.reduceLeDiff, reduceIte, Nat.reduceLT, or_self, true_or, or_true, if_true, if_false, and_self, and_true, true_and, not_false_eq_true, not_true_eq_false, fd_SR_poke_33, fd_SR_poke_34, fd_SR_poke_37, w.1.all]
  refine wif bad ?_
  refine am_go [] 6 ?_
  simp only [am_wp, am_stp, am_en, am_as, am_pad, am_nth, am_set, am_st1, am_st2, am_kl, am_kill, am_mem, am_fv, am_tk, am_wt, am_bk, Option.toList, List.cons_append, List.nil_append, Nat.reduceAdd, Nat.reduceEqDiff, Nat.reduceLeDiff, reduceIte, Nat.reduceLT, or_self, true_or, or_true, if_true, if_false, and_self, and_true, true_and, not_false_eq_true, not_true_eq_false, fd_SR_poke_51, fd_SR_poke_52, fd_SR_poke_55, fd_SR_poke_56, fd_SR_poke_57, fd_SR_poke_58, w.1.all]
  refine am_call (ww_turn w.1) (fun o g3 q => ?_)
  obtain ⟨rfl, w3⟩ := q
  have w3 := (w.trans w3).mono (l := 1) (by omega)
  simp only [am_wp, am_stp, am_en, am_as, am_pad, am_nth, am_set, am_st1, am_st2, am_kl, am_kill, am_mem, am_fv, am_tk, am_wt, am_bk, Option.toList, List.cons_append, List.nil_append, Nat.reduceAdd, Nat.reduceEqDiff, Nat.reduceLeDiff, reduceIte, Nat.reduceLT, or_self, true_or, or_true, if_true, if_false, and_self, and_true, true_and, not_false_eq_true, not_true_eq_false]
  refine am_go [] 1 ?_
  simp only [am_wp, am_stp, am_en, am_as, am_pad, am_nth, am_set, am_st1, am_st2, am_kl, am_kill, am_mem, am_fv, am_tk, am_wt, am_bk, Option.toList, List.cons_append, List.nil_append, Nat.reduceAdd, Nat.reduceEqDiff, Nat.reduceLeDiff, reduceIte, Nat.reduceLT, or_self, true_or, or_true, if_true, if_false, and_self, and_true, true_and, not_false_eq_true, not_true_eq_false, fd_SR_poke_61, w3.1.all]
  exact ⟨Or.inl rfl, w3⟩
theorem ww_lw_in {d P t i : Nat} {h : am_H} (w : wp P 0 h h) (ht : wl t) (hi : i < 9) {Q : am_O → am_H → Prop} (hx : ∀ (x : Int32) (y4 y5 : Int32), am_Ex nm_pr (d + 2) mt_SR_leastWrong (84, [.ref 2, .ref t, .int x, .int (nI i), .int y4, .int y5], [], h) Q) : ∀ (m c : Nat) (x y : Int32), m + c = 2147483647 →
    am_Ex nm_pr (d + 2) mt_SR_leastWrong (34, [.ref 2, .ref t, .int x, .int (nI i), .int y, .int (nI c)], [], h) Q
  | m, c, x, y, hm => by
    obtain ⟨k1, k2, k3, k4, k5, k6, -⟩ := w.1.lst ht
    have i1 := am_inb (c := i) (N := 9) (by omega) (by omega)
    have q1 : (nI i).toNatClampNeg = i := nI_clamp (by omega)
    have r := w.1.pl ht (i := i) (by omega)
    cases m with
    | zero =>
      have l1 : ¬ nI c < am_I h (am_R h (t + 1) i) 4 := nmax (by omega)
      refine am_go [48, 84] 7 ?_
      simp only [am_wp, am_stp, am_en, am_as, am_pad, am_nth, am_set, am_st1, am_st2, am_kl, am_kill, am_mem, am_fv, am_tk, am_wt, am_bk, Option.toList, List.cons_append, List.nil_append, Nat.reduceAdd, Nat.reduceEqDiff, Nat.reduceLeDiff, reduceIte, Nat.reduceLT, or_self, true_or, or_true, if_true, if_false, and_self, and_true, true_and, not_false_eq_true, not_true_eq_false, fd_SR_leastWrong_34, fd_SR_leastWrong_36, fd_SR_leastWrong_37, fd_SR_leastWrong_40, fd_SR_leastWrong_41, fd_SR_leastWrong_42, fd_SR_leastWrong_45, w.1.all, k1, k2, k3, k4, i1, q1, r.1, l1]
      exact hx _ _ _
    | succ m =>
      refine am_go [48, 84] 7 ?_
      simp only [am_wp, am_stp, am_en, am_as, am_pad, am_nth, am_set, am_st1, am_st2, am_kl, am_kill, am_mem, am_fv, am_tk, am_wt, am_bk, Option.toList, List.cons_append, List.nil_append, Nat.reduceAdd, Nat.reduceEqDiff, Nat.reduceLeDiff, reduceIte, Nat.reduceLT, or_self, true_or, or_true, if_true, if_false, and_self, and_true, true_and, not_false_eq_true, not_true_eq_false, fd_SR_leastWrong_34, fd_SR_leastWrong_36, fd_SR_leastWrong_37, fd_SR_leastWrong_40, fd_SR_leastWrong_41, fd_SR_leastWrong_42, fd_SR_leastWrong_45, w.1.all, k1, k2, k3, k4, i1, q1, r.1]
      refine wif ?_ (hx _ _ _)
      have next : ∀ x : Int32, am_Ex nm_pr (d + 2) mt_SR_leastWrong (67, [.ref 2, .ref t, .int x, .int (nI i), .int y, .int (nI c)], [], h) Q := fun x => by
        refine am_go [] 4 ?_
        simp only [am_wp, am_stp, am_en, am_as, am_pad, am_nth, am_set, am_st1, am_st2, am_kl, am_kill, am_mem, am_fv, am_tk, am_wt, am_bk, Option.toList, List.cons_append, List.nil_append, Nat.reduceAdd, Nat.reduceEqDiff, Nat.reduceLeDiff, reduceIte, Nat.reduceLT, or_self, true_or, or_true, if_true, if_false, and_self, and_true, true_and, not_false_eq_true, not_true_eq_false, fd_SR_leastWrong_67, fd_SR_leastWrong_68, fd_SR_leastWrong_71, fd_SR_leastWrong_73, w.1.all]
        refine am_call (ww_after w.1) (fun o g2 q => ?_)
        obtain ⟨⟨z, rfl⟩, rfl⟩ := q
        simp only [am_wp, am_stp, am_en, am_as, am_pad, am_nth, am_set, am_st1, am_st2, am_kl, am_kill, am_mem, am_fv, am_tk, am_wt, am_bk, Option.toList, List.cons_append, List.nil_append, Nat.reduceAdd, Nat.reduceEqDiff, Nat.reduceLeDiff, reduceIte, Nat.reduceLT, or_self, true_or, or_true, if_true, if_false, and_self, and_true, true_and, not_false_eq_true, not_true_eq_false]
        refine am_go [34] 3 ?_
        simp only [am_wp, am_stp, am_en, am_as, am_pad, am_nth, am_set, am_st1, am_st2, am_kl, am_kill, am_mem, am_fv, am_tk, am_wt, am_bk, Option.toList, List.cons_append, List.nil_append, Nat.reduceAdd, Nat.reduceEqDiff, Nat.reduceLeDiff, reduceIte, Nat.reduceLT, or_self, true_or, or_true, if_true, if_false, and_self, and_true, true_and, not_false_eq_true, not_true_eq_false, fd_SR_leastWrong_76, fd_SR_leastWrong_78, fd_SR_leastWrong_81, w.1.all, nI_1]
        exact ww_lw_in w ht hi hx m (c + 1) x z (by omega)
      refine am_go [] 4 ?_
      simp only [am_wp, am_stp, am_en, am_as, am_pad, am_nth, am_set, am_st1, am_st2, am_kl, am_kill, am_mem, am_fv, am_tk, am_wt, am_bk, Option.toList, List.cons_append, List.nil_append, Nat.reduceAdd, Nat.reduceEqDiff, Nat.reduceLeDiff, reduceIte, Nat.reduceLT, or_self, true_or, or_true, if_true, if_false, and_self, and_true, true_and, not_false_eq_true, not_true_eq_false, fd_SR_leastWrong_48, fd_SR_leastWrong_49, fd_SR_leastWrong_52, fd_SR_leastWrong_54, w.1.all]
      refine am_call (ww_isRight w.1) (fun o g2 q => ?_)
      obtain ⟨b, rfl⟩ := q
      obtain ⟨z, rfl, -⟩ := b01_cases b
      simp only [am_wp, am_stp, am_en, am_as, am_pad, am_nth, am_set, am_st1, am_st2, am_kl, am_kill, am_mem, am_fv, am_tk, am_wt, am_bk, Option.toList, List.cons_append, List.nil_append, Nat.reduceAdd, Nat.reduceEqDiff, Nat.reduceLeDiff, reduceIte, Nat.reduceLT, or_self, true_or, or_true, if_true, if_false, and_self, and_true, true_and, not_false_eq_true, not_true_eq_false]
      refine am_go [60, 67] 1 ?_
      simp only [am_wp, am_stp, am_en, am_as, am_pad, am_nth, am_set, am_st1, am_st2, am_kl, am_kill, am_mem, am_fv, am_tk, am_wt, am_bk, Option.toList, List.cons_append, List.nil_append, Nat.reduceAdd, Nat.reduceEqDiff, Nat.reduceLeDiff, reduceIte, Nat.reduceLT, or_self, true_or, or_true, if_true, if_false, and_self, and_true, true_and, not_false_eq_true, not_true_eq_false, fd_SR_leastWrong_57, w.1.all]
      refine wif ?_ (next _)
      refine am_go [67] 4 ?_
      simp only [am_wp, am_stp, am_en, am_as, am_pad, am_nth, am_set, am_st1, am_st2, am_kl, am_kill, am_mem, am_fv, am_tk, am_wt, am_bk, Option.toList, List.cons_append, List.nil_append, Nat.reduceAdd, Nat.reduceEqDiff, Nat.reduceLeDiff, reduceIte, Nat.reduceLT, or_self, true_or, or_true, if_true, if_false, and_self, and_true, true_and, not_false_eq_true, not_true_eq_false, fd_SR_leastWrong_60, fd_SR_leastWrong_61, fd_SR_leastWrong_63, fd_SR_leastWrong_66, w.1.all]
      exact next _
theorem ww_lw_loop {d P t : Nat} {h : am_H} (w : wp P 0 h h) (ht : wl t) : ∀ (m i : Nat) (x : Int32) (y4 y5 : Value), m + i = 9 → (∀ z, y4 ≠ .long z) →
    am_Ex nm_pr (d + 2) mt_SR_leastWrong (6, [.ref 2, .ref t, .int x, .int (nI i), y4, y5], [], h) (fun o h' => iany o ∧ h' = h)
  | m, i, x, y4, y5, hm, hy => by
    obtain ⟨k1, k2, k3, k4, k5, k6, -⟩ := w.1.lst ht
    have out : am_Ex nm_pr (d + 2) mt_SR_leastWrong (90, [.ref 2, .ref t, .int x, .int (nI i), y4, y5], [], h) (fun o h' => iany o ∧ h' = h) := by
      refine am_go [] 2 ?_
      simp only [am_wp, am_stp, am_en, am_as, am_pad, am_nth, am_set, am_st1, am_st2, am_kl, am_kill, am_mem, am_fv, am_tk, am_wt, am_bk, Option.toList, List.cons_append, List.nil_append, Nat.reduceAdd, Nat.reduceEqDiff, Nat.reduceLeDiff, reduceIte, Nat.reduceLT, or_self, true_or, or_true, if_true, if_false, and_self, and_true, true_and, not_false_eq_true, not_true_eq_false, fd_SR_leastWrong_90, fd_SR_leastWrong_91, w.1.all]
      exact ⟨_, rfl⟩
    refine am_go [14, 90] 4 ?_
    simp only [am_wp, am_stp, am_en, am_as, am_pad, am_nth, am_set, am_st1, am_st2, am_kl, am_kill, am_mem, am_fv, am_tk, am_wt, am_bk, Option.toList, List.cons_append, List.nil_append, Nat.reduceAdd, Nat.reduceEqDiff, Nat.reduceLeDiff, reduceIte, Nat.reduceLT, or_self, true_or, or_true, if_true, if_false, and_self, and_true, true_and, not_false_eq_true, not_true_eq_false, fd_SR_leastWrong_6, fd_SR_leastWrong_7, fd_SR_leastWrong_8, fd_SR_leastWrong_11, w.1.all, k1]
    refine wif ?_ out
    cases m with
    | zero =>
      have e : i = 9 := by omega
      subst e
      have l1 : ¬ nI 9 < 9 := by decide
      refine am_go [20, 90] 3 ?_
      simp only [am_wp, am_stp, am_en, am_as, am_pad, am_nth, am_set, am_st1, am_st2, am_kl, am_kill, am_mem, am_fv, am_tk, am_wt, am_bk, Option.toList, List.cons_append, List.nil_append, Nat.reduceAdd, Nat.reduceEqDiff, Nat.reduceLeDiff, reduceIte, Nat.reduceLT, or_self, true_or, or_true, if_true, if_false, and_self, and_true, true_and, not_false_eq_true, not_true_eq_false, fd_SR_leastWrong_14, fd_SR_leastWrong_15, fd_SR_leastWrong_17, w.1.all, l1]
      exact out
    | succ m =>
      have l1 : nI i < 9 := nI_lt (b := 9) (by omega) (by decide)
      have i1 := am_inb (c := i) (N := 9) (by omega) (by omega)
      have q1 : (nI i).toNatClampNeg = i := nI_clamp (by omega)
      have r := w.1.pl ht (i := i) (by omega)
      refine am_go [20, 90] 3 ?_
      simp only [am_wp, am_stp, am_en, am_as, am_pad, am_nth, am_set, am_st1, am_st2, am_kl, am_kill, am_mem, am_fv, am_tk, am_wt, am_bk, Option.toList, List.cons_append, List.nil_append, Nat.reduceAdd, Nat.reduceEqDiff, Nat.reduceLeDiff, reduceIte, Nat.reduceLT, or_self, true_or, or_true, if_true, if_false, and_self, and_true, true_and, not_false_eq_true, not_true_eq_false, fd_SR_leastWrong_14, fd_SR_leastWrong_15, fd_SR_leastWrong_17, w.1.all, l1]
      refine am_go [34] 8 ?_
      simp only [am_wp, am_stp, am_en, am_as, am_pad, am_nth, am_set, am_st1, am_st2, am_kl, am_kill, am_mem, am_fv, am_tk, am_wt, am_bk, Option.toList, List.cons_append, List.nil_append, Nat.reduceAdd, Nat.reduceEqDiff, Nat.reduceLeDiff, reduceIte, Nat.reduceLT, or_self, true_or, or_true, if_true, if_false, and_self, and_true, true_and, not_false_eq_true, not_true_eq_false, fd_SR_leastWrong_20, fd_SR_leastWrong_21, fd_SR_leastWrong_24, fd_SR_leastWrong_25, fd_SR_leastWrong_26, fd_SR_leastWrong_29, fd_SR_leastWrong_31, fd_SR_leastWrong_32, w.1.all, k1, k2, k3, k4, i1, q1, r.1]
      refine ww_lw_in w ht (by omega) (fun x z4 z5 => ?_) 2147483647 0 x _ (by omega)
      refine am_go [6] 2 ?_
      simp only [am_wp, am_stp, am_en, am_as, am_pad, am_nth, am_set, am_st1, am_st2, am_kl, am_kill, am_mem, am_fv, am_tk, am_wt, am_bk, Option.toList, List.cons_append, List.nil_append, Nat.reduceAdd, Nat.reduceEqDiff, Nat.reduceLeDiff, reduceIte, Nat.reduceLT, or_self, true_or, or_true, if_true, if_false, and_self, and_true, true_and, not_false_eq_true, not_true_eq_false, fd_SR_leastWrong_84, fd_SR_leastWrong_87, w.1.all, nI_1]
      exact ww_lw_loop w ht m (i + 1) x _ _ (by omega) (by simp)
theorem ww_leastWrong {d P t : Nat} {h : am_H} (w : wk P h) (ht : wl t) : am_Rt nm_pr (d + 3) mi_SR_leastWrong [.ref 2, .ref t] h (fun o h' => iany o ∧ h' = h) := by
  have w := wp.refl w
  refine am_in' (d := d + 2) mt_SR_leastWrong 6 rfl rfl rfl ?_
  refine am_go [6] 4 ?_
  simp only [am_wp, am_stp, am_en, am_as, am_pad, am_nth, am_set, am_st1, am_st2, am_kl, am_kill, am_mem, am_fv, am_tk, am_wt, am_bk, Option.toList, List.cons_append, List.nil_append, Nat.reduceAdd, Nat.reduceEqDiff, Nat.reduceLeDiff, reduceIte, Nat.reduceLT, or_self, true_or, or_true, if_true, if_false, and_self, and_true, true_and, not_false_eq_true, not_true_eq_false, fd_SR_leastWrong_0, fd_SR_leastWrong_3, fd_SR_leastWrong_4, fd_SR_leastWrong_5, w.1.all]
  exact ww_lw_loop w ht 9 0 1024 _ _ rfl (by simp)
theorem ww_bad_loop {d P : Nat} {y : Int32} {h : am_H} (w : wp P 0 h h) : ∀ (m i : Nat) (x : Int32), m + i = 8 →
    am_Ex nm_pr (d + 3) mt_SR_badAt (50, [.ref 2, .int y, .int x, .int (nI i)], [], h) (fun o h' => iany o ∧ h' = h)
  | 0, i, x, hm => by
    have e : i = 8 := by omega
    subst e
    have l1 : ¬ nI 8 < 8 := by decide
    refine am_go [56, 77] 3 ?_
    simp only [am_wp, am_stp, am_en, am_as, am_pad, am_nth, am_set, am_st1, am_st2, am_kl, am_kill, am_mem, am_fv, am_tk, am_wt, am_bk, Option.toList, List.cons_append, List.nil_append, Nat.reduceAdd, Nat.reduceEqDiff, Nat.reduceLeDiff, reduceIte, Nat.reduceLT, or_self, true_or, or_true, if_true, if_false, and_self, and_true, true_and, not_false_eq_true, not_true_eq_false, fd_SR_badAt_50, fd_SR_badAt_51, fd_SR_badAt_53, w.1.all, l1]
    refine am_go [84, 88] 3 ?_
    simp only [am_wp, am_stp, am_en, am_as, am_pad, am_nth, am_set, am_st1, am_st2, am_kl, am_kill, am_mem, am_fv, am_tk, am_wt, am_bk, Option.toList, List.cons_append, List.nil_append, Nat.reduceAdd, Nat.reduceEqDiff, Nat.reduceLeDiff, reduceIte, Nat.reduceLT, or_self, true_or, or_true, if_true, if_false, and_self, and_true, true_and, not_false_eq_true, not_true_eq_false, fd_SR_badAt_77, fd_SR_badAt_78, fd_SR_badAt_81, w.1.all]
    refine wif ?_ ?_
    rotate_left
    · refine am_go [] 2 ?_
      simp only [am_wp, am_stp, am_en, am_as, am_pad, am_nth, am_set, am_st1, am_st2, am_kl, am_kill, am_mem, am_fv, am_tk, am_wt, am_bk, Option.toList, List.cons_append, List.nil_append, Nat.reduceAdd, Nat.reduceEqDiff, Nat.reduceLeDiff, reduceIte, Nat.reduceLT, or_self, true_or, or_true, if_true, if_false, and_self, and_true, true_and, not_false_eq_true, not_true_eq_false, fd_SR_badAt_88, fd_SR_badAt_89, w.1.all]
      exact ⟨_, rfl⟩
    · refine am_go [] 3 ?_
      simp only [am_wp, am_stp, am_en, am_as, am_pad, am_nth, am_set, am_st1, am_st2, am_kl, am_kill, am_mem, am_fv, am_tk, am_wt, am_bk, Option.toList, List.cons_append, List.nil_append, Nat.reduceAdd, Nat.reduceEqDiff, Nat.reduceLeDiff, reduceIte, Nat.reduceLT, or_self, true_or, or_true, if_true, if_false, and_self, and_true, true_and, not_false_eq_true, not_true_eq_false, fd_SR_badAt_84, fd_SR_badAt_85, fd_SR_badAt_89, w.1.all]
      exact ⟨_, rfl⟩
  | m + 1, i, x, hm => by
    have l1 : nI i < 8 := nI_lt (b := 8) (by omega) (by decide)
    have i1 := am_inb (c := i) (N := 8) (by omega) (by omega)
    have q1 : (nI i).toNatClampNeg = i := nI_clamp (by omega)
    obtain ⟨e1, ht⟩ := w.1.mk (i := i) (by omega)
    refine am_go [56, 77] 3 ?_
    simp only [am_wp, am_stp, am_en, am_as, am_pad, am_nth, am_set, am_st1, am_st2, am_kl, am_kill, am_mem, am_fv, am_tk, am_wt, am_bk, Option.toList, List.cons_append, List.nil_append, Nat.reduceAdd, Nat.reduceEqDiff, Nat.reduceLeDiff, reduceIte, Nat.reduceLT, or_self, true_or, or_true, if_true, if_false, and_self, and_true, true_and, not_false_eq_true, not_true_eq_false, fd_SR_badAt_50, fd_SR_badAt_51, fd_SR_badAt_53, w.1.all, l1]
    refine am_go [] 7 ?_
    simp only [am_wp, am_stp, am_en, am_as, am_pad, am_nth, am_set, am_st1, am_st2, am_kl, am_kill, am_mem, am_fv, am_tk, am_wt, am_bk, Option.toList, List.cons_append, List.nil_append, Nat.reduceAdd, Nat.reduceEqDiff, Nat.reduceLeDiff, reduceIte, Nat.reduceLT, or_self, true_or, or_true, if_true, if_false, and_self, and_true, true_and, not_false_eq_true, not_true_eq_false, fd_SR_badAt_56, fd_SR_badAt_57, fd_SR_badAt_58, fd_SR_badAt_59, fd_SR_badAt_62, fd_SR_badAt_63, fd_SR_badAt_64, w.1.all, i1, q1, e1]
    refine am_call (ww_leastWrong w.1 ht) (fun o g2 q => ?_)
    obtain ⟨⟨z, rfl⟩, rfl⟩ := q
    simp only [am_wp, am_stp, am_en, am_as, am_pad, am_nth, am_set, am_st1, am_st2, am_kl, am_kill, am_mem, am_fv, am_tk, am_wt, am_bk, Option.toList, List.cons_append, List.nil_append, Nat.reduceAdd, Nat.reduceEqDiff, Nat.reduceLeDiff, reduceIte, Nat.reduceLT, or_self, true_or, or_true, if_true, if_false, and_self, and_true, true_and, not_false_eq_true, not_true_eq_false]
    refine am_go [50] 4 ?_
    simp only [am_wp, am_stp, am_en, am_as, am_pad, am_nth, am_set, am_st1, am_st2, am_kl, am_kill, am_mem, am_fv, am_tk, am_wt, am_bk, Option.toList, List.cons_append, List.nil_append, Nat.reduceAdd, Nat.reduceEqDiff, Nat.reduceLeDiff, reduceIte, Nat.reduceLT, or_self, true_or, or_true, if_true, if_false, and_self, and_true, true_and, not_false_eq_true, not_true_eq_false, fd_SR_badAt_67, fd_SR_badAt_70, fd_SR_badAt_71, fd_SR_badAt_74, w.1.all, nI_1]
    exact ww_bad_loop w m (i + 1) _ (by omega)
theorem ww_badAt {d P : Nat} {h : am_H} (w : wk P h) : am_Rt nm_pr (d + 4) mi_SR_badAt [.ref 2] h (fun o h' => iany o ∧ h' = h) := by
  have w := wp.refl w
  refine am_in' (d := d + 3) mt_SR_badAt 4 rfl rfl rfl ?_
  refine am_go [7, 9] 3 ?_
  simp only [am_wp, am_stp, am_en, am_as, am_pad, am_nth, am_set, am_st1, am_st2, am_kl, am_kill, am_mem, am_fv, am_tk, am_wt, am_bk, Option.toList, List.cons_append, List.nil_append, Nat.reduceAdd, Nat.reduceEqDiff, Nat.reduceLeDiff, reduceIte, Nat.reduceLT, or_self, true_or, or_true, if_true, if_false, and_self, and_true, true_and, not_false_eq_true, not_true_eq_false, fd_SR_badAt_0, fd_SR_badAt_1, fd_SR_badAt_4, w.1.all]
  refine wif ?_ ?_
  rotate_left
  · refine am_go [] 2 ?_
    simp only [am_wp, am_stp, am_en, am_as, am_pad, am_nth, am_set, am_st1, am_st2, am_kl, am_kill, am_mem, am_fv, am_tk, am_wt, am_bk, Option.toList, List.cons_append, List.nil_append, Nat.reduceAdd, Nat.reduceEqDiff, Nat.reduceLeDiff, reduceIte, Nat.reduceLT, or_self, true_or, or_true, if_true, if_false, and_self, and_true, true_and, not_false_eq_true, not_true_eq_false, fd_SR_badAt_7, fd_SR_badAt_8, w.1.all]
    exact ⟨_, rfl⟩
  refine am_go [16] 5 ?_
  simp only [am_wp, am_stp, am_en, am_as, am_pad, am_nth, am_set, am_st1, am_st2, am_kl, am_kill, am_mem, am_fv, am_tk, am_wt, am_bk, Option.toList, List.cons_append, List.nil_append, Nat.reduceAdd, Nat.reduceEqDiff, Nat.reduceLeDiff, reduceIte, Nat.reduceLT, or_self, true_or, or_true, if_true, if_false, and_self, and_true, true_and, not_false_eq_true, not_true_eq_false, fd_SR_badAt_9, fd_SR_badAt_10, fd_SR_badAt_13, fd_SR_badAt_14, fd_SR_badAt_15, w.1.all]
  generalize am_I h 2 12 &&& 1 = y
  refine am_go [] 4 ?_
  simp only [am_wp, am_stp, am_en, am_as, am_pad, am_nth, am_set, am_st1, am_st2, am_kl, am_kill, am_mem, am_fv, am_tk, am_wt, am_bk, Option.toList, List.cons_append, List.nil_append, Nat.reduceAdd, Nat.reduceEqDiff, Nat.reduceLeDiff, reduceIte, Nat.reduceLT, or_self, true_or, or_true, if_true, if_false, and_self, and_true, true_and, not_false_eq_true, not_true_eq_false, fd_SR_badAt_16, fd_SR_badAt_17, fd_SR_badAt_20, fd_SR_badAt_21, w.1.all]
  refine am_call (ww_isRight w.1) (fun o g2 q => ?_)
  obtain ⟨b, rfl⟩ := q
  obtain ⟨z, rfl, -⟩ := b01_cases b
  simp only [am_wp, am_stp, am_en, am_as, am_pad, am_nth, am_set, am_st1, am_st2, am_kl, am_kill, am_mem, am_fv, am_tk, am_wt, am_bk, Option.toList, List.cons_append, List.nil_append, Nat.reduceAdd, Nat.reduceEqDiff, Nat.reduceLeDiff, reduceIte, Nat.reduceLT, or_self, true_or, or_true, if_true, if_false, and_self, and_true, true_and, not_false_eq_true, not_true_eq_false]
  have go : ∀ x : Int32, am_Ex nm_pr (d + 3) mt_SR_badAt (34, [.ref 2, .int y, .retAddr 0, .retAddr 0], [.int x], g2) (fun o h' => iany o ∧ h' = g2) := fun x => by
    refine am_go [] 6 ?_
    simp only [am_wp, am_stp, am_en, am_as, am_pad, am_nth, am_set, am_st1, am_st2, am_kl, am_kill, am_mem, am_fv, am_tk, am_wt, am_bk, Option.toList, List.cons_append, List.nil_append, Nat.reduceAdd, Nat.reduceEqDiff, Nat.reduceLeDiff, reduceIte, Nat.reduceLT, or_self, true_or, or_true, if_true, if_false, and_self, and_true, true_and, not_false_eq_true, not_true_eq_false, fd_SR_badAt_34, fd_SR_badAt_35, fd_SR_badAt_36, fd_SR_badAt_37, fd_SR_badAt_38, fd_SR_badAt_41, w.1.all]
    refine am_call (ww_leastWrong w.1 (Or.inl rfl)) (fun o g3 q => ?_)
    obtain ⟨⟨z, rfl⟩, rfl⟩ := q
    simp only [am_wp, am_stp, am_en, am_as, am_pad, am_nth, am_set, am_st1, am_st2, am_kl, am_kill, am_mem, am_fv, am_tk, am_wt, am_bk, Option.toList, List.cons_append, List.nil_append, Nat.reduceAdd, Nat.reduceEqDiff, Nat.reduceLeDiff, reduceIte, Nat.reduceLT, or_self, true_or, or_true, if_true, if_false, and_self, and_true, true_and, not_false_eq_true, not_true_eq_false]
    refine am_go [50] 4 ?_
    simp only [am_wp, am_stp, am_en, am_as, am_pad, am_nth, am_set, am_st1, am_st2, am_kl, am_kill, am_mem, am_fv, am_tk, am_wt, am_bk, Option.toList, List.cons_append, List.nil_append, Nat.reduceAdd, Nat.reduceEqDiff, Nat.reduceLeDiff, reduceIte, Nat.reduceLT, or_self, true_or, or_true, if_true, if_false, and_self, and_true, true_and, not_false_eq_true, not_true_eq_false, fd_SR_badAt_44, fd_SR_badAt_47, fd_SR_badAt_48, fd_SR_badAt_49, w.1.all]
    exact ww_bad_loop w 8 0 _ rfl
  refine am_go [27, 33] 1 ?_
  simp only [am_wp, am_stp, am_en, am_as, am_pad, am_nth, am_set, am_st1, am_st2, am_kl, am_kill, am_mem, am_fv, am_tk, am_wt, am_bk, Option.toList, List.cons_append, List.nil_append, Nat.reduceAdd, Nat.reduceEqDiff, Nat.reduceLeDiff, reduceIte, Nat.reduceLT, or_self, true_or, or_true, if_true, if_false, and_self, and_true, true_and, not_false_eq_true, not_true_eq_false, fd_SR_badAt_24, w.1.all]
  refine wif ?_ ?_
  · refine am_go [34] 1 ?_
    simp only [am_wp, am_stp, am_en, am_as, am_pad, am_nth, am_set, am_st1, am_st2, am_kl, am_kill, am_mem, am_fv, am_tk, am_wt, am_bk, Option.toList, List.cons_append, List.nil_append, Nat.reduceAdd, Nat.reduceEqDiff, Nat.reduceLeDiff, reduceIte, Nat.reduceLT, or_self, true_or, or_true, if_true, if_false, and_self, and_true, true_and, not_false_eq_true, not_true_eq_false, fd_SR_badAt_33, w.1.all]
    exact go _
  · refine am_go [34] 2 ?_
    simp only [am_wp, am_stp, am_en, am_as, am_pad, am_nth, am_set, am_st1, am_st2, am_kl, am_kill, am_mem, am_fv, am_tk, am_wt, am_bk, Option.toList, List.cons_append, List.nil_append, Nat.reduceAdd, Nat.reduceEqDiff, Nat.reduceLeDiff, reduceIte, Nat.reduceLT, or_self, true_or, or_true, if_true, if_false, and_self, and_true, true_and, not_false_eq_true, not_true_eq_false, fd_SR_badAt_27, fd_SR_badAt_30, w.1.all]
    exact go _
theorem ww_down {d P : Nat} {h : am_H} (w : wk P h) : am_Rt nm_pr (d + 3) mi_SR_down [.ref 2] h (fun o h' => b01 o ∧ wp P 0 h h') := by
  have w := wp.refl w
  refine am_in' (d := d + 2) mt_SR_down 1 rfl rfl rfl ?_
  refine am_go [7, 9] 3 ?_
  simp only [am_wp, am_stp, am_en, am_as, am_pad, am_nth, am_set, am_st1, am_st2, am_kl, am_kill, am_mem, am_fv, am_tk, am_wt, am_bk, Option.toList, List.cons_append, List.nil_append, Nat.reduceAdd, Nat.reduceEqDiff, Nat.reduceLeDiff, reduceIte, Nat.reduceLT, or_self, true_or, or_true, if_true, if_false, and_self, and_true, true_and, not_false_eq_true, not_true_eq_false, fd_SR_down_0, fd_SR_down_1, fd_SR_down_4, w.1.all]
  refine wif ?_ ?_
  · refine am_go [] 2 ?_
    simp only [am_wp, am_stp, am_en, am_as, am_pad, am_nth, am_set, am_st1, am_st2, am_kl, am_kill, am_mem, am_fv, am_tk, am_wt, am_bk, Option.toList, List.cons_append, List.nil_append, Nat.reduceAdd, Nat.reduceEqDiff, Nat.reduceLeDiff, reduceIte, Nat.reduceLT, or_self, true_or, or_true, if_true, if_false, and_self, and_true, true_and, not_false_eq_true, not_true_eq_false, fd_SR_down_9, fd_SR_down_10, w.1.all]
    refine am_call (ww_goDown w.1) (fun o g1 q => ?_)
    obtain ⟨rfl, w1⟩ := q
    have w1 := (w.trans w1).mono (l := 0) (by omega)
    simp only [am_wp, am_stp, am_en, am_as, am_pad, am_nth, am_set, am_st1, am_st2, am_kl, am_kill, am_mem, am_fv, am_tk, am_wt, am_bk, Option.toList, List.cons_append, List.nil_append, Nat.reduceAdd, Nat.reduceEqDiff, Nat.reduceLeDiff, reduceIte, Nat.reduceLT, or_self, true_or, or_true, if_true, if_false, and_self, and_true, true_and, not_false_eq_true, not_true_eq_false]
    refine am_go [] 2 ?_
    simp only [am_wp, am_stp, am_en, am_as, am_pad, am_nth, am_set, am_st1, am_st2, am_kl, am_kill, am_mem, am_fv, am_tk, am_wt, am_bk, Option.toList, List.cons_append, List.nil_append, Nat.reduceAdd, Nat.reduceEqDiff, Nat.reduceLeDiff, reduceIte, Nat.reduceLT, or_self, true_or, or_true, if_true, if_false, and_self, and_true, true_and, not_false_eq_true, not_true_eq_false, fd_SR_down_13, fd_SR_down_14, w1.1.all]
    exact ⟨Or.inr rfl, w1⟩
  · refine am_go [] 2 ?_
    simp only [am_wp, am_stp, am_en, am_as, am_pad, am_nth, am_set, am_st1, am_st2, am_kl, am_kill, am_mem, am_fv, am_tk, am_wt, am_bk, Option.toList, List.cons_append, List.nil_append, Nat.reduceAdd, Nat.reduceEqDiff, Nat.reduceLeDiff, reduceIte, Nat.reduceLT, or_self, true_or, or_true, if_true, if_false, and_self, and_true, true_and, not_false_eq_true, not_true_eq_false, fd_SR_down_7, fd_SR_down_8, w.1.all]
    exact ⟨Or.inl rfl, w⟩
theorem ww_cm_loop {d P : Nat} {h : am_H} (w : wp P 0 h h) : ∀ (m i : Nat) (x : Int32), m + i = 8 →
    am_Ex nm_pr d mt_SR_countMarks (4, [.ref 2, .int x, .int (nI i)], [], h) (fun o h' => iany o ∧ h' = h)
  | 0, i, x, hm => by
    have e : i = 8 := by omega
    subst e
    have l1 : ¬ nI 8 < 8 := by decide
    refine am_go [10, 36] 3 ?_
    simp only [am_wp, am_stp, am_en, am_as, am_pad, am_nth, am_set, am_st1, am_st2, am_kl, am_kill, am_mem, am_fv, am_tk, am_wt, am_bk, Option.toList, List.cons_append, List.nil_append, Nat.reduceAdd, Nat.reduceEqDiff, Nat.reduceLeDiff, reduceIte, Nat.reduceLT, or_self, true_or, or_true, if_true, if_false, and_self, and_true, true_and, not_false_eq_true, not_true_eq_false, fd_SR_countMarks_4, fd_SR_countMarks_5, fd_SR_countMarks_7, w.1.all, l1]
    refine am_go [] 2 ?_
    simp only [am_wp, am_stp, am_en, am_as, am_pad, am_nth, am_set, am_st1, am_st2, am_kl, am_kill, am_mem, am_fv, am_tk, am_wt, am_bk, Option.toList, List.cons_append, List.nil_append, Nat.reduceAdd, Nat.reduceEqDiff, Nat.reduceLeDiff, reduceIte, Nat.reduceLT, or_self, true_or, or_true, if_true, if_false, and_self, and_true, true_and, not_false_eq_true, not_true_eq_false, fd_SR_countMarks_36, fd_SR_countMarks_37, w.1.all]
    exact ⟨_, rfl⟩
  | m + 1, i, x, hm => by
    have l1 : nI i < 8 := nI_lt (b := 8) (by omega) (by decide)
    have i1 := am_inb (c := i) (N := 8) (by omega) (by omega)
    have q1 : (nI i).toNatClampNeg = i := nI_clamp (by omega)
    obtain ⟨e1, ht⟩ := w.1.mk (i := i) (by omega)
    refine am_go [10, 36] 3 ?_
    simp only [am_wp, am_stp, am_en, am_as, am_pad, am_nth, am_set, am_st1, am_st2, am_kl, am_kill, am_mem, am_fv, am_tk, am_wt, am_bk, Option.toList, List.cons_append, List.nil_append, Nat.reduceAdd, Nat.reduceEqDiff, Nat.reduceLeDiff, reduceIte, Nat.reduceLT, or_self, true_or, or_true, if_true, if_false, and_self, and_true, true_and, not_false_eq_true, not_true_eq_false, fd_SR_countMarks_4, fd_SR_countMarks_5, fd_SR_countMarks_7, w.1.all, l1]
    refine am_go [23, 27] 7 ?_
    simp only [am_wp, am_stp, am_en, am_as, am_pad, am_nth, am_set, am_st1, am_st2, am_kl, am_kill, am_mem, am_fv, am_tk, am_wt, am_bk, Option.toList, List.cons_append, List.nil_append, Nat.reduceAdd, Nat.reduceEqDiff, Nat.reduceLeDiff, reduceIte, Nat.reduceLT, or_self, true_or, or_true, if_true, if_false, and_self, and_true, true_and, not_false_eq_true, not_true_eq_false, fd_SR_countMarks_10, fd_SR_countMarks_11, fd_SR_countMarks_12, fd_SR_countMarks_15, fd_SR_countMarks_16, fd_SR_countMarks_17, fd_SR_countMarks_20, w.1.all, i1, q1, e1, (w.1.lst ht).1]
    refine wif ?_ ?_
    · refine am_go [4] 5 ?_
      simp only [am_wp, am_stp, am_en, am_as, am_pad, am_nth, am_set, am_st1, am_st2, am_kl, am_kill, am_mem, am_fv, am_tk, am_wt, am_bk, Option.toList, List.cons_append, List.nil_append, Nat.reduceAdd, Nat.reduceEqDiff, Nat.reduceLeDiff, reduceIte, Nat.reduceLT, or_self, true_or, or_true, if_true, if_false, and_self, and_true, true_and, not_false_eq_true, not_true_eq_false, fd_SR_countMarks_27, fd_SR_countMarks_28, fd_SR_countMarks_29, fd_SR_countMarks_30, fd_SR_countMarks_33, w.1.all, nI_1]
      exact ww_cm_loop w m (i + 1) _ (by omega)
    · refine am_go [4] 6 ?_
      simp only [am_wp, am_stp, am_en, am_as, am_pad, am_nth, am_set, am_st1, am_st2, am_kl, am_kill, am_mem, am_fv, am_tk, am_wt, am_bk, Option.toList, List.cons_append, List.nil_append, Nat.reduceAdd, Nat.reduceEqDiff, Nat.reduceLeDiff, reduceIte, Nat.reduceLT, or_self, true_or, or_true, if_true, if_false, and_self, and_true, true_and, not_false_eq_true, not_true_eq_false, fd_SR_countMarks_23, fd_SR_countMarks_24, fd_SR_countMarks_28, fd_SR_countMarks_29, fd_SR_countMarks_30, fd_SR_countMarks_33, w.1.all, nI_1]
      exact ww_cm_loop w m (i + 1) _ (by omega)
theorem ww_countMarks {d P : Nat} {h : am_H} (w : wk P h) : am_Rt nm_pr (d + 1) mi_SR_countMarks [.ref 2] h (fun o h' => iany o ∧ h' = h) := by
  have w := wp.refl w
  refine am_in' (d := d) mt_SR_countMarks 3 rfl rfl rfl ?_
  refine am_go [4] 4 ?_
  simp only [am_wp, am_stp, am_en, am_as, am_pad, am_nth, am_set, am_st1, am_st2, am_kl, am_kill, am_mem, am_fv, am_tk, am_wt, am_bk, Option.toList, List.cons_append, List.nil_append, Nat.reduceAdd, Nat.reduceEqDiff, Nat.reduceLeDiff, reduceIte, Nat.reduceLT, or_self, true_or, or_true, if_true, if_false, and_self, and_true, true_and, not_false_eq_true, not_true_eq_false, fd_SR_countMarks_0, fd_SR_countMarks_1, fd_SR_countMarks_2, fd_SR_countMarks_3, w.1.all]
  exact ww_cm_loop w 8 0 _ rfl
theorem ww_told {d P : Nat} {v : Int32} {h : am_H} (w : wk P h) : am_Rt nm_pr (d + 2) mi_SR_told [.ref 2, .int v] h (wx iany [2] P 1 h) := by
  have w := wp.refl w
  refine am_in' (d := d + 1) mt_SR_told 2 rfl rfl rfl ?_
  have bad : am_Ex nm_pr (d + 1) mt_SR_told (10, [.ref 2, .int v], [], h) (wx iany [2] P 1 h) := by
    refine am_go [] 1 ?_
    simp only [am_wp, am_stp, am_en, am_as, am_pad, am_nth, am_set, am_st1, am_st2, am_kl, am_kill, am_mem, am_fv, am_tk, am_wt, am_bk, Option.toList, List.cons_append, List.nil_append, Nat.reduceAdd, Nat.reduceEqDiff, Nat.reduceLeDiff, reduceIte, Nat.reduceLT, or_self, true_or, or_true, if_true, if_false, and_self, and_true, true_and, not_false_eq_true, not_true_eq_false, fd_SR_told_10, w.1.all]
    exact ⟨Or.inr ⟨2, _, by simp, rfl⟩, wp.ex w.1⟩
  refine am_go [4, 10] 2 ?_
  simp only [am_wp, am_stp, am_en, am_as, am_pad, am_nth, am_set, am_st1, am_st2, am_kl, am_kill, am_mem, am_fv, am_tk, am_wt, am_bk, Option.toList, List.cons_append, List.nil_append, Nat.reduceAdd, Nat.reduceEqDiff, Nat.reduceLeDiff, reduceIte, Nat.reduceLT, or_self, true_or, or_true, if_true, if_false, and_self, and_true, true_and, not_false_eq_true, not_true_eq_false, fd_SR_told_0, fd_SR_told_1, w.1.all]
  refine wif bad ?_
  refine am_go [10, 21] 3 ?_
  simp only [am_wp, am_stp, am_en, am_as, am_pad, am_nth, am_set, am_st1, am_st2, am_kl, am_kill, am_mem, am_fv, am_tk, am_wt, am_bk, Option.toList, List.cons_append, List.nil_append, Nat.reduceAdd, Nat.reduceEqDiff, Nat.reduceLeDiff, reduceIte, Nat.reduceLT, or_self, true_or, or_true, if_true, if_false, and_self, and_true, true_and, not_false_eq_true, not_true_eq_false, fd_SR_told_4, fd_SR_told_5, fd_SR_told_7, w.1.all]
  refine wif bad ?_
  refine am_go [64, 83, 91, 99, 107, 115, 120, 125] 2 ?_
  simp only [am_wp, am_stp, am_en, am_as, am_pad, am_nth, am_set, am_st1, am_st2, am_kl, am_kill, am_mem, am_fv, am_tk, am_wt, am_bk, Option.toList, List.cons_append, List.nil_append, Nat.reduceAdd, Nat.reduceEqDiff, Nat.reduceLeDiff, reduceIte, Nat.reduceLT, or_self, true_or, or_true, if_true, if_false, and_self, and_true, true_and, not_false_eq_true, not_true_eq_false, fd_SR_told_21, fd_SR_told_22]
  have ets : (List.map (fun o => ((22 : Int) + o).toNat) [42, 61, 69, 77, 85, 93, 98]) = [64, 83, 91, 99, 107, 115, 120] := by decide
  have G : am_sw v (fun t => am_Ex nm_pr (d + 1) mt_SR_told (t, [.ref 2, .int v], [], h) (wx iany [2] P 1 h)) 125 0 [64, 83, 91, 99, 107, 115, 120] := by
    refine am_sw_all ?_ _ _ (fun t ht => ?_)
    · refine am_go [132, 136] 3 ?_
      simp only [am_wp, am_stp, am_en, am_as, am_pad, am_nth, am_set, am_st1, am_st2, am_kl, am_kill, am_mem, am_fv, am_tk, am_wt, am_bk, Option.toList, List.cons_append, List.nil_append, Nat.reduceAdd, Nat.reduceEqDiff, Nat.reduceLeDiff, reduceIte, Nat.reduceLT, or_self, true_or, or_true, if_true, if_false, and_self, and_true, true_and, not_false_eq_true, not_true_eq_false, fd_SR_told_125, fd_SR_told_126, fd_SR_told_129, w.1.all]
      refine wif ?_ ?_
      · refine am_go [] 2 ?_
        simp only [am_wp, am_stp, am_en, am_as, am_pad, am_nth, am_set, am_st1, am_st2, am_kl, am_kill, am_mem, am_fv, am_tk, am_wt, am_bk, Option.toList, List.cons_append, List.nil_append, Nat.reduceAdd, Nat.reduceEqDiff, Nat.reduceLeDiff, reduceIte, Nat.reduceLT, or_self, true_or, or_true, if_true, if_false, and_self, and_true, true_and, not_false_eq_true, not_true_eq_false, fd_SR_told_136, fd_SR_told_137, w.1.all]
        exact ⟨Or.inl ⟨_, rfl⟩, w.mono (by omega)⟩
      · refine am_go [] 3 ?_
        simp only [am_wp, am_stp, am_en, am_as, am_pad, am_nth, am_set, am_st1, am_st2, am_kl, am_kill, am_mem, am_fv, am_tk, am_wt, am_bk, Option.toList, List.cons_append, List.nil_append, Nat.reduceAdd, Nat.reduceEqDiff, Nat.reduceLeDiff, reduceIte, Nat.reduceLT, or_self, true_or, or_true, if_true, if_false, and_self, and_true, true_and, not_false_eq_true, not_true_eq_false, fd_SR_told_132, fd_SR_told_133, fd_SR_told_137, w.1.all]
        exact ⟨Or.inl ⟨_, rfl⟩, w.mono (by omega)⟩
    · simp only [List.mem_cons, List.not_mem_nil, or_false] at ht
      rcases ht with rfl | rfl | rfl | rfl | rfl | rfl | rfl
      · refine am_go [71, 75] 3 ?_
        simp only [am_wp, am_stp, am_en, am_as, am_pad, am_nth, am_set, am_st1, am_st2, am_kl, am_kill, am_mem, am_fv, am_tk, am_wt, am_bk, Option.toList, List.cons_append, List.nil_append, Nat.reduceAdd, Nat.reduceEqDiff, Nat.reduceLeDiff, reduceIte, Nat.reduceLT, or_self, true_or, or_true, if_true, if_false, and_self, and_true, true_and, not_false_eq_true, not_true_eq_false, fd_SR_told_64, fd_SR_told_65, fd_SR_told_68, w.1.all]
        refine wif ?_ ?_
        · refine am_go [] 4 ?_
          simp only [am_wp, am_stp, am_en, am_as, am_pad, am_nth, am_set, am_st1, am_st2, am_kl, am_kill, am_mem, am_fv, am_tk, am_wt, am_bk, Option.toList, List.cons_append, List.nil_append, Nat.reduceAdd, Nat.reduceEqDiff, Nat.reduceLeDiff, reduceIte, Nat.reduceLT, or_self, true_or, or_true, if_true, if_false, and_self, and_true, true_and, not_false_eq_true, not_true_eq_false, fd_SR_told_75, fd_SR_told_76, fd_SR_told_79, fd_SR_told_82, w.1.all]
          exact ⟨Or.inl ⟨_, rfl⟩, w.mono (by omega)⟩
        · refine am_go [] 3 ?_
          simp only [am_wp, am_stp, am_en, am_as, am_pad, am_nth, am_set, am_st1, am_st2, am_kl, am_kill, am_mem, am_fv, am_tk, am_wt, am_bk, Option.toList, List.cons_append, List.nil_append, Nat.reduceAdd, Nat.reduceEqDiff, Nat.reduceLeDiff, reduceIte, Nat.reduceLT, or_self, true_or, or_true, if_true, if_false, and_self, and_true, true_and, not_false_eq_true, not_true_eq_false, fd_SR_told_71, fd_SR_told_72, fd_SR_told_82, w.1.all]
          exact ⟨Or.inl ⟨_, rfl⟩, w.mono (by omega)⟩
      · refine am_go [] 4 ?_
        simp only [am_wp, am_stp, am_en, am_as, am_pad, am_nth, am_set, am_st1, am_st2, am_kl, am_kill, am_mem, am_fv, am_tk, am_wt, am_bk, Option.toList, List.cons_append, List.nil_append, Nat.reduceAdd, Nat.reduceEqDiff, Nat.reduceLeDiff, reduceIte, Nat.reduceLT, or_self, true_or, or_true, if_true, if_false, and_self, and_true, true_and, not_false_eq_true, not_true_eq_false, fd_SR_told_83, fd_SR_told_84, fd_SR_told_87, fd_SR_told_90, w.1.all]
        exact ⟨Or.inl ⟨_, rfl⟩, w.mono (by omega)⟩
      · refine am_go [] 4 ?_
        simp only [am_wp, am_stp, am_en, am_as, am_pad, am_nth, am_set, am_st1, am_st2, am_kl, am_kill, am_mem, am_fv, am_tk, am_wt, am_bk, Option.toList, List.cons_append, List.nil_append, Nat.reduceAdd, Nat.reduceEqDiff, Nat.reduceLeDiff, reduceIte, Nat.reduceLT, or_self, true_or, or_true, if_true, if_false, and_self, and_true, true_and, not_false_eq_true, not_true_eq_false, fd_SR_told_91, fd_SR_told_92, fd_SR_told_95, fd_SR_told_98, w.1.all]
        exact ⟨Or.inl ⟨_, rfl⟩, w.mono (by omega)⟩
      · refine am_go [] 4 ?_
        simp only [am_wp, am_stp, am_en, am_as, am_pad, am_nth, am_set, am_st1, am_st2, am_kl, am_kill, am_mem, am_fv, am_tk, am_wt, am_bk, Option.toList, List.cons_append, List.nil_append, Nat.reduceAdd, Nat.reduceEqDiff, Nat.reduceLeDiff, reduceIte, Nat.reduceLT, or_self, true_or, or_true, if_true, if_false, and_self, and_true, true_and, not_false_eq_true, not_true_eq_false, fd_SR_told_99, fd_SR_told_100, fd_SR_told_103, fd_SR_told_106, w.1.all]
        exact ⟨Or.inl ⟨_, rfl⟩, w.mono (by omega)⟩
      · refine am_go [] 4 ?_
        simp only [am_wp, am_stp, am_en, am_as, am_pad, am_nth, am_set, am_st1, am_st2, am_kl, am_kill, am_mem, am_fv, am_tk, am_wt, am_bk, Option.toList, List.cons_append, List.nil_append, Nat.reduceAdd, Nat.reduceEqDiff, Nat.reduceLeDiff, reduceIte, Nat.reduceLT, or_self, true_or, or_true, if_true, if_false, and_self, and_true, true_and, not_false_eq_true, not_true_eq_false, fd_SR_told_107, fd_SR_told_108, fd_SR_told_111, fd_SR_told_114, w.1.all]
        exact ⟨Or.inl ⟨_, rfl⟩, w.mono (by omega)⟩
      · refine am_go [] 2 ?_
        simp only [am_wp, am_stp, am_en, am_as, am_pad, am_nth, am_set, am_st1, am_st2, am_kl, am_kill, am_mem, am_fv, am_tk, am_wt, am_bk, Option.toList, List.cons_append, List.nil_append, Nat.reduceAdd, Nat.reduceEqDiff, Nat.reduceLeDiff, reduceIte, Nat.reduceLT, or_self, true_or, or_true, if_true, if_false, and_self, and_true, true_and, not_false_eq_true, not_true_eq_false, fd_SR_told_115, fd_SR_told_116, w.1.all]
        refine am_call (ww_countMarks w.1) (fun o g3 q => ?_)
        obtain ⟨⟨z, rfl⟩, rfl⟩ := q
        simp only [am_wp, am_stp, am_en, am_as, am_pad, am_nth, am_set, am_st1, am_st2, am_kl, am_kill, am_mem, am_fv, am_tk, am_wt, am_bk, Option.toList, List.cons_append, List.nil_append, Nat.reduceAdd, Nat.reduceEqDiff, Nat.reduceLeDiff, reduceIte, Nat.reduceLT, or_self, true_or, or_true, if_true, if_false, and_self, and_true, true_and, not_false_eq_true, not_true_eq_false]
        refine am_go [] 1 ?_
        simp only [am_wp, am_stp, am_en, am_as, am_pad, am_nth, am_set, am_st1, am_st2, am_kl, am_kill, am_mem, am_fv, am_tk, am_wt, am_bk, Option.toList, List.cons_append, List.nil_append, Nat.reduceAdd, Nat.reduceEqDiff, Nat.reduceLeDiff, reduceIte, Nat.reduceLT, or_self, true_or, or_true, if_true, if_false, and_self, and_true, true_and, not_false_eq_true, not_true_eq_false, fd_SR_told_119, w.1.all]
        exact ⟨Or.inl ⟨_, rfl⟩, w.mono (by omega)⟩
      · refine am_go [] 3 ?_
        simp only [am_wp, am_stp, am_en, am_as, am_pad, am_nth, am_set, am_st1, am_st2, am_kl, am_kill, am_mem, am_fv, am_tk, am_wt, am_bk, Option.toList, List.cons_append, List.nil_append, Nat.reduceAdd, Nat.reduceEqDiff, Nat.reduceLeDiff, reduceIte, Nat.reduceLT, or_self, true_or, or_true, if_true, if_false, and_self, and_true, true_and, not_false_eq_true, not_true_eq_false, fd_SR_told_120, fd_SR_told_121, fd_SR_told_124, w.1.all]
        exact ⟨Or.inl ⟨_, rfl⟩, w.mono (by omega)⟩
  rw [← ets] at G
  exact G
theorem ww_state {d P : Nat} {h : am_H} (w : wk P h) : am_Rt nm_pr (d + 1) mi_SR_state [.ref 2] h (fun o h' => iany o ∧ h' = h) := by
  have w := wp.refl w
  refine am_in' (d := d) mt_SR_state 1 rfl rfl rfl ?_
  refine am_go [] 3 ?_
  simp only [am_wp, am_stp, am_en, am_as, am_pad, am_nth, am_set, am_st1, am_st2, am_kl, am_kill, am_mem, am_fv, am_tk, am_wt, am_bk, Option.toList, List.cons_append, List.nil_append, Nat.reduceAdd, Nat.reduceEqDiff, Nat.reduceLeDiff, reduceIte, Nat.reduceLT, or_self, true_or, or_true, if_true, if_false, and_self, and_true, true_and, not_false_eq_true, not_true_eq_false, fd_SR_state_0, fd_SR_state_1, fd_SR_state_4, w.1.all]
  exact ⟨_, rfl⟩
theorem ww_cut {d P : Nat} {m k : Int32} {h : am_H} (w : wk P h) : am_Rt nm_pr (d + 2) mi_La_cut [.ref 2, .int m, .int k] h (fun o h' => o = .inl (some (.int (match ct_ok m k with
    | true => 0
    | false => 1))) ∧ wp P 1 h h') := by
  refine am_call (l2_La_cut (w.kd 2 1 (by decide)) (w.R 2 0 18 (by decide)) (w.kd 18 4 (by decide))) (fun o h' q => ?_)
  cases e : ct_ok m k with
  | true =>
    rw [e] at q
    obtain ⟨rfl, rfl⟩ := q
    exact ⟨rfl, (((wp.refl w).s18 (by decide)).s18 (by decide)).mono (by omega)⟩
  | false =>
    rw [e] at q
    obtain ⟨rfl, rfl⟩ := q
    exact ⟨rfl, wp.ex w⟩
