/-! SortedRuns' OWN METHODS, WEAKLY, 8 -/
/-- a call's end: an answer, or a throw of a class in C -/
def wx (N : am_O → Prop) (C : List Nat) (P k : Nat) (h : am_H) (o : am_O) (h' : am_H) : Prop := (N o ∨ ∃ c a, c ∈ C ∧ o = .inr (c, a)) ∧ wp P k h h'
theorem ww_flush {d P : Nat} {h : am_H} (w : wk P h) : am_Rt nm_pr (d + 7) mi_SR_flush [.ref 2] h (wx iany [0] P 1 h) := by
  have w := wp.refl w
  refine am_in' (d := d + 6) mt_SR_flush 2 rfl rfl rfl ?_
  refine am_go [] 2 ?_
  simp only [am_wp, am_stp, am_en, am_as, am_pad, am_nth, am_set, am_st1, am_st2, am_kl, am_kill, am_mem, am_fv, am_tk, am_wt, am_bk, Option.toList, List.cons_append, List.nil_append, Nat.reduceAdd, Nat.reduceEqDiff, Nat.reduceLeDiff, reduceIte, Nat.reduceLT, or_self, true_or, or_true, if_true, if_false, and_self, and_true, true_and, not_false_eq_true, not_true_eq_false, fd_SR_flush_0, fd_SR_flush_1, w.1.all]
  refine am_call (ww_requireUp w.1) (fun o g1 q => ?_)
  rcases q with ⟨rfl, rfl⟩ | ⟨⟨a, rfl⟩, w1⟩
  rotate_left
  · have w1 := (w.trans w1).mono (l := 1) (by omega)
    simp only [am_wp, am_stp, am_en, am_as, am_pad, am_nth, am_set, am_st1, am_st2, am_kl, am_kill, am_mem, am_fv, am_tk, am_wt, am_bk, Option.toList, List.cons_append, List.nil_append, Nat.reduceAdd, Nat.reduceEqDiff, Nat.reduceLeDiff, reduceIte, Nat.reduceLT, or_self, true_or, or_true, if_true, if_false, and_self, and_true, true_and, not_false_eq_true, not_true_eq_false, show mt_SR_flush.2.2 = [] from rfl, am_hd]
    exact ⟨Or.inr ⟨0, a, by simp, rfl⟩, w1⟩
  simp only [am_wp, am_stp, am_en, am_as, am_pad, am_nth, am_set, am_st1, am_st2, am_kl, am_kill, am_mem, am_fv, am_tk, am_wt, am_bk, Option.toList, List.cons_append, List.nil_append, Nat.reduceAdd, Nat.reduceEqDiff, Nat.reduceLeDiff, reduceIte, Nat.reduceLT, or_self, true_or, or_true, if_true, if_false, and_self, and_true, true_and, not_false_eq_true, not_true_eq_false]
  refine am_go [] 2 ?_
  simp only [am_wp, am_stp, am_en, am_as, am_pad, am_nth, am_set, am_st1, am_st2, am_kl, am_kill, am_mem, am_fv, am_tk, am_wt, am_bk, Option.toList, List.cons_append, List.nil_append, Nat.reduceAdd, Nat.reduceEqDiff, Nat.reduceLeDiff, reduceIte, Nat.reduceLT, or_self, true_or, or_true, if_true, if_false, and_self, and_true, true_and, not_false_eq_true, not_true_eq_false, fd_SR_flush_4, fd_SR_flush_5, w.1.all]
  refine am_call (ww_flushTable w.1) (fun o g2 q => ?_)
  obtain ⟨⟨x, rfl⟩, w2⟩ := q
  have w2 := (w.trans w2).mono (l := 1) (by omega)
  simp only [am_wp, am_stp, am_en, am_as, am_pad, am_nth, am_set, am_st1, am_st2, am_kl, am_kill, am_mem, am_fv, am_tk, am_wt, am_bk, Option.toList, List.cons_append, List.nil_append, Nat.reduceAdd, Nat.reduceEqDiff, Nat.reduceLeDiff, reduceIte, Nat.reduceLT, or_self, true_or, or_true, if_true, if_false, and_self, and_true, true_and, not_false_eq_true, not_true_eq_false]
  have i1 := am_inb (c := 0) (N := 9) (by omega) (by omega)
  have q1 : (nI 0).toNatClampNeg = 0 := by decide
  have z0 : (0 : Int32) = nI 0 := by decide
  have r0 := w2.1.ru 9 0 (by decide) (by omega)
  refine am_go [14, 29] 4 ?_
  simp only [am_wp, am_stp, am_en, am_as, am_pad, am_nth, am_set, am_st1, am_st2, am_kl, am_kill, am_mem, am_fv, am_tk, am_wt, am_bk, Option.toList, List.cons_append, List.nil_append, Nat.reduceAdd, Nat.reduceEqDiff, Nat.reduceLeDiff, reduceIte, Nat.reduceLT, or_self, true_or, or_true, if_true, if_false, and_self, and_true, true_and, not_false_eq_true, not_true_eq_false, fd_SR_flush_8, fd_SR_flush_9, fd_SR_flush_10, fd_SR_flush_11, w2.1.all]
  refine wif ?_ ?_
  rotate_left
  · refine am_go [] 2 ?_
    simp only [am_wp, am_stp, am_en, am_as, am_pad, am_nth, am_set, am_st1, am_st2, am_kl, am_kill, am_mem, am_fv, am_tk, am_wt, am_bk, Option.toList, List.cons_append, List.nil_append, Nat.reduceAdd, Nat.reduceEqDiff, Nat.reduceLeDiff, reduceIte, Nat.reduceLT, or_self, true_or, or_true, if_true, if_false, and_self, and_true, true_and, not_false_eq_true, not_true_eq_false, fd_SR_flush_29, fd_SR_flush_30, w2.1.all]
    exact ⟨Or.inl ⟨_, rfl⟩, w2⟩
  · refine am_go [] 8 ?_
    simp only [am_wp, am_stp, am_en, am_as, am_pad, am_nth, am_set, am_st1, am_st2, am_kl, am_kill, am_mem, am_fv, am_tk, am_wt, am_bk, Option.toList, List.cons_append, List.nil_append, Nat.reduceAdd, Nat.reduceEqDiff, Nat.reduceLeDiff, reduceIte, Nat.reduceLT, or_self, true_or, or_true, if_true, if_false, and_self, and_true, true_and, not_false_eq_true, not_true_eq_false, fd_SR_flush_14, fd_SR_flush_15, fd_SR_flush_18, fd_SR_flush_21, fd_SR_flush_22, fd_SR_flush_23, fd_SR_flush_26, fd_SR_flush_30, w2.1.all, z0, i1, q1, r0.1]
    exact ⟨Or.inl ⟨_, rfl⟩, w2⟩
theorem ww_merge {d P : Nat} {h : am_H} (w : wk P h) : am_Rt nm_pr (d + 8) mi_SR_merge [.ref 2] h (wx iany [0] P 1 h) := by
  have w := wp.refl w
  refine am_in' (d := d + 7) mt_SR_merge 1 rfl rfl rfl ?_
  refine am_go [] 2 ?_
  simp only [am_wp, am_stp, am_en, am_as, am_pad, am_nth, am_set, am_st1, am_st2, am_kl, am_kill, am_mem, am_fv, am_tk, am_wt, am_bk, Option.toList, List.cons_append, List.nil_append, Nat.reduceAdd, Nat.reduceEqDiff, Nat.reduceLeDiff, reduceIte, Nat.reduceLT, or_self, true_or, or_true, if_true, if_false, and_self, and_true, true_and, not_false_eq_true, not_true_eq_false, fd_SR_merge_0, fd_SR_merge_1, w.1.all]
  refine am_call (ww_requireUp w.1) (fun o g1 q => ?_)
  rcases q with ⟨rfl, rfl⟩ | ⟨⟨a, rfl⟩, w1⟩
  rotate_left
  · have w1 := (w.trans w1).mono (l := 1) (by omega)
    simp only [am_wp, am_stp, am_en, am_as, am_pad, am_nth, am_set, am_st1, am_st2, am_kl, am_kill, am_mem, am_fv, am_tk, am_wt, am_bk, Option.toList, List.cons_append, List.nil_append, Nat.reduceAdd, Nat.reduceEqDiff, Nat.reduceLeDiff, reduceIte, Nat.reduceLT, or_self, true_or, or_true, if_true, if_false, and_self, and_true, true_and, not_false_eq_true, not_true_eq_false, show mt_SR_merge.2.2 = [] from rfl, am_hd]
    exact ⟨Or.inr ⟨0, a, by simp, rfl⟩, w1⟩
  simp only [am_wp, am_stp, am_en, am_as, am_pad, am_nth, am_set, am_st1, am_st2, am_kl, am_kill, am_mem, am_fv, am_tk, am_wt, am_bk, Option.toList, List.cons_append, List.nil_append, Nat.reduceAdd, Nat.reduceEqDiff, Nat.reduceLeDiff, reduceIte, Nat.reduceLT, or_self, true_or, or_true, if_true, if_false, and_self, and_true, true_and, not_false_eq_true, not_true_eq_false]
  refine am_go [] 2 ?_
  simp only [am_wp, am_stp, am_en, am_as, am_pad, am_nth, am_set, am_st1, am_st2, am_kl, am_kill, am_mem, am_fv, am_tk, am_wt, am_bk, Option.toList, List.cons_append, List.nil_append, Nat.reduceAdd, Nat.reduceEqDiff, Nat.reduceLeDiff, reduceIte, Nat.reduceLT, or_self, true_or, or_true, if_true, if_false, and_self, and_true, true_and, not_false_eq_true, not_true_eq_false, fd_SR_merge_4, fd_SR_merge_5, w.1.all]
  refine am_call (ww_mergeRuns w.1) (fun o g2 q => ?_)
  obtain ⟨⟨x, rfl⟩, w2⟩ := q
  have w2 := (w.trans w2).mono (l := 1) (by omega)
  simp only [am_wp, am_stp, am_en, am_as, am_pad, am_nth, am_set, am_st1, am_st2, am_kl, am_kill, am_mem, am_fv, am_tk, am_wt, am_bk, Option.toList, List.cons_append, List.nil_append, Nat.reduceAdd, Nat.reduceEqDiff, Nat.reduceLeDiff, reduceIte, Nat.reduceLT, or_self, true_or, or_true, if_true, if_false, and_self, and_true, true_and, not_false_eq_true, not_true_eq_false]
  refine am_go [] 1 ?_
  simp only [am_wp, am_stp, am_en, am_as, am_pad, am_nth, am_set, am_st1, am_st2, am_kl, am_kill, am_mem, am_fv, am_tk, am_wt, am_bk, Option.toList, List.cons_append, List.nil_append, Nat.reduceAdd, Nat.reduceEqDiff, Nat.reduceLeDiff, reduceIte, Nat.reduceLT, or_self, true_or, or_true, if_true, if_false, and_self, and_true, true_and, not_false_eq_true, not_true_eq_false, fd_SR_merge_8, w2.1.all]
  exact ⟨Or.inl ⟨_, rfl⟩, w2⟩
theorem wk.mk {P i : Nat} {h : am_H} (w : wk P h) (hi : i < 8) : am_R h 12 i = 40 + 4 * i ∧ wl (40 + 4 * i) := by
  have e9 : i = 0 ∨ i = 1 ∨ i = 2 ∨ i = 3 ∨ i = 4 ∨ i = 5 ∨ i = 6 ∨ i = 7 := by omega
  refine ⟨?_, Or.inr (by omega)⟩
  rcases e9 with e | e | e | e | e | e | e | e <;> subst e <;> exact w.R 12 _ _ (by decide)
theorem ww_lfm_loop {d P : Nat} {h : am_H} (w : wp P 0 h h) : ∀ (m i : Nat), m + i = 8 →
    am_Ex nm_pr d mt_SR_leastFreeMark (2, [.ref 2, .int (nI i)], [], h) (fun o h' => (o = .inl (some (.int (-1))) ∨ ∃ j, j < 8 ∧ o = .inl (some (.int (nI j)))) ∧ h' = h)
  | 0, i, hm => by
    have e : i = 8 := by omega
    subst e
    have l1 : ¬ nI 8 < 8 := by decide
    refine am_go [8, 28] 3 ?_
    simp only [am_wp, am_stp, am_en, am_as, am_pad, am_nth, am_set, am_st1, am_st2, am_kl, am_kill, am_mem, am_fv, am_tk, am_wt, am_bk, Option.toList, List.cons_append, List.nil_append, Nat.reduceAdd, Nat.reduceEqDiff, Nat.reduceLeDiff, reduceIte, Nat.reduceLT, or_self, true_or, or_true, if_true, if_false, and_self, and_true, true_and, not_false_eq_true, not_true_eq_false, fd_SR_leastFreeMark_2, fd_SR_leastFreeMark_3, fd_SR_leastFreeMark_5, w.1.all, l1]
    refine am_go [] 2 ?_
    simp only [am_wp, am_stp, am_en, am_as, am_pad, am_nth, am_set, am_st1, am_st2, am_kl, am_kill, am_mem, am_fv, am_tk, am_wt, am_bk, Option.toList, List.cons_append, List.nil_append, Nat.reduceAdd, Nat.reduceEqDiff, Nat.reduceLeDiff, reduceIte, Nat.reduceLT, or_self, true_or, or_true, if_true, if_false, and_self, and_true, true_and, not_false_eq_true, not_true_eq_false, fd_SR_leastFreeMark_28, fd_SR_leastFreeMark_29, w.1.all]
  | m + 1, i, hm => by
    have l1 : nI i < 8 := nI_lt (b := 8) (by omega) (by decide)
    have i1 := am_inb (c := i) (N := 8) (by omega) (by omega)
    have q1 : (nI i).toNatClampNeg = i := nI_clamp (by omega)
    obtain ⟨e1, ht⟩ := w.1.mk (i := i) (by omega)
    refine am_go [8, 28] 3 ?_
    simp only [am_wp, am_stp, am_en, am_as, am_pad, am_nth, am_set, am_st1, am_st2, am_kl, am_kill, am_mem, am_fv, am_tk, am_wt, am_bk, Option.toList, List.cons_append, List.nil_append, Nat.reduceAdd, Nat.reduceEqDiff, Nat.reduceLeDiff, reduceIte, Nat.reduceLT, or_self, true_or, or_true, if_true, if_false, and_self, and_true, true_and, not_false_eq_true, not_true_eq_false, fd_SR_leastFreeMark_2, fd_SR_leastFreeMark_3, fd_SR_leastFreeMark_5, w.1.all, l1]
    refine am_go [20, 22] 6 ?_
    simp only [am_wp, am_stp, am_en, am_as, am_pad, am_nth, am_set, am_st1, am_st2, am_kl, am_kill, am_mem, am_fv, am_tk, am_wt, am_bk, Option.toList, List.cons_append, List.nil_append, Nat.reduceAdd, Nat.reduceEqDiff, Nat.reduceLeDiff, reduceIte, Nat.reduceLT, or_self, true_or, or_true, if_true, if_false, and_self, and_true, true_and, not_false_eq_true, not_true_eq_false, fd_SR_leastFreeMark_8, fd_SR_leastFreeMark_9, fd_SR_leastFreeMark_12, fd_SR_leastFreeMark_13, fd_SR_leastFreeMark_14, fd_SR_leastFreeMark_17, w.1.all, i1, q1, e1, (w.1.lst ht).1]
    refine wif ?_ ?_
    · refine am_go [] 2 ?_
      simp only [am_wp, am_stp, am_en, am_as, am_pad, am_nth, am_set, am_st1, am_st2, am_kl, am_kill, am_mem, am_fv, am_tk, am_wt, am_bk, Option.toList, List.cons_append, List.nil_append, Nat.reduceAdd, Nat.reduceEqDiff, Nat.reduceLeDiff, reduceIte, Nat.reduceLT, or_self, true_or, or_true, if_true, if_false, and_self, and_true, true_and, not_false_eq_true, not_true_eq_false, fd_SR_leastFreeMark_20, fd_SR_leastFreeMark_21, w.1.all]
      exact Or.inr ⟨i, by omega, rfl⟩
    · refine am_go [2] 2 ?_
      simp only [am_wp, am_stp, am_en, am_as, am_pad, am_nth, am_set, am_st1, am_st2, am_kl, am_kill, am_mem, am_fv, am_tk, am_wt, am_bk, Option.toList, List.cons_append, List.nil_append, Nat.reduceAdd, Nat.reduceEqDiff, Nat.reduceLeDiff, reduceIte, Nat.reduceLT, or_self, true_or, or_true, if_true, if_false, and_self, and_true, true_and, not_false_eq_true, not_true_eq_false, fd_SR_leastFreeMark_22, fd_SR_leastFreeMark_25, w.1.all, nI_1]
      exact ww_lfm_loop w m (i + 1) (by omega)
theorem ww_leastFreeMark {d P : Nat} {h : am_H} (w : wk P h) : am_Rt nm_pr (d + 1) mi_SR_leastFreeMark [.ref 2] h (fun o h' => (o = .inl (some (.int (-1))) ∨ ∃ j, j < 8 ∧ o = .inl (some (.int (nI j)))) ∧ h' = h) := by
  have w := wp.refl w
  refine am_in' (d := d) mt_SR_leastFreeMark 2 rfl rfl rfl ?_
  refine am_go [2] 2 ?_
  simp only [am_wp, am_stp, am_en, am_as, am_pad, am_nth, am_set, am_st1, am_st2, am_kl, am_kill, am_mem, am_fv, am_tk, am_wt, am_bk, Option.toList, List.cons_append, List.nil_append, Nat.reduceAdd, Nat.reduceEqDiff, Nat.reduceLeDiff, reduceIte, Nat.reduceLT, or_self, true_or, or_true, if_true, if_false, and_self, and_true, true_and, not_false_eq_true, not_true_eq_false, fd_SR_leastFreeMark_0, fd_SR_leastFreeMark_1, w.1.all]
  exact ww_lfm_loop w 8 0 rfl
theorem ww_mark {d P : Nat} {h : am_H} (w : wk P h) : am_Rt nm_pr (d + 7) mi_SR_mark [.ref 2] h (wx iany [0] P 1 h) := by
  have w := wp.refl w
  refine am_in' (d := d + 6) mt_SR_mark 3 rfl rfl rfl ?_
  refine am_go [] 2 ?_
  simp only [am_wp, am_stp, am_en, am_as, am_pad, am_nth, am_set, am_st1, am_st2, am_kl, am_kill, am_mem, am_fv, am_tk, am_wt, am_bk, Option.toList, List.cons_append, List.nil_append, Nat.reduceAdd, Nat.reduceEqDiff, Nat.reduceLeDiff, reduceIte, Nat.reduceLT, or_self, true_or, or_true, if_true, if_false, and_self, and_true, true_and, not_false_eq_true, not_true_eq_false, fd_SR_mark_0, fd_SR_mark_1, w.1.all]
  refine am_call (ww_requireUp w.1) (fun o g1 q => ?_)
  rcases q with ⟨rfl, rfl⟩ | ⟨⟨a, rfl⟩, w1⟩
  rotate_left
  · have w1 := (w.trans w1).mono (l := 1) (by omega)
    simp only [am_wp, am_stp, am_en, am_as, am_pad, am_nth, am_set, am_st1, am_st2, am_kl, am_kill, am_mem, am_fv, am_tk, am_wt, am_bk, Option.toList, List.cons_append, List.nil_append, Nat.reduceAdd, Nat.reduceEqDiff, Nat.reduceLeDiff, reduceIte, Nat.reduceLT, or_self, true_or, or_true, if_true, if_false, and_self, and_true, true_and, not_false_eq_true, not_true_eq_false, show mt_SR_mark.2.2 = [] from rfl, am_hd]
    exact ⟨Or.inr ⟨0, a, by simp, rfl⟩, w1⟩
  simp only [am_wp, am_stp, am_en, am_as, am_pad, am_nth, am_set, am_st1, am_st2, am_kl, am_kill, am_mem, am_fv, am_tk, am_wt, am_bk, Option.toList, List.cons_append, List.nil_append, Nat.reduceAdd, Nat.reduceEqDiff, Nat.reduceLeDiff, reduceIte, Nat.reduceLT, or_self, true_or, or_true, if_true, if_false, and_self, and_true, true_and, not_false_eq_true, not_true_eq_false]
  refine am_go [] 2 ?_
  simp only [am_wp, am_stp, am_en, am_as, am_pad, am_nth, am_set, am_st1, am_st2, am_kl, am_kill, am_mem, am_fv, am_tk, am_wt, am_bk, Option.toList, List.cons_append, List.nil_append, Nat.reduceAdd, Nat.reduceEqDiff, Nat.reduceLeDiff, reduceIte, Nat.reduceLT, or_self, true_or, or_true, if_true, if_false, and_self, and_true, true_and, not_false_eq_true, not_true_eq_false, fd_SR_mark_4, fd_SR_mark_5, w.1.all]
  refine am_call (ww_leastFreeMark w.1) (fun o g2 q => ?_)
  obtain ⟨q, rfl⟩ := q
  rcases q with rfl | ⟨j, hj, rfl⟩
  · simp only [am_wp, am_stp, am_en, am_as, am_pad, am_nth, am_set, am_st1, am_st2, am_kl, am_kill, am_mem, am_fv, am_tk, am_wt, am_bk, Option.toList, List.cons_append, List.nil_append, Nat.reduceAdd, Nat.reduceEqDiff, Nat.reduceLeDiff, reduceIte, Nat.reduceLT, or_self, true_or, or_true, if_true, if_false, and_self, and_true, true_and, not_false_eq_true, not_true_eq_false]
    have m1 : ¬ ¬ ((-1 : Int32) = -1) := by decide
    refine am_go [14, 16] 4 ?_
    simp only [am_wp, am_stp, am_en, am_as, am_pad, am_nth, am_set, am_st1, am_st2, am_kl, am_kill, am_mem, am_fv, am_tk, am_wt, am_bk, Option.toList, List.cons_append, List.nil_append, Nat.reduceAdd, Nat.reduceEqDiff, Nat.reduceLeDiff, reduceIte, Nat.reduceLT, or_self, true_or, or_true, if_true, if_false, and_self, and_true, true_and, not_false_eq_true, not_true_eq_false, fd_SR_mark_8, fd_SR_mark_9, fd_SR_mark_10, fd_SR_mark_11, w.1.all, m1]
    refine am_go [] 2 ?_
    simp only [am_wp, am_stp, am_en, am_as, am_pad, am_nth, am_set, am_st1, am_st2, am_kl, am_kill, am_mem, am_fv, am_tk, am_wt, am_bk, Option.toList, List.cons_append, List.nil_append, Nat.reduceAdd, Nat.reduceEqDiff, Nat.reduceLeDiff, reduceIte, Nat.reduceLT, or_self, true_or, or_true, if_true, if_false, and_self, and_true, true_and, not_false_eq_true, not_true_eq_false, fd_SR_mark_14, fd_SR_mark_15, w.1.all]
    exact ⟨Or.inl ⟨_, rfl⟩, w.mono (by omega)⟩
  · simp only [am_wp, am_stp, am_en, am_as, am_pad, am_nth, am_set, am_st1, am_st2, am_kl, am_kill, am_mem, am_fv, am_tk, am_wt, am_bk, Option.toList, List.cons_append, List.nil_append, Nat.reduceAdd, Nat.reduceEqDiff, Nat.reduceLeDiff, reduceIte, Nat.reduceLT, or_self, true_or, or_true, if_true, if_false, and_self, and_true, true_and, not_false_eq_true, not_true_eq_false]
    have fin : ∀ (y : Value) (g : am_H), wp P 1 g2 g → am_Ex nm_pr (d + 6) mt_SR_mark (47, [.ref 2, .int (nI j), y], [], g) (wx iany [0] P 1 g2) := by
      intro y g w
      have i1 := am_inb (c := j) (N := 8) (by omega) (by omega)
      have q1 : (nI j).toNatClampNeg = j := nI_clamp (by omega)
      obtain ⟨e1, ht⟩ := w.1.mk (i := j) (by omega)
      refine am_go [] 7 ?_
      simp only [am_wp, am_stp, am_en, am_as, am_pad, am_nth, am_set, am_st1, am_st2, am_kl, am_kill, am_mem, am_fv, am_tk, am_wt, am_bk, Option.toList, List.cons_append, List.nil_append, Nat.reduceAdd, Nat.reduceEqDiff, Nat.reduceLeDiff, reduceIte, Nat.reduceLT, or_self, true_or, or_true, if_true, if_false, and_self, and_true, true_and, not_false_eq_true, not_true_eq_false, fd_SR_mark_47, fd_SR_mark_48, fd_SR_mark_51, fd_SR_mark_52, fd_SR_mark_53, fd_SR_mark_54, fd_SR_mark_57, w.1.all, i1, q1, e1, (w.1.lst ht).1]
      refine am_call (ww_keep w.1 ht) (fun o g1 q => ?_)
      obtain ⟨rfl, w1⟩ := q
      have w1 := (w.trans w1).mono (l := 1) (by omega)
      simp only [am_wp, am_stp, am_en, am_as, am_pad, am_nth, am_set, am_st1, am_st2, am_kl, am_kill, am_mem, am_fv, am_tk, am_wt, am_bk, Option.toList, List.cons_append, List.nil_append, Nat.reduceAdd, Nat.reduceEqDiff, Nat.reduceLeDiff, reduceIte, Nat.reduceLT, or_self, true_or, or_true, if_true, if_false, and_self, and_true, true_and, not_false_eq_true, not_true_eq_false]
      refine am_go [] 2 ?_
      simp only [am_wp, am_stp, am_en, am_as, am_pad, am_nth, am_set, am_st1, am_st2, am_kl, am_kill, am_mem, am_fv, am_tk, am_wt, am_bk, Option.toList, List.cons_append, List.nil_append, Nat.reduceAdd, Nat.reduceEqDiff, Nat.reduceLeDiff, reduceIte, Nat.reduceLT, or_self, true_or, or_true, if_true, if_false, and_self, and_true, true_and, not_false_eq_true, not_true_eq_false, fd_SR_mark_60, fd_SR_mark_61, w1.1.all]
      exact ⟨Or.inl ⟨_, rfl⟩, w1⟩
    refine am_go [14, 16] 4 ?_
    simp only [am_wp, am_stp, am_en, am_as, am_pad, am_nth, am_set, am_st1, am_st2, am_kl, am_kill, am_mem, am_fv, am_tk, am_wt, am_bk, Option.toList, List.cons_append, List.nil_append, Nat.reduceAdd, Nat.reduceEqDiff, Nat.reduceLeDiff, reduceIte, Nat.reduceLT, or_self, true_or, or_true, if_true, if_false, and_self, and_true, true_and, not_false_eq_true, not_true_eq_false, fd_SR_mark_8, fd_SR_mark_9, fd_SR_mark_10, fd_SR_mark_11, w.1.all]
    refine wif ?_ ?_
    rotate_left
    · refine am_go [26, 47] 4 ?_
      simp only [am_wp, am_stp, am_en, am_as, am_pad, am_nth, am_set, am_st1, am_st2, am_kl, am_kill, am_mem, am_fv, am_tk, am_wt, am_bk, Option.toList, List.cons_append, List.nil_append, Nat.reduceAdd, Nat.reduceEqDiff, Nat.reduceLeDiff, reduceIte, Nat.reduceLT, or_self, true_or, or_true, if_true, if_false, and_self, and_true, true_and, not_false_eq_true, not_true_eq_false, fd_SR_mark_16, fd_SR_mark_17, fd_SR_mark_20, fd_SR_mark_23, w.1.all]
      refine wif ?_ (fin _ _ (w.mono (by omega)))
      refine am_go [] 2 ?_
      simp only [am_wp, am_stp, am_en, am_as, am_pad, am_nth, am_set, am_st1, am_st2, am_kl, am_kill, am_mem, am_fv, am_tk, am_wt, am_bk, Option.toList, List.cons_append, List.nil_append, Nat.reduceAdd, Nat.reduceEqDiff, Nat.reduceLeDiff, reduceIte, Nat.reduceLT, or_self, true_or, or_true, if_true, if_false, and_self, and_true, true_and, not_false_eq_true, not_true_eq_false, fd_SR_mark_26, fd_SR_mark_27, w.1.all]
      refine am_call (ww_flushTable w.1) (fun o g3 q => ?_)
      obtain ⟨⟨x, rfl⟩, w3⟩ := q
      have w3 := (w.trans w3).mono (l := 1) (by omega)
      simp only [am_wp, am_stp, am_en, am_as, am_pad, am_nth, am_set, am_st1, am_st2, am_kl, am_kill, am_mem, am_fv, am_tk, am_wt, am_bk, Option.toList, List.cons_append, List.nil_append, Nat.reduceAdd, Nat.reduceEqDiff, Nat.reduceLeDiff, reduceIte, Nat.reduceLT, or_self, true_or, or_true, if_true, if_false, and_self, and_true, true_and, not_false_eq_true, not_true_eq_false]
      refine am_go [36, 47] 4 ?_
      simp only [am_wp, am_stp, am_en, am_as, am_pad, am_nth, am_set, am_st1, am_st2, am_kl, am_kill, am_mem, am_fv, am_tk, am_wt, am_bk, Option.toList, List.cons_append, List.nil_append, Nat.reduceAdd, Nat.reduceEqDiff, Nat.reduceLeDiff, reduceIte, Nat.reduceLT, or_self, true_or, or_true, if_true, if_false, and_self, and_true, true_and, not_false_eq_true, not_true_eq_false, fd_SR_mark_30, fd_SR_mark_31, fd_SR_mark_32, fd_SR_mark_33, w3.1.all]
      refine wif (fin _ _ w3) ?_
      refine am_go [40, 45] 2 ?_
      simp only [am_wp, am_stp, am_en, am_as, am_pad, am_nth, am_set, am_st1, am_st2, am_kl, am_kill, am_mem, am_fv, am_tk, am_wt, am_bk, Option.toList, List.cons_append, List.nil_append, Nat.reduceAdd, Nat.reduceEqDiff, Nat.reduceLeDiff, reduceIte, Nat.reduceLT, or_self, true_or, or_true, if_true, if_false, and_self, and_true, true_and, not_false_eq_true, not_true_eq_false, fd_SR_mark_36, fd_SR_mark_37, w3.1.all]
      refine wif ?_ ?_
      rotate_left
      · refine am_go [] 2 ?_
        simp only [am_wp, am_stp, am_en, am_as, am_pad, am_nth, am_set, am_st1, am_st2, am_kl, am_kill, am_mem, am_fv, am_tk, am_wt, am_bk, Option.toList, List.cons_append, List.nil_append, Nat.reduceAdd, Nat.reduceEqDiff, Nat.reduceLeDiff, reduceIte, Nat.reduceLT, or_self, true_or, or_true, if_true, if_false, and_self, and_true, true_and, not_false_eq_true, not_true_eq_false, fd_SR_mark_45, fd_SR_mark_46, w3.1.all]
        exact ⟨Or.inl ⟨_, rfl⟩, w3⟩
      · refine am_go [] 3 ?_
        simp only [am_wp, am_stp, am_en, am_as, am_pad, am_nth, am_set, am_st1, am_st2, am_kl, am_kill, am_mem, am_fv, am_tk, am_wt, am_bk, Option.toList, List.cons_append, List.nil_append, Nat.reduceAdd, Nat.reduceEqDiff, Nat.reduceLeDiff, reduceIte, Nat.reduceLT, or_self, true_or, or_true, if_true, if_false, and_self, and_true, true_and, not_false_eq_true, not_true_eq_false, fd_SR_mark_40, fd_SR_mark_42, fd_SR_mark_46, w3.1.all]
        exact ⟨Or.inl ⟨_, rfl⟩, w3⟩
    · refine am_go [] 2 ?_
      simp only [am_wp, am_stp, am_en, am_as, am_pad, am_nth, am_set, am_st1, am_st2, am_kl, am_kill, am_mem, am_fv, am_tk, am_wt, am_bk, Option.toList, List.cons_append, List.nil_append, Nat.reduceAdd, Nat.reduceEqDiff, Nat.reduceLeDiff, reduceIte, Nat.reduceLT, or_self, true_or, or_true, if_true, if_false, and_self, and_true, true_and, not_false_eq_true, not_true_eq_false, fd_SR_mark_14, fd_SR_mark_15, w.1.all]
      exact ⟨Or.inl ⟨_, rfl⟩, w.mono (by omega)⟩
/-- an answer that is a list -/
def lref (o : am_O) : Prop := ∃ t, wl t ∧ o = .inl (some (.ref t))
theorem ww_runsOfMark {d P : Nat} {v : Int32} {h : am_H} (w : wk P h) : am_Rt nm_pr (d + 2) mi_SR_runsOfMark [.ref 2, .int v] h (wx lref [0, 2] P 1 h) := by
  have w := wp.refl w
  refine am_in' (d := d + 1) mt_SR_runsOfMark 2 rfl rfl rfl ?_
  refine am_go [] 2 ?_
  simp only [am_wp, am_stp, am_en, am_as, am_pad, am_nth, am_set, am_st1, am_st2, am_kl, am_kill, am_mem, am_fv, am_tk, am_wt, am_bk, Option.toList, List.cons_append, List.nil_append, Nat.reduceAdd, Nat.reduceEqDiff, Nat.reduceLeDiff, reduceIte, Nat.reduceLT, or_self, true_or, or_true, if_true, if_false, and_self, and_true, true_and, not_false_eq_true, not_true_eq_false, fd_SR_runsOfMark_0, fd_SR_runsOfMark_1, w.1.all]
  refine am_call (ww_requireUp w.1) (fun o g1 q => ?_)
  rcases q with ⟨rfl, rfl⟩ | ⟨⟨a, rfl⟩, w1⟩
  rotate_left
  · have w1 := (w.trans w1).mono (l := 1) (by omega)
    simp only [am_wp, am_stp, am_en, am_as, am_pad, am_nth, am_set, am_st1, am_st2, am_kl, am_kill, am_mem, am_fv, am_tk, am_wt, am_bk, Option.toList, List.cons_append, List.nil_append, Nat.reduceAdd, Nat.reduceEqDiff, Nat.reduceLeDiff, reduceIte, Nat.reduceLT, or_self, true_or, or_true, if_true, if_false, and_self, and_true, true_and, not_false_eq_true, not_true_eq_false, show mt_SR_runsOfMark.2.2 = [] from rfl, am_hd]
    exact ⟨Or.inr ⟨0, a, by simp, rfl⟩, w1⟩
  simp only [am_wp, am_stp, am_en, am_as, am_pad, am_nth, am_set, am_st1, am_st2, am_kl, am_kill, am_mem, am_fv, am_tk, am_wt, am_bk, Option.toList, List.cons_append, List.nil_append, Nat.reduceAdd, Nat.reduceEqDiff, Nat.reduceLeDiff, reduceIte, Nat.reduceLT, or_self, true_or, or_true, if_true, if_false, and_self, and_true, true_and, not_false_eq_true, not_true_eq_false]
  have bad : am_Ex nm_pr (d + 1) mt_SR_runsOfMark (26, [.ref 2, .int v], [], g1) (wx lref [0, 2] P 1 g1) := by
    refine am_go [] 1 ?_
    simp only [am_wp, am_stp, am_en, am_as, am_pad, am_nth, am_set, am_st1, am_st2, am_kl, am_kill, am_mem, am_fv, am_tk, am_wt, am_bk, Option.toList, List.cons_append, List.nil_append, Nat.reduceAdd, Nat.reduceEqDiff, Nat.reduceLeDiff, reduceIte, Nat.reduceLT, or_self, true_or, or_true, if_true, if_false, and_self, and_true, true_and, not_false_eq_true, not_true_eq_false, fd_SR_runsOfMark_26, w.1.all]
    exact ⟨Or.inr ⟨2, _, by simp, rfl⟩, wp.ex w.1⟩
  by_cases e1 : v < 0
  · refine am_go [8, 26] 2 ?_
    simp only [am_wp, am_stp, am_en, am_as, am_pad, am_nth, am_set, am_st1, am_st2, am_kl, am_kill, am_mem, am_fv, am_tk, am_wt, am_bk, Option.toList, List.cons_append, List.nil_append, Nat.reduceAdd, Nat.reduceEqDiff, Nat.reduceLeDiff, reduceIte, Nat.reduceLT, or_self, true_or, or_true, if_true, if_false, and_self, and_true, true_and, not_false_eq_true, not_true_eq_false, fd_SR_runsOfMark_4, fd_SR_runsOfMark_5, w.1.all, e1]
    exact bad
  refine am_go [8, 26] 2 ?_
  simp only [am_wp, am_stp, am_en, am_as, am_pad, am_nth, am_set, am_st1, am_st2, am_kl, am_kill, am_mem, am_fv, am_tk, am_wt, am_bk, Option.toList, List.cons_append, List.nil_append, Nat.reduceAdd, Nat.reduceEqDiff, Nat.reduceLeDiff, reduceIte, Nat.reduceLT, or_self, true_or, or_true, if_true, if_false, and_self, and_true, true_and, not_false_eq_true, not_true_eq_false, fd_SR_runsOfMark_4, fd_SR_runsOfMark_5, w.1.all, e1]
  by_cases e2 : v < 8
  · obtain ⟨i, hi, rfl⟩ := in_natL (N := 8) (by decide) e1 e2
    have i1 := am_inb (c := i) (N := 8) (by omega) (by omega)
    have q1 : (nI i).toNatClampNeg = i := nI_clamp (by omega)
    obtain ⟨f1, ht⟩ := w.1.mk (i := i) (by omega)
    refine am_go [14, 26] 3 ?_
    simp only [am_wp, am_stp, am_en, am_as, am_pad, am_nth, am_set, am_st1, am_st2, am_kl, am_kill, am_mem, am_fv, am_tk, am_wt, am_bk, Option.toList, List.cons_append, List.nil_append, Nat.reduceAdd, Nat.reduceEqDiff, Nat.reduceLeDiff, reduceIte, Nat.reduceLT, or_self, true_or, or_true, if_true, if_false, and_self, and_true, true_and, not_false_eq_true, not_true_eq_false, fd_SR_runsOfMark_8, fd_SR_runsOfMark_9, fd_SR_runsOfMark_11, w.1.all, e2]
    refine am_go [26, 37] 6 ?_
    simp only [am_wp, am_stp, am_en, am_as, am_pad, am_nth, am_set, am_st1, am_st2, am_kl, am_kill, am_mem, am_fv, am_tk, am_wt, am_bk, Option.toList, List.cons_append, List.nil_append, Nat.reduceAdd, Nat.reduceEqDiff, Nat.reduceLeDiff, reduceIte, Nat.reduceLT, or_self, true_or, or_true, if_true, if_false, and_self, and_true, true_and, not_false_eq_true, not_true_eq_false, fd_SR_runsOfMark_14, fd_SR_runsOfMark_15, fd_SR_runsOfMark_18, fd_SR_runsOfMark_19, fd_SR_runsOfMark_20, fd_SR_runsOfMark_23, w.1.all, i1, q1, f1, (w.1.lst ht).1]
    refine wif bad ?_
    refine am_go [] 5 ?_
    simp only [am_wp, am_stp, am_en, am_as, am_pad, am_nth, am_set, am_st1, am_st2, am_kl, am_kill, am_mem, am_fv, am_tk, am_wt, am_bk, Option.toList, List.cons_append, List.nil_append, Nat.reduceAdd, Nat.reduceEqDiff, Nat.reduceLeDiff, reduceIte, Nat.reduceLT, or_self, true_or, or_true, if_true, if_false, and_self, and_true, true_and, not_false_eq_true, not_true_eq_false, fd_SR_runsOfMark_37, fd_SR_runsOfMark_38, fd_SR_runsOfMark_41, fd_SR_runsOfMark_42, fd_SR_runsOfMark_43, w.1.all, i1, q1, f1, (w.1.lst ht).1]
    exact ⟨Or.inl ⟨_, ht, rfl⟩, w.mono (by omega)⟩
  · refine am_go [14, 26] 3 ?_
    simp only [am_wp, am_stp, am_en, am_as, am_pad, am_nth, am_set, am_st1, am_st2, am_kl, am_kill, am_mem, am_fv, am_tk, am_wt, am_bk, Option.toList, List.cons_append, List.nil_append, Nat.reduceAdd, Nat.reduceEqDiff, Nat.reduceLeDiff, reduceIte, Nat.reduceLT, or_self, true_or, or_true, if_true, if_false, and_self, and_true, true_and, not_false_eq_true, not_true_eq_false, fd_SR_runsOfMark_8, fd_SR_runsOfMark_9, fd_SR_runsOfMark_11, w.1.all, e2]
    exact bad
theorem ww_runsOf {d P : Nat} {v : Int32} {h : am_H} (w : wk P h) : am_Rt nm_pr (d + 3) mi_SR_runsOf [.ref 2, .int v] h (wx lref [0, 2] P 1 h) := by
  have w := wp.refl w
  refine am_in' (d := d + 2) mt_SR_runsOf 2 rfl rfl rfl ?_
  refine am_go [] 2 ?_
  simp only [am_wp, am_stp, am_en, am_as, am_pad, am_nth, am_set, am_st1, am_st2, am_kl, am_kill, am_mem, am_fv, am_tk, am_wt, am_bk, Option.toList, List.cons_append, List.nil_append, Nat.reduceAdd, Nat.reduceEqDiff, Nat.reduceLeDiff, reduceIte, Nat.reduceLT, or_self, true_or, or_true, if_true, if_false, and_self, and_true, true_and, not_false_eq_true, not_true_eq_false, fd_SR_runsOf_0, fd_SR_runsOf_1, w.1.all]
  refine am_call (ww_requireUp w.1) (fun o g1 q => ?_)
  rcases q with ⟨rfl, rfl⟩ | ⟨⟨a, rfl⟩, w1⟩
  rotate_left
  · have w1 := (w.trans w1).mono (l := 1) (by omega)
    simp only [am_wp, am_stp, am_en, am_as, am_pad, am_nth, am_set, am_st1, am_st2, am_kl, am_kill, am_mem, am_fv, am_tk, am_wt, am_bk, Option.toList, List.cons_append, List.nil_append, Nat.reduceAdd, Nat.reduceEqDiff, Nat.reduceLeDiff, reduceIte, Nat.reduceLT, or_self, true_or, or_true, if_true, if_false, and_self, and_true, true_and, not_false_eq_true, not_true_eq_false, show mt_SR_runsOf.2.2 = [] from rfl, am_hd]
    exact ⟨Or.inr ⟨0, a, by simp, rfl⟩, w1⟩
  simp only [am_wp, am_stp, am_en, am_as, am_pad, am_nth, am_set, am_st1, am_st2, am_kl, am_kill, am_mem, am_fv, am_tk, am_wt, am_bk, Option.toList, List.cons_append, List.nil_append, Nat.reduceAdd, Nat.reduceEqDiff, Nat.reduceLeDiff, reduceIte, Nat.reduceLT, or_self, true_or, or_true, if_true, if_false, and_self, and_true, true_and, not_false_eq_true, not_true_eq_false]
  refine am_go [9, 16] 3 ?_
  simp only [am_wp, am_stp, am_en, am_as, am_pad, am_nth, am_set, am_st1, am_st2, am_kl, am_kill, am_mem, am_fv, am_tk, am_wt, am_bk, Option.toList, List.cons_append, List.nil_append, Nat.reduceAdd, Nat.reduceEqDiff, Nat.reduceLeDiff, reduceIte, Nat.reduceLT, or_self, true_or, or_true, if_true, if_false, and_self, and_true, true_and, not_false_eq_true, not_true_eq_false, fd_SR_runsOf_4, fd_SR_runsOf_5, fd_SR_runsOf_6, w.1.all]
  refine wif ?_ ?_
  rotate_left
  · refine am_go [] 3 ?_
    simp only [am_wp, am_stp, am_en, am_as, am_pad, am_nth, am_set, am_st1, am_st2, am_kl, am_kill, am_mem, am_fv, am_tk, am_wt, am_bk, Option.toList, List.cons_append, List.nil_append, Nat.reduceAdd, Nat.reduceEqDiff, Nat.reduceLeDiff, reduceIte, Nat.reduceLT, or_self, true_or, or_true, if_true, if_false, and_self, and_true, true_and, not_false_eq_true, not_true_eq_false, fd_SR_runsOf_16, fd_SR_runsOf_17, fd_SR_runsOf_18, w.1.all]
    refine am_call (ww_runsOfMark w.1) (fun o g2 q => ?_)
    obtain ⟨⟨t, ht, rfl⟩ | ⟨c, a, hc, rfl⟩, w2⟩ := q
    · simp only [am_wp, am_stp, am_en, am_as, am_pad, am_nth, am_set, am_st1, am_st2, am_kl, am_kill, am_mem, am_fv, am_tk, am_wt, am_bk, Option.toList, List.cons_append, List.nil_append, Nat.reduceAdd, Nat.reduceEqDiff, Nat.reduceLeDiff, reduceIte, Nat.reduceLT, or_self, true_or, or_true, if_true, if_false, and_self, and_true, true_and, not_false_eq_true, not_true_eq_false]
      refine am_go [] 1 ?_
      simp only [am_wp, am_stp, am_en, am_as, am_pad, am_nth, am_set, am_st1, am_st2, am_kl, am_kill, am_mem, am_fv, am_tk, am_wt, am_bk, Option.toList, List.cons_append, List.nil_append, Nat.reduceAdd, Nat.reduceEqDiff, Nat.reduceLeDiff, reduceIte, Nat.reduceLT, or_self, true_or, or_true, if_true, if_false, and_self, and_true, true_and, not_false_eq_true, not_true_eq_false, fd_SR_runsOf_21, w2.1.all]
      exact ⟨Or.inl ⟨_, ht, rfl⟩, w2⟩
    · simp only [am_wp, am_stp, am_en, am_as, am_pad, am_nth, am_set, am_st1, am_st2, am_kl, am_kill, am_mem, am_fv, am_tk, am_wt, am_bk, Option.toList, List.cons_append, List.nil_append, Nat.reduceAdd, Nat.reduceEqDiff, Nat.reduceLeDiff, reduceIte, Nat.reduceLT, or_self, true_or, or_true, if_true, if_false, and_self, and_true, true_and, not_false_eq_true, not_true_eq_false, show mt_SR_runsOf.2.2 = [] from rfl, am_hd]
      exact ⟨Or.inr ⟨c, a, hc, rfl⟩, w2⟩
  · refine am_go [] 4 ?_
    simp only [am_wp, am_stp, am_en, am_as, am_pad, am_nth, am_set, am_st1, am_st2, am_kl, am_kill, am_mem, am_fv, am_tk, am_wt, am_bk, Option.toList, List.cons_append, List.nil_append, Nat.reduceAdd, Nat.reduceEqDiff, Nat.reduceLeDiff, reduceIte, Nat.reduceLT, or_self, true_or, or_true, if_true, if_false, and_self, and_true, true_and, not_false_eq_true, not_true_eq_false, fd_SR_runsOf_9, fd_SR_runsOf_10, fd_SR_runsOf_13, fd_SR_runsOf_21, w.1.all]
    exact ⟨Or.inl ⟨8, Or.inl rfl, rfl⟩, w.mono (by omega)⟩
