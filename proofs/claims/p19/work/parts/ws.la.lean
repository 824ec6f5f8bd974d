/-! THE LAW'S HELPERS OVER THE CLASS, WEAKLY (written by wip/tools/genla.py) -/
def wy (P : Nat) (h : am_H) (o : am_O) (h' : am_H) : Prop := iany o ∧ ∃ h1, wp P 256 h h1 ∧ (h' = h1 ∨ ∃ v, h' = am_sL h1 108 0 v)
theorem wy_put {d P : Nat} {a0 a1 : Int64} {h : am_H} (w : wk P h) (k8 : am_kd h 108 = 101) (l8 : am_ln h 108 = 1) : am_Rt nm_pr (d + 12) mi_La_put [.ref 2, .long a0, .long a1, .ref 108] h (wy P h) := by
  have w := wp.refl w
  have hh : mt_La_put.2.2 = [(0, 11, 14, 0)] := rfl
  have i0 : ¬ ((0 : Int32) < 0 ∨ 1 ≤ (0 : Int32).toNatClampNeg) := by decide
  have c0 : (0 : Int32).toNatClampNeg = 0 := by decide
  refine am_in' (d := d + 11) mt_La_put 7 rfl rfl rfl ?_
  refine am_go [] 6 ?_
  simp only [am_wp, am_stp, am_en, am_as, am_pad, am_nth, am_set, am_st1, am_st2, am_kl, am_kill, am_mem, am_fv, am_tk, am_wt, am_bk, Option.toList, List.cons_append, List.nil_append, Nat.reduceAdd, Nat.reduceEqDiff, Nat.reduceLeDiff, reduceIte, Nat.reduceLT, or_self, true_or, or_true, if_true, if_false, and_self, and_true, true_and, not_false_eq_true, not_true_eq_false, fd_La_put_0, fd_La_put_2, fd_La_put_3, fd_La_put_4, fd_La_put_5, fd_La_put_6, w.1.all]
  refine am_call (ww_put (d := d + 7) w.1) (fun o g1 q => ?_)
  obtain ⟨q, w1⟩ := q
  have w1 := w1.mono (l := 256) (by omega)
  obtain ⟨f1, f2, -⟩ := w1.2.1 108 (Or.inr (by omega))
  have k9 := f1.trans k8
  have l9 := f2.trans l8
  rcases q with ⟨x, rfl⟩ | ⟨c, a, hc, rfl⟩
  · simp only [am_wp, am_stp, am_en, am_as, am_pad, am_nth, am_set, am_st1, am_st2, am_kl, am_kill, am_mem, am_fv, am_tk, am_wt, am_bk, Option.toList, List.cons_append, List.nil_append, Nat.reduceAdd, Nat.reduceEqDiff, Nat.reduceLeDiff, reduceIte, Nat.reduceLT, or_self, true_or, or_true, if_true, if_false, and_self, and_true, true_and, not_false_eq_true, not_true_eq_false]
    refine am_go [] 5 ?_
    simp only [am_wp, am_stp, am_en, am_as, am_pad, am_nth, am_set, am_st1, am_st2, am_kl, am_kill, am_mem, am_fv, am_tk, am_wt, am_bk, Option.toList, List.cons_append, List.nil_append, Nat.reduceAdd, Nat.reduceEqDiff, Nat.reduceLeDiff, reduceIte, Nat.reduceLT, or_self, true_or, or_true, if_true, if_false, and_self, and_true, true_and, not_false_eq_true, not_true_eq_false, fd_La_put_9, fd_La_put_10, fd_La_put_11, fd_La_put_18, fd_La_put_19, w1.1.all, k9, l9, i0, c0]
    exact ⟨⟨_, rfl⟩, g1, w1, Or.inr ⟨_, rfl⟩⟩
  · simp only [List.mem_cons, List.not_mem_nil, or_false] at hc
    rcases hc with rfl
    · simp only [am_wp, am_stp, am_en, am_as, am_pad, am_nth, am_set, am_st1, am_st2, am_kl, am_kill, am_mem, am_fv, am_tk, am_wt, am_bk, Option.toList, List.cons_append, List.nil_append, Nat.reduceAdd, Nat.reduceEqDiff, Nat.reduceLeDiff, reduceIte, Nat.reduceLT, or_self, true_or, or_true, if_true, if_false, and_self, and_true, true_and, not_false_eq_true, not_true_eq_false, hh, am_hd]
      refine am_go [] 3 ?_
      simp only [am_wp, am_stp, am_en, am_as, am_pad, am_nth, am_set, am_st1, am_st2, am_kl, am_kill, am_mem, am_fv, am_tk, am_wt, am_bk, Option.toList, List.cons_append, List.nil_append, Nat.reduceAdd, Nat.reduceEqDiff, Nat.reduceLeDiff, reduceIte, Nat.reduceLT, or_self, true_or, or_true, if_true, if_false, and_self, and_true, true_and, not_false_eq_true, not_true_eq_false, fd_La_put_14, fd_La_put_16, fd_La_put_17, w1.1.all]
      exact ⟨⟨_, rfl⟩, g1, w1, Or.inl rfl⟩
theorem wy_remove {d P : Nat} {a0 : Int64} {h : am_H} (w : wk P h) (k8 : am_kd h 108 = 101) (l8 : am_ln h 108 = 1) : am_Rt nm_pr (d + 12) mi_La_remove [.ref 2, .long a0, .ref 108] h (wy P h) := by
  have w := wp.refl w
  have hh : mt_La_remove.2.2 = [(0, 9, 12, 0)] := rfl
  have i0 : ¬ ((0 : Int32) < 0 ∨ 1 ≤ (0 : Int32).toNatClampNeg) := by decide
  have c0 : (0 : Int32).toNatClampNeg = 0 := by decide
  refine am_in' (d := d + 11) mt_La_remove 5 rfl rfl rfl ?_
  refine am_go [] 5 ?_
  simp only [am_wp, am_stp, am_en, am_as, am_pad, am_nth, am_set, am_st1, am_st2, am_kl, am_kill, am_mem, am_fv, am_tk, am_wt, am_bk, Option.toList, List.cons_append, List.nil_append, Nat.reduceAdd, Nat.reduceEqDiff, Nat.reduceLeDiff, reduceIte, Nat.reduceLT, or_self, true_or, or_true, if_true, if_false, and_self, and_true, true_and, not_false_eq_true, not_true_eq_false, fd_La_remove_0, fd_La_remove_1, fd_La_remove_2, fd_La_remove_3, fd_La_remove_4, w.1.all]
  refine am_call (ww_remove (d := d + 7) w.1) (fun o g1 q => ?_)
  obtain ⟨q, w1⟩ := q
  have w1 := w1.mono (l := 256) (by omega)
  obtain ⟨f1, f2, -⟩ := w1.2.1 108 (Or.inr (by omega))
  have k9 := f1.trans k8
  have l9 := f2.trans l8
  rcases q with ⟨x, rfl⟩ | ⟨c, a, hc, rfl⟩
  · simp only [am_wp, am_stp, am_en, am_as, am_pad, am_nth, am_set, am_st1, am_st2, am_kl, am_kill, am_mem, am_fv, am_tk, am_wt, am_bk, Option.toList, List.cons_append, List.nil_append, Nat.reduceAdd, Nat.reduceEqDiff, Nat.reduceLeDiff, reduceIte, Nat.reduceLT, or_self, true_or, or_true, if_true, if_false, and_self, and_true, true_and, not_false_eq_true, not_true_eq_false]
    refine am_go [] 5 ?_
    simp only [am_wp, am_stp, am_en, am_as, am_pad, am_nth, am_set, am_st1, am_st2, am_kl, am_kill, am_mem, am_fv, am_tk, am_wt, am_bk, Option.toList, List.cons_append, List.nil_append, Nat.reduceAdd, Nat.reduceEqDiff, Nat.reduceLeDiff, reduceIte, Nat.reduceLT, or_self, true_or, or_true, if_true, if_false, and_self, and_true, true_and, not_false_eq_true, not_true_eq_false, fd_La_remove_7, fd_La_remove_8, fd_La_remove_9, fd_La_remove_16, fd_La_remove_17, w1.1.all, k9, l9, i0, c0]
    exact ⟨⟨_, rfl⟩, g1, w1, Or.inr ⟨_, rfl⟩⟩
  · simp only [List.mem_cons, List.not_mem_nil, or_false] at hc
    rcases hc with rfl
    · simp only [am_wp, am_stp, am_en, am_as, am_pad, am_nth, am_set, am_st1, am_st2, am_kl, am_kill, am_mem, am_fv, am_tk, am_wt, am_bk, Option.toList, List.cons_append, List.nil_append, Nat.reduceAdd, Nat.reduceEqDiff, Nat.reduceLeDiff, reduceIte, Nat.reduceLT, or_self, true_or, or_true, if_true, if_false, and_self, and_true, true_and, not_false_eq_true, not_true_eq_false, hh, am_hd]
      refine am_go [] 3 ?_
      simp only [am_wp, am_stp, am_en, am_as, am_pad, am_nth, am_set, am_st1, am_st2, am_kl, am_kill, am_mem, am_fv, am_tk, am_wt, am_bk, Option.toList, List.cons_append, List.nil_append, Nat.reduceAdd, Nat.reduceEqDiff, Nat.reduceLeDiff, reduceIte, Nat.reduceLT, or_self, true_or, or_true, if_true, if_false, and_self, and_true, true_and, not_false_eq_true, not_true_eq_false, fd_La_remove_12, fd_La_remove_14, fd_La_remove_15, w1.1.all]
      exact ⟨⟨_, rfl⟩, g1, w1, Or.inl rfl⟩
theorem wy_fold {d P : Nat} {a0 a1 : Int64} {h : am_H} (w : wk P h) (k8 : am_kd h 108 = 101) (l8 : am_ln h 108 = 1) : am_Rt nm_pr (d + 12) mi_La_fold [.ref 2, .long a0, .long a1, .ref 108] h (wy P h) := by
  have w := wp.refl w
  have hh : mt_La_fold.2.2 = [(0, 11, 14, 0)] := rfl
  have i0 : ¬ ((0 : Int32) < 0 ∨ 1 ≤ (0 : Int32).toNatClampNeg) := by decide
  have c0 : (0 : Int32).toNatClampNeg = 0 := by decide
  refine am_in' (d := d + 11) mt_La_fold 7 rfl rfl rfl ?_
  refine am_go [] 6 ?_
  simp only [am_wp, am_stp, am_en, am_as, am_pad, am_nth, am_set, am_st1, am_st2, am_kl, am_kill, am_mem, am_fv, am_tk, am_wt, am_bk, Option.toList, List.cons_append, List.nil_append, Nat.reduceAdd, Nat.reduceEqDiff, Nat.reduceLeDiff, reduceIte, Nat.reduceLT, or_self, true_or, or_true, if_true, if_false, and_self, and_true, true_and, not_false_eq_true, not_true_eq_false, fd_La_fold_0, fd_La_fold_2, fd_La_fold_3, fd_La_fold_4, fd_La_fold_5, fd_La_fold_6, w.1.all]
  refine am_call (ww_fold (d := d + 7) w.1) (fun o g1 q => ?_)
  obtain ⟨q, w1⟩ := q
  have w1 := w1.mono (l := 256) (by omega)
  obtain ⟨f1, f2, -⟩ := w1.2.1 108 (Or.inr (by omega))
  have k9 := f1.trans k8
  have l9 := f2.trans l8
  rcases q with ⟨x, rfl⟩ | ⟨c, a, hc, rfl⟩
  · simp only [am_wp, am_stp, am_en, am_as, am_pad, am_nth, am_set, am_st1, am_st2, am_kl, am_kill, am_mem, am_fv, am_tk, am_wt, am_bk, Option.toList, List.cons_append, List.nil_append, Nat.reduceAdd, Nat.reduceEqDiff, Nat.reduceLeDiff, reduceIte, Nat.reduceLT, or_self, true_or, or_true, if_true, if_false, and_self, and_true, true_and, not_false_eq_true, not_true_eq_false]
    refine am_go [] 5 ?_
    simp only [am_wp, am_stp, am_en, am_as, am_pad, am_nth, am_set, am_st1, am_st2, am_kl, am_kill, am_mem, am_fv, am_tk, am_wt, am_bk, Option.toList, List.cons_append, List.nil_append, Nat.reduceAdd, Nat.reduceEqDiff, Nat.reduceLeDiff, reduceIte, Nat.reduceLT, or_self, true_or, or_true, if_true, if_false, and_self, and_true, true_and, not_false_eq_true, not_true_eq_false, fd_La_fold_9, fd_La_fold_10, fd_La_fold_11, fd_La_fold_18, fd_La_fold_19, w1.1.all, k9, l9, i0, c0]
    exact ⟨⟨_, rfl⟩, g1, w1, Or.inr ⟨_, rfl⟩⟩
  · simp only [List.mem_cons, List.not_mem_nil, or_false] at hc
    rcases hc with rfl
    · simp only [am_wp, am_stp, am_en, am_as, am_pad, am_nth, am_set, am_st1, am_st2, am_kl, am_kill, am_mem, am_fv, am_tk, am_wt, am_bk, Option.toList, List.cons_append, List.nil_append, Nat.reduceAdd, Nat.reduceEqDiff, Nat.reduceLeDiff, reduceIte, Nat.reduceLT, or_self, true_or, or_true, if_true, if_false, and_self, and_true, true_and, not_false_eq_true, not_true_eq_false, hh, am_hd]
      refine am_go [] 3 ?_
      simp only [am_wp, am_stp, am_en, am_as, am_pad, am_nth, am_set, am_st1, am_st2, am_kl, am_kill, am_mem, am_fv, am_tk, am_wt, am_bk, Option.toList, List.cons_append, List.nil_append, Nat.reduceAdd, Nat.reduceEqDiff, Nat.reduceLeDiff, reduceIte, Nat.reduceLT, or_self, true_or, or_true, if_true, if_false, and_self, and_true, true_and, not_false_eq_true, not_true_eq_false, fd_La_fold_14, fd_La_fold_16, fd_La_fold_17, w1.1.all]
      exact ⟨⟨_, rfl⟩, g1, w1, Or.inl rfl⟩
theorem wy_many {d P : Nat} {a0 a1 : Int32} {a2 a3 : Int64} {h : am_H} (w : wk P h) (k8 : am_kd h 108 = 101) (l8 : am_ln h 108 = 1) : am_Rt nm_pr (d + 12) mi_La_many [.ref 2, .int a0, .int a1, .long a2, .long a3, .ref 108] h (wy P h) := by
  have w := wp.refl w
  have hh : mt_La_many.2.2 = [(0, 14, 17, 0), (0, 14, 21, 1)] := rfl
  have i0 : ¬ ((0 : Int32) < 0 ∨ 1 ≤ (0 : Int32).toNatClampNeg) := by decide
  have c0 : (0 : Int32).toNatClampNeg = 0 := by decide
  refine am_in' (d := d + 11) mt_La_many 9 rfl rfl rfl ?_
  refine am_go [] 8 ?_
  simp only [am_wp, am_stp, am_en, am_as, am_pad, am_nth, am_set, am_st1, am_st2, am_kl, am_kill, am_mem, am_fv, am_tk, am_wt, am_bk, Option.toList, List.cons_append, List.nil_append, Nat.reduceAdd, Nat.reduceEqDiff, Nat.reduceLeDiff, reduceIte, Nat.reduceLT, or_self, true_or, or_true, if_true, if_false, and_self, and_true, true_and, not_false_eq_true, not_true_eq_false, fd_La_many_0, fd_La_many_2, fd_La_many_3, fd_La_many_4, fd_La_many_5, fd_La_many_6, fd_La_many_7, fd_La_many_9, w.1.all]
  refine am_call (ww_many (d := d + 2) w.1) (fun o g1 q => ?_)
  obtain ⟨q, w1⟩ := q
  have w1 := w1.mono (l := 256) (by omega)
  obtain ⟨f1, f2, -⟩ := w1.2.1 108 (Or.inr (by omega))
  have k9 := f1.trans k8
  have l9 := f2.trans l8
  rcases q with ⟨x, rfl⟩ | ⟨c, a, hc, rfl⟩
  · simp only [am_wp, am_stp, am_en, am_as, am_pad, am_nth, am_set, am_st1, am_st2, am_kl, am_kill, am_mem, am_fv, am_tk, am_wt, am_bk, Option.toList, List.cons_append, List.nil_append, Nat.reduceAdd, Nat.reduceEqDiff, Nat.reduceLeDiff, reduceIte, Nat.reduceLT, or_self, true_or, or_true, if_true, if_false, and_self, and_true, true_and, not_false_eq_true, not_true_eq_false]
    refine am_go [] 5 ?_
    simp only [am_wp, am_stp, am_en, am_as, am_pad, am_nth, am_set, am_st1, am_st2, am_kl, am_kill, am_mem, am_fv, am_tk, am_wt, am_bk, Option.toList, List.cons_append, List.nil_append, Nat.reduceAdd, Nat.reduceEqDiff, Nat.reduceLeDiff, reduceIte, Nat.reduceLT, or_self, true_or, or_true, if_true, if_false, and_self, and_true, true_and, not_false_eq_true, not_true_eq_false, fd_La_many_12, fd_La_many_13, fd_La_many_14, fd_La_many_25, fd_La_many_26, w1.1.all, k9, l9, i0, c0]
    exact ⟨⟨_, rfl⟩, g1, w1, Or.inr ⟨_, rfl⟩⟩
  · simp only [List.mem_cons, List.not_mem_nil, or_false] at hc
    rcases hc with rfl | rfl
    · simp only [am_wp, am_stp, am_en, am_as, am_pad, am_nth, am_set, am_st1, am_st2, am_kl, am_kill, am_mem, am_fv, am_tk, am_wt, am_bk, Option.toList, List.cons_append, List.nil_append, Nat.reduceAdd, Nat.reduceEqDiff, Nat.reduceLeDiff, reduceIte, Nat.reduceLT, or_self, true_or, or_true, if_true, if_false, and_self, and_true, true_and, not_false_eq_true, not_true_eq_false, hh, am_hd]
      refine am_go [] 3 ?_
      simp only [am_wp, am_stp, am_en, am_as, am_pad, am_nth, am_set, am_st1, am_st2, am_kl, am_kill, am_mem, am_fv, am_tk, am_wt, am_bk, Option.toList, List.cons_append, List.nil_append, Nat.reduceAdd, Nat.reduceEqDiff, Nat.reduceLeDiff, reduceIte, Nat.reduceLT, or_self, true_or, or_true, if_true, if_false, and_self, and_true, true_and, not_false_eq_true, not_true_eq_false, fd_La_many_17, fd_La_many_19, fd_La_many_20, w1.1.all]
      exact ⟨⟨_, rfl⟩, g1, w1, Or.inl rfl⟩
    · simp only [am_wp, am_stp, am_en, am_as, am_pad, am_nth, am_set, am_st1, am_st2, am_kl, am_kill, am_mem, am_fv, am_tk, am_wt, am_bk, Option.toList, List.cons_append, List.nil_append, Nat.reduceAdd, Nat.reduceEqDiff, Nat.reduceLeDiff, reduceIte, Nat.reduceLT, or_self, true_or, or_true, if_true, if_false, and_self, and_true, true_and, not_false_eq_true, not_true_eq_false, hh, am_hd]
      refine am_go [] 3 ?_
      simp only [am_wp, am_stp, am_en, am_as, am_pad, am_nth, am_set, am_st1, am_st2, am_kl, am_kill, am_mem, am_fv, am_tk, am_wt, am_bk, Option.toList, List.cons_append, List.nil_append, Nat.reduceAdd, Nat.reduceEqDiff, Nat.reduceLeDiff, reduceIte, Nat.reduceLT, or_self, true_or, or_true, if_true, if_false, and_self, and_true, true_and, not_false_eq_true, not_true_eq_false, fd_La_many_21, fd_La_many_23, fd_La_many_24, w1.1.all]
      exact ⟨⟨_, rfl⟩, g1, w1, Or.inl rfl⟩
theorem wy_flush {d P : Nat} {h : am_H} (w : wk P h) (k8 : am_kd h 108 = 101) (l8 : am_ln h 108 = 1) : am_Rt nm_pr (d + 12) mi_La_flush [.ref 2, .ref 108] h (wy P h) := by
  have w := wp.refl w
  have hh : mt_La_flush.2.2 = [(0, 8, 11, 0)] := rfl
  have i0 : ¬ ((0 : Int32) < 0 ∨ 1 ≤ (0 : Int32).toNatClampNeg) := by decide
  have c0 : (0 : Int32).toNatClampNeg = 0 := by decide
  refine am_in' (d := d + 11) mt_La_flush 3 rfl rfl rfl ?_
  refine am_go [] 4 ?_
  simp only [am_wp, am_stp, am_en, am_as, am_pad, am_nth, am_set, am_st1, am_st2, am_kl, am_kill, am_mem, am_fv, am_tk, am_wt, am_bk, Option.toList, List.cons_append, List.nil_append, Nat.reduceAdd, Nat.reduceEqDiff, Nat.reduceLeDiff, reduceIte, Nat.reduceLT, or_self, true_or, or_true, if_true, if_false, and_self, and_true, true_and, not_false_eq_true, not_true_eq_false, fd_La_flush_0, fd_La_flush_1, fd_La_flush_2, fd_La_flush_3, w.1.all]
  refine am_call (ww_flush (d := d + 4) w.1) (fun o g1 q => ?_)
  obtain ⟨q, w1⟩ := q
  have w1 := w1.mono (l := 256) (by omega)
  obtain ⟨f1, f2, -⟩ := w1.2.1 108 (Or.inr (by omega))
  have k9 := f1.trans k8
  have l9 := f2.trans l8
  rcases q with ⟨x, rfl⟩ | ⟨c, a, hc, rfl⟩
  · simp only [am_wp, am_stp, am_en, am_as, am_pad, am_nth, am_set, am_st1, am_st2, am_kl, am_kill, am_mem, am_fv, am_tk, am_wt, am_bk, Option.toList, List.cons_append, List.nil_append, Nat.reduceAdd, Nat.reduceEqDiff, Nat.reduceLeDiff, reduceIte, Nat.reduceLT, or_self, true_or, or_true, if_true, if_false, and_self, and_true, true_and, not_false_eq_true, not_true_eq_false]
    refine am_go [] 5 ?_
    simp only [am_wp, am_stp, am_en, am_as, am_pad, am_nth, am_set, am_st1, am_st2, am_kl, am_kill, am_mem, am_fv, am_tk, am_wt, am_bk, Option.toList, List.cons_append, List.nil_append, Nat.reduceAdd, Nat.reduceEqDiff, Nat.reduceLeDiff, reduceIte, Nat.reduceLT, or_self, true_or, or_true, if_true, if_false, and_self, and_true, true_and, not_false_eq_true, not_true_eq_false, fd_La_flush_6, fd_La_flush_7, fd_La_flush_8, fd_La_flush_14, fd_La_flush_15, w1.1.all, k9, l9, i0, c0]
    exact ⟨⟨_, rfl⟩, g1, w1, Or.inr ⟨_, rfl⟩⟩
  · simp only [List.mem_cons, List.not_mem_nil, or_false] at hc
    rcases hc with rfl
    · simp only [am_wp, am_stp, am_en, am_as, am_pad, am_nth, am_set, am_st1, am_st2, am_kl, am_kill, am_mem, am_fv, am_tk, am_wt, am_bk, Option.toList, List.cons_append, List.nil_append, Nat.reduceAdd, Nat.reduceEqDiff, Nat.reduceLeDiff, reduceIte, Nat.reduceLT, or_self, true_or, or_true, if_true, if_false, and_self, and_true, true_and, not_false_eq_true, not_true_eq_false, hh, am_hd]
      refine am_go [] 3 ?_
      simp only [am_wp, am_stp, am_en, am_as, am_pad, am_nth, am_set, am_st1, am_st2, am_kl, am_kill, am_mem, am_fv, am_tk, am_wt, am_bk, Option.toList, List.cons_append, List.nil_append, Nat.reduceAdd, Nat.reduceEqDiff, Nat.reduceLeDiff, reduceIte, Nat.reduceLT, or_self, true_or, or_true, if_true, if_false, and_self, and_true, true_and, not_false_eq_true, not_true_eq_false, fd_La_flush_11, fd_La_flush_12, fd_La_flush_13, w1.1.all]
      exact ⟨⟨_, rfl⟩, g1, w1, Or.inl rfl⟩
theorem wy_merge {d P : Nat} {h : am_H} (w : wk P h) (k8 : am_kd h 108 = 101) (l8 : am_ln h 108 = 1) : am_Rt nm_pr (d + 12) mi_La_merge [.ref 2, .ref 108] h (wy P h) := by
  have w := wp.refl w
  have hh : mt_La_merge.2.2 = [(0, 8, 11, 0)] := rfl
  have i0 : ¬ ((0 : Int32) < 0 ∨ 1 ≤ (0 : Int32).toNatClampNeg) := by decide
  have c0 : (0 : Int32).toNatClampNeg = 0 := by decide
  refine am_in' (d := d + 11) mt_La_merge 3 rfl rfl rfl ?_
  refine am_go [] 4 ?_
  simp only [am_wp, am_stp, am_en, am_as, am_pad, am_nth, am_set, am_st1, am_st2, am_kl, am_kill, am_mem, am_fv, am_tk, am_wt, am_bk, Option.toList, List.cons_append, List.nil_append, Nat.reduceAdd, Nat.reduceEqDiff, Nat.reduceLeDiff, reduceIte, Nat.reduceLT, or_self, true_or, or_true, if_true, if_false, and_self, and_true, true_and, not_false_eq_true, not_true_eq_false, fd_La_merge_0, fd_La_merge_1, fd_La_merge_2, fd_La_merge_3, w.1.all]
  refine am_call (ww_merge (d := d + 3) w.1) (fun o g1 q => ?_)
  obtain ⟨q, w1⟩ := q
  have w1 := w1.mono (l := 256) (by omega)
  obtain ⟨f1, f2, -⟩ := w1.2.1 108 (Or.inr (by omega))
  have k9 := f1.trans k8
  have l9 := f2.trans l8
  rcases q with ⟨x, rfl⟩ | ⟨c, a, hc, rfl⟩
  · simp only [am_wp, am_stp, am_en, am_as, am_pad, am_nth, am_set, am_st1, am_st2, am_kl, am_kill, am_mem, am_fv, am_tk, am_wt, am_bk, Option.toList, List.cons_append, List.nil_append, Nat.reduceAdd, Nat.reduceEqDiff, Nat.reduceLeDiff, reduceIte, Nat.reduceLT, or_self, true_or, or_true, if_true, if_false, and_self, and_true, true_and, not_false_eq_true, not_true_eq_false]
    refine am_go [] 5 ?_
    simp only [am_wp, am_stp, am_en, am_as, am_pad, am_nth, am_set, am_st1, am_st2, am_kl, am_kill, am_mem, am_fv, am_tk, am_wt, am_bk, Option.toList, List.cons_append, List.nil_append, Nat.reduceAdd, Nat.reduceEqDiff, Nat.reduceLeDiff, reduceIte, Nat.reduceLT, or_self, true_or, or_true, if_true, if_false, and_self, and_true, true_and, not_false_eq_true, not_true_eq_false, fd_La_merge_6, fd_La_merge_7, fd_La_merge_8, fd_La_merge_14, fd_La_merge_15, w1.1.all, k9, l9, i0, c0]
    exact ⟨⟨_, rfl⟩, g1, w1, Or.inr ⟨_, rfl⟩⟩
  · simp only [List.mem_cons, List.not_mem_nil, or_false] at hc
    rcases hc with rfl
    · simp only [am_wp, am_stp, am_en, am_as, am_pad, am_nth, am_set, am_st1, am_st2, am_kl, am_kill, am_mem, am_fv, am_tk, am_wt, am_bk, Option.toList, List.cons_append, List.nil_append, Nat.reduceAdd, Nat.reduceEqDiff, Nat.reduceLeDiff, reduceIte, Nat.reduceLT, or_self, true_or, or_true, if_true, if_false, and_self, and_true, true_and, not_false_eq_true, not_true_eq_false, hh, am_hd]
      refine am_go [] 3 ?_
      simp only [am_wp, am_stp, am_en, am_as, am_pad, am_nth, am_set, am_st1, am_st2, am_kl, am_kill, am_mem, am_fv, am_tk, am_wt, am_bk, Option.toList, List.cons_append, List.nil_append, Nat.reduceAdd, Nat.reduceEqDiff, Nat.reduceLeDiff, reduceIte, Nat.reduceLT, or_self, true_or, or_true, if_true, if_false, and_self, and_true, true_and, not_false_eq_true, not_true_eq_false, fd_La_merge_11, fd_La_merge_12, fd_La_merge_13, w1.1.all]
      exact ⟨⟨_, rfl⟩, g1, w1, Or.inl rfl⟩
theorem wy_mark {d P : Nat} {h : am_H} (w : wk P h) (k8 : am_kd h 108 = 101) (l8 : am_ln h 108 = 1) : am_Rt nm_pr (d + 12) mi_La_mark [.ref 2, .ref 108] h (wy P h) := by
  have w := wp.refl w
  have hh : mt_La_mark.2.2 = [(0, 8, 11, 0)] := rfl
  have i0 : ¬ ((0 : Int32) < 0 ∨ 1 ≤ (0 : Int32).toNatClampNeg) := by decide
  have c0 : (0 : Int32).toNatClampNeg = 0 := by decide
  refine am_in' (d := d + 11) mt_La_mark 3 rfl rfl rfl ?_
  refine am_go [] 4 ?_
  simp only [am_wp, am_stp, am_en, am_as, am_pad, am_nth, am_set, am_st1, am_st2, am_kl, am_kill, am_mem, am_fv, am_tk, am_wt, am_bk, Option.toList, List.cons_append, List.nil_append, Nat.reduceAdd, Nat.reduceEqDiff, Nat.reduceLeDiff, reduceIte, Nat.reduceLT, or_self, true_or, or_true, if_true, if_false, and_self, and_true, true_and, not_false_eq_true, not_true_eq_false, fd_La_mark_0, fd_La_mark_1, fd_La_mark_2, fd_La_mark_3, w.1.all]
  refine am_call (ww_mark (d := d + 4) w.1) (fun o g1 q => ?_)
  obtain ⟨q, w1⟩ := q
  have w1 := w1.mono (l := 256) (by omega)
  obtain ⟨f1, f2, -⟩ := w1.2.1 108 (Or.inr (by omega))
  have k9 := f1.trans k8
  have l9 := f2.trans l8
  rcases q with ⟨x, rfl⟩ | ⟨c, a, hc, rfl⟩
  · simp only [am_wp, am_stp, am_en, am_as, am_pad, am_nth, am_set, am_st1, am_st2, am_kl, am_kill, am_mem, am_fv, am_tk, am_wt, am_bk, Option.toList, List.cons_append, List.nil_append, Nat.reduceAdd, Nat.reduceEqDiff, Nat.reduceLeDiff, reduceIte, Nat.reduceLT, or_self, true_or, or_true, if_true, if_false, and_self, and_true, true_and, not_false_eq_true, not_true_eq_false]
    refine am_go [] 5 ?_
    simp only [am_wp, am_stp, am_en, am_as, am_pad, am_nth, am_set, am_st1, am_st2, am_kl, am_kill, am_mem, am_fv, am_tk, am_wt, am_bk, Option.toList, List.cons_append, List.nil_append, Nat.reduceAdd, Nat.reduceEqDiff, Nat.reduceLeDiff, reduceIte, Nat.reduceLT, or_self, true_or, or_true, if_true, if_false, and_self, and_true, true_and, not_false_eq_true, not_true_eq_false, fd_La_mark_6, fd_La_mark_7, fd_La_mark_8, fd_La_mark_14, fd_La_mark_15, w1.1.all, k9, l9, i0, c0]
    exact ⟨⟨_, rfl⟩, g1, w1, Or.inr ⟨_, rfl⟩⟩
  · simp only [List.mem_cons, List.not_mem_nil, or_false] at hc
    rcases hc with rfl
    · simp only [am_wp, am_stp, am_en, am_as, am_pad, am_nth, am_set, am_st1, am_st2, am_kl, am_kill, am_mem, am_fv, am_tk, am_wt, am_bk, Option.toList, List.cons_append, List.nil_append, Nat.reduceAdd, Nat.reduceEqDiff, Nat.reduceLeDiff, reduceIte, Nat.reduceLT, or_self, true_or, or_true, if_true, if_false, and_self, and_true, true_and, not_false_eq_true, not_true_eq_false, hh, am_hd]
      refine am_go [] 3 ?_
      simp only [am_wp, am_stp, am_en, am_as, am_pad, am_nth, am_set, am_st1, am_st2, am_kl, am_kill, am_mem, am_fv, am_tk, am_wt, am_bk, Option.toList, List.cons_append, List.nil_append, Nat.reduceAdd, Nat.reduceEqDiff, Nat.reduceLeDiff, reduceIte, Nat.reduceLT, or_self, true_or, or_true, if_true, if_false, and_self, and_true, true_and, not_false_eq_true, not_true_eq_false, fd_La_mark_11, fd_La_mark_12, fd_La_mark_13, w1.1.all]
      exact ⟨⟨_, rfl⟩, g1, w1, Or.inl rfl⟩
theorem wy_release {d P : Nat} {a0 : Int32} {h : am_H} (w : wk P h) (k8 : am_kd h 108 = 101) (l8 : am_ln h 108 = 1) : am_Rt nm_pr (d + 12) mi_La_release [.ref 2, .int a0, .ref 108] h (wy P h) := by
  have w := wp.refl w
  have hh : mt_La_release.2.2 = [(0, 9, 12, 0), (0, 9, 15, 2)] := rfl
  have i0 : ¬ ((0 : Int32) < 0 ∨ 1 ≤ (0 : Int32).toNatClampNeg) := by decide
  have c0 : (0 : Int32).toNatClampNeg = 0 := by decide
  refine am_in' (d := d + 11) mt_La_release 4 rfl rfl rfl ?_
  refine am_go [] 5 ?_
  simp only [am_wp, am_stp, am_en, am_as, am_pad, am_nth, am_set, am_st1, am_st2, am_kl, am_kill, am_mem, am_fv, am_tk, am_wt, am_bk, Option.toList, List.cons_append, List.nil_append, Nat.reduceAdd, Nat.reduceEqDiff, Nat.reduceLeDiff, reduceIte, Nat.reduceLT, or_self, true_or, or_true, if_true, if_false, and_self, and_true, true_and, not_false_eq_true, not_true_eq_false, fd_La_release_0, fd_La_release_1, fd_La_release_2, fd_La_release_3, fd_La_release_4, w.1.all]
  refine am_call (ww_release (d := d + 7) w.1) (fun o g1 q => ?_)
  obtain ⟨q, w1⟩ := q
  have w1 := w1.mono (l := 256) (by omega)
  obtain ⟨f1, f2, -⟩ := w1.2.1 108 (Or.inr (by omega))
  have k9 := f1.trans k8
  have l9 := f2.trans l8
  rcases q with ⟨x, rfl⟩ | ⟨c, a, hc, rfl⟩
  · simp only [am_wp, am_stp, am_en, am_as, am_pad, am_nth, am_set, am_st1, am_st2, am_kl, am_kill, am_mem, am_fv, am_tk, am_wt, am_bk, Option.toList, List.cons_append, List.nil_append, Nat.reduceAdd, Nat.reduceEqDiff, Nat.reduceLeDiff, reduceIte, Nat.reduceLT, or_self, true_or, or_true, if_true, if_false, and_self, and_true, true_and, not_false_eq_true, not_true_eq_false]
    refine am_go [] 5 ?_
    simp only [am_wp, am_stp, am_en, am_as, am_pad, am_nth, am_set, am_st1, am_st2, am_kl, am_kill, am_mem, am_fv, am_tk, am_wt, am_bk, Option.toList, List.cons_append, List.nil_append, Nat.reduceAdd, Nat.reduceEqDiff, Nat.reduceLeDiff, reduceIte, Nat.reduceLT, or_self, true_or, or_true, if_true, if_false, and_self, and_true, true_and, not_false_eq_true, not_true_eq_false, fd_La_release_7, fd_La_release_8, fd_La_release_9, fd_La_release_18, fd_La_release_19, w1.1.all, k9, l9, i0, c0]
    exact ⟨⟨_, rfl⟩, g1, w1, Or.inr ⟨_, rfl⟩⟩
  · simp only [List.mem_cons, List.not_mem_nil, or_false] at hc
    rcases hc with rfl | rfl
    · simp only [am_wp, am_stp, am_en, am_as, am_pad, am_nth, am_set, am_st1, am_st2, am_kl, am_kill, am_mem, am_fv, am_tk, am_wt, am_bk, Option.toList, List.cons_append, List.nil_append, Nat.reduceAdd, Nat.reduceEqDiff, Nat.reduceLeDiff, reduceIte, Nat.reduceLT, or_self, true_or, or_true, if_true, if_false, and_self, and_true, true_and, not_false_eq_true, not_true_eq_false, hh, am_hd]
      refine am_go [] 3 ?_
      simp only [am_wp, am_stp, am_en, am_as, am_pad, am_nth, am_set, am_st1, am_st2, am_kl, am_kill, am_mem, am_fv, am_tk, am_wt, am_bk, Option.toList, List.cons_append, List.nil_append, Nat.reduceAdd, Nat.reduceEqDiff, Nat.reduceLeDiff, reduceIte, Nat.reduceLT, or_self, true_or, or_true, if_true, if_false, and_self, and_true, true_and, not_false_eq_true, not_true_eq_false, fd_La_release_12, fd_La_release_13, fd_La_release_14, w1.1.all]
      exact ⟨⟨_, rfl⟩, g1, w1, Or.inl rfl⟩
    · simp only [am_wp, am_stp, am_en, am_as, am_pad, am_nth, am_set, am_st1, am_st2, am_kl, am_kill, am_mem, am_fv, am_tk, am_wt, am_bk, Option.toList, List.cons_append, List.nil_append, Nat.reduceAdd, Nat.reduceEqDiff, Nat.reduceLeDiff, reduceIte, Nat.reduceLT, or_self, true_or, or_true, if_true, if_false, and_self, and_true, true_and, not_false_eq_true, not_true_eq_false, hh, am_hd]
      refine am_go [] 3 ?_
      simp only [am_wp, am_stp, am_en, am_as, am_pad, am_nth, am_set, am_st1, am_st2, am_kl, am_kill, am_mem, am_fv, am_tk, am_wt, am_bk, Option.toList, List.cons_append, List.nil_append, Nat.reduceAdd, Nat.reduceEqDiff, Nat.reduceLeDiff, reduceIte, Nat.reduceLT, or_self, true_or, or_true, if_true, if_false, and_self, and_true, true_and, not_false_eq_true, not_true_eq_false, fd_La_release_15, fd_La_release_16, fd_La_release_17, w1.1.all]
      exact ⟨⟨_, rfl⟩, g1, w1, Or.inl rfl⟩
theorem wy_get {d P : Nat} {a0 : Int32} {a1 : Int64} {h : am_H} (w : wk P h) (k8 : am_kd h 108 = 101) (l8 : am_ln h 108 = 1) : am_Rt nm_pr (d + 12) mi_La_get [.ref 2, .int a0, .long a1, .ref 108] h (wy P h) := by
  have w := wp.refl w
  have hh : mt_La_get.2.2 = [(0, 10, 13, 0), (0, 10, 17, 2)] := rfl
  have i0 : ¬ ((0 : Int32) < 0 ∨ 1 ≤ (0 : Int32).toNatClampNeg) := by decide
  have c0 : (0 : Int32).toNatClampNeg = 0 := by decide
  refine am_in' (d := d + 11) mt_La_get 6 rfl rfl rfl ?_
  refine am_go [] 6 ?_
  simp only [am_wp, am_stp, am_en, am_as, am_pad, am_nth, am_set, am_st1, am_st2, am_kl, am_kill, am_mem, am_fv, am_tk, am_wt, am_bk, Option.toList, List.cons_append, List.nil_append, Nat.reduceAdd, Nat.reduceEqDiff, Nat.reduceLeDiff, reduceIte, Nat.reduceLT, or_self, true_or, or_true, if_true, if_false, and_self, and_true, true_and, not_false_eq_true, not_true_eq_false, fd_La_get_0, fd_La_get_2, fd_La_get_3, fd_La_get_4, fd_La_get_5, fd_La_get_6, w.1.all]
  refine am_call (ww_get (d := d + 5) w.1) (fun o g1 q => ?_)
  obtain ⟨q, w1⟩ := q
  have w1 := w1.mono (l := 256) (by omega)
  obtain ⟨f1, f2, -⟩ := w1.2.1 108 (Or.inr (by omega))
  have k9 := f1.trans k8
  have l9 := f2.trans l8
  rcases q with ⟨x, rfl⟩ | ⟨c, a, hc, rfl⟩
  · simp only [am_wp, am_stp, am_en, am_as, am_pad, am_nth, am_set, am_st1, am_st2, am_kl, am_kill, am_mem, am_fv, am_tk, am_wt, am_bk, Option.toList, List.cons_append, List.nil_append, Nat.reduceAdd, Nat.reduceEqDiff, Nat.reduceLeDiff, reduceIte, Nat.reduceLT, or_self, true_or, or_true, if_true, if_false, and_self, and_true, true_and, not_false_eq_true, not_true_eq_false]
    refine am_go [] 4 ?_
    simp only [am_wp, am_stp, am_en, am_as, am_pad, am_nth, am_set, am_st1, am_st2, am_kl, am_kill, am_mem, am_fv, am_tk, am_wt, am_bk, Option.toList, List.cons_append, List.nil_append, Nat.reduceAdd, Nat.reduceEqDiff, Nat.reduceLeDiff, reduceIte, Nat.reduceLT, or_self, true_or, or_true, if_true, if_false, and_self, and_true, true_and, not_false_eq_true, not_true_eq_false, fd_La_get_9, fd_La_get_10, fd_La_get_21, fd_La_get_22, w1.1.all, k9, l9, i0, c0]
    exact ⟨⟨_, rfl⟩, g1, w1, Or.inr ⟨_, rfl⟩⟩
  · simp only [List.mem_cons, List.not_mem_nil, or_false] at hc
    rcases hc with rfl | rfl
    · simp only [am_wp, am_stp, am_en, am_as, am_pad, am_nth, am_set, am_st1, am_st2, am_kl, am_kill, am_mem, am_fv, am_tk, am_wt, am_bk, Option.toList, List.cons_append, List.nil_append, Nat.reduceAdd, Nat.reduceEqDiff, Nat.reduceLeDiff, reduceIte, Nat.reduceLT, or_self, true_or, or_true, if_true, if_false, and_self, and_true, true_and, not_false_eq_true, not_true_eq_false, hh, am_hd]
      refine am_go [] 3 ?_
      simp only [am_wp, am_stp, am_en, am_as, am_pad, am_nth, am_set, am_st1, am_st2, am_kl, am_kill, am_mem, am_fv, am_tk, am_wt, am_bk, Option.toList, List.cons_append, List.nil_append, Nat.reduceAdd, Nat.reduceEqDiff, Nat.reduceLeDiff, reduceIte, Nat.reduceLT, or_self, true_or, or_true, if_true, if_false, and_self, and_true, true_and, not_false_eq_true, not_true_eq_false, fd_La_get_13, fd_La_get_15, fd_La_get_16, w1.1.all]
      exact ⟨⟨_, rfl⟩, g1, w1, Or.inl rfl⟩
    · simp only [am_wp, am_stp, am_en, am_as, am_pad, am_nth, am_set, am_st1, am_st2, am_kl, am_kill, am_mem, am_fv, am_tk, am_wt, am_bk, Option.toList, List.cons_append, List.nil_append, Nat.reduceAdd, Nat.reduceEqDiff, Nat.reduceLeDiff, reduceIte, Nat.reduceLT, or_self, true_or, or_true, if_true, if_false, and_self, and_true, true_and, not_false_eq_true, not_true_eq_false, hh, am_hd]
      refine am_go [] 3 ?_
      simp only [am_wp, am_stp, am_en, am_as, am_pad, am_nth, am_set, am_st1, am_st2, am_kl, am_kill, am_mem, am_fv, am_tk, am_wt, am_bk, Option.toList, List.cons_append, List.nil_append, Nat.reduceAdd, Nat.reduceEqDiff, Nat.reduceLeDiff, reduceIte, Nat.reduceLT, or_self, true_or, or_true, if_true, if_false, and_self, and_true, true_and, not_false_eq_true, not_true_eq_false, fd_La_get_17, fd_La_get_19, fd_La_get_20, w1.1.all]
      exact ⟨⟨_, rfl⟩, g1, w1, Or.inl rfl⟩
theorem wy_range {d P : Nat} {a0 : Int32} {a1 a2 : Int64} {h : am_H} (w : wk P h) (k8 : am_kd h 108 = 101) (l8 : am_ln h 108 = 1) : am_Rt nm_pr (d + 12) mi_La_range [.ref 2, .int a0, .long a1, .long a2, .ref 108] h (wy P h) := by
  have w := wp.refl w
  have hh : mt_La_range.2.2 = [(0, 13, 16, 0), (0, 13, 20, 2), (0, 13, 24, 1)] := rfl
  have i0 : ¬ ((0 : Int32) < 0 ∨ 1 ≤ (0 : Int32).toNatClampNeg) := by decide
  have c0 : (0 : Int32).toNatClampNeg = 0 := by decide
  refine am_in' (d := d + 11) mt_La_range 8 rfl rfl rfl ?_
  refine am_go [] 7 ?_
  simp only [am_wp, am_stp, am_en, am_as, am_pad, am_nth, am_set, am_st1, am_st2, am_kl, am_kill, am_mem, am_fv, am_tk, am_wt, am_bk, Option.toList, List.cons_append, List.nil_append, Nat.reduceAdd, Nat.reduceEqDiff, Nat.reduceLeDiff, reduceIte, Nat.reduceLT, or_self, true_or, or_true, if_true, if_false, and_self, and_true, true_and, not_false_eq_true, not_true_eq_false, fd_La_range_0, fd_La_range_2, fd_La_range_3, fd_La_range_4, fd_La_range_5, fd_La_range_6, fd_La_range_8, w.1.all]
  refine am_call (ww_range (d := d + 5) w.1) (fun o g1 q => ?_)
  obtain ⟨q, w1⟩ := q
  have w1 := w1.mono (l := 256) (by omega)
  obtain ⟨f1, f2, -⟩ := w1.2.1 108 (Or.inr (by omega))
  have k9 := f1.trans k8
  have l9 := f2.trans l8
  rcases q with ⟨x, rfl⟩ | ⟨c, a, hc, rfl⟩
  · simp only [am_wp, am_stp, am_en, am_as, am_pad, am_nth, am_set, am_st1, am_st2, am_kl, am_kill, am_mem, am_fv, am_tk, am_wt, am_bk, Option.toList, List.cons_append, List.nil_append, Nat.reduceAdd, Nat.reduceEqDiff, Nat.reduceLeDiff, reduceIte, Nat.reduceLT, or_self, true_or, or_true, if_true, if_false, and_self, and_true, true_and, not_false_eq_true, not_true_eq_false]
    refine am_go [] 5 ?_
    simp only [am_wp, am_stp, am_en, am_as, am_pad, am_nth, am_set, am_st1, am_st2, am_kl, am_kill, am_mem, am_fv, am_tk, am_wt, am_bk, Option.toList, List.cons_append, List.nil_append, Nat.reduceAdd, Nat.reduceEqDiff, Nat.reduceLeDiff, reduceIte, Nat.reduceLT, or_self, true_or, or_true, if_true, if_false, and_self, and_true, true_and, not_false_eq_true, not_true_eq_false, fd_La_range_11, fd_La_range_12, fd_La_range_13, fd_La_range_28, fd_La_range_29, w1.1.all, k9, l9, i0, c0]
    exact ⟨⟨_, rfl⟩, g1, w1, Or.inr ⟨_, rfl⟩⟩
  · simp only [List.mem_cons, List.not_mem_nil, or_false] at hc
    rcases hc with rfl | rfl | rfl
    · simp only [am_wp, am_stp, am_en, am_as, am_pad, am_nth, am_set, am_st1, am_st2, am_kl, am_kill, am_mem, am_fv, am_tk, am_wt, am_bk, Option.toList, List.cons_append, List.nil_append, Nat.reduceAdd, Nat.reduceEqDiff, Nat.reduceLeDiff, reduceIte, Nat.reduceLT, or_self, true_or, or_true, if_true, if_false, and_self, and_true, true_and, not_false_eq_true, not_true_eq_false, hh, am_hd]
      refine am_go [] 3 ?_
      simp only [am_wp, am_stp, am_en, am_as, am_pad, am_nth, am_set, am_st1, am_st2, am_kl, am_kill, am_mem, am_fv, am_tk, am_wt, am_bk, Option.toList, List.cons_append, List.nil_append, Nat.reduceAdd, Nat.reduceEqDiff, Nat.reduceLeDiff, reduceIte, Nat.reduceLT, or_self, true_or, or_true, if_true, if_false, and_self, and_true, true_and, not_false_eq_true, not_true_eq_false, fd_La_range_16, fd_La_range_18, fd_La_range_19, w1.1.all]
      exact ⟨⟨_, rfl⟩, g1, w1, Or.inl rfl⟩
    · simp only [am_wp, am_stp, am_en, am_as, am_pad, am_nth, am_set, am_st1, am_st2, am_kl, am_kill, am_mem, am_fv, am_tk, am_wt, am_bk, Option.toList, List.cons_append, List.nil_append, Nat.reduceAdd, Nat.reduceEqDiff, Nat.reduceLeDiff, reduceIte, Nat.reduceLT, or_self, true_or, or_true, if_true, if_false, and_self, and_true, true_and, not_false_eq_true, not_true_eq_false, hh, am_hd]
      refine am_go [] 3 ?_
      simp only [am_wp, am_stp, am_en, am_as, am_pad, am_nth, am_set, am_st1, am_st2, am_kl, am_kill, am_mem, am_fv, am_tk, am_wt, am_bk, Option.toList, List.cons_append, List.nil_append, Nat.reduceAdd, Nat.reduceEqDiff, Nat.reduceLeDiff, reduceIte, Nat.reduceLT, or_self, true_or, or_true, if_true, if_false, and_self, and_true, true_and, not_false_eq_true, not_true_eq_false, fd_La_range_24, fd_La_range_26, fd_La_range_27, w1.1.all]
      exact ⟨⟨_, rfl⟩, g1, w1, Or.inl rfl⟩
    · simp only [am_wp, am_stp, am_en, am_as, am_pad, am_nth, am_set, am_st1, am_st2, am_kl, am_kill, am_mem, am_fv, am_tk, am_wt, am_bk, Option.toList, List.cons_append, List.nil_append, Nat.reduceAdd, Nat.reduceEqDiff, Nat.reduceLeDiff, reduceIte, Nat.reduceLT, or_self, true_or, or_true, if_true, if_false, and_self, and_true, true_and, not_false_eq_true, not_true_eq_false, hh, am_hd]
      refine am_go [] 3 ?_
      simp only [am_wp, am_stp, am_en, am_as, am_pad, am_nth, am_set, am_st1, am_st2, am_kl, am_kill, am_mem, am_fv, am_tk, am_wt, am_bk, Option.toList, List.cons_append, List.nil_append, Nat.reduceAdd, Nat.reduceEqDiff, Nat.reduceLeDiff, reduceIte, Nat.reduceLT, or_self, true_or, or_true, if_true, if_false, and_self, and_true, true_and, not_false_eq_true, not_true_eq_false, fd_La_range_20, fd_La_range_22, fd_La_range_23, w1.1.all]
      exact ⟨⟨_, rfl⟩, g1, w1, Or.inl rfl⟩
theorem wy_at {d P : Nat} {a0 a1 : Int32} {h : am_H} (w : wk P h) (k8 : am_kd h 108 = 101) (l8 : am_ln h 108 = 1) : am_Rt nm_pr (d + 12) mi_La_at [.ref 2, .int a0, .int a1, .ref 108] h (wy P h) := by
  have w := wp.refl w
  have hh : mt_La_at.2.2 = [(0, 9, 12, 2)] := rfl
  have i0 : ¬ ((0 : Int32) < 0 ∨ 1 ≤ (0 : Int32).toNatClampNeg) := by decide
  have c0 : (0 : Int32).toNatClampNeg = 0 := by decide
  refine am_in' (d := d + 11) mt_La_at 5 rfl rfl rfl ?_
  refine am_go [] 6 ?_
  simp only [am_wp, am_stp, am_en, am_as, am_pad, am_nth, am_set, am_st1, am_st2, am_kl, am_kill, am_mem, am_fv, am_tk, am_wt, am_bk, Option.toList, List.cons_append, List.nil_append, Nat.reduceAdd, Nat.reduceEqDiff, Nat.reduceLeDiff, reduceIte, Nat.reduceLT, or_self, true_or, or_true, if_true, if_false, and_self, and_true, true_and, not_false_eq_true, not_true_eq_false, fd_La_at_0, fd_La_at_1, fd_La_at_2, fd_La_at_3, fd_La_at_4, fd_La_at_5, w.1.all]
  refine am_call (ww_at (d := d + 10) w.1) (fun o g1 q => ?_)
  obtain ⟨q, w1⟩ := q
  have w1 := w1.mono (l := 256) (by omega)
  obtain ⟨f1, f2, -⟩ := w1.2.1 108 (Or.inr (by omega))
  have k9 := f1.trans k8
  have l9 := f2.trans l8
  rcases q with ⟨x, rfl⟩ | ⟨c, a, hc, rfl⟩
  · simp only [am_wp, am_stp, am_en, am_as, am_pad, am_nth, am_set, am_st1, am_st2, am_kl, am_kill, am_mem, am_fv, am_tk, am_wt, am_bk, Option.toList, List.cons_append, List.nil_append, Nat.reduceAdd, Nat.reduceEqDiff, Nat.reduceLeDiff, reduceIte, Nat.reduceLT, or_self, true_or, or_true, if_true, if_false, and_self, and_true, true_and, not_false_eq_true, not_true_eq_false]
    refine am_go [] 4 ?_
    simp only [am_wp, am_stp, am_en, am_as, am_pad, am_nth, am_set, am_st1, am_st2, am_kl, am_kill, am_mem, am_fv, am_tk, am_wt, am_bk, Option.toList, List.cons_append, List.nil_append, Nat.reduceAdd, Nat.reduceEqDiff, Nat.reduceLeDiff, reduceIte, Nat.reduceLT, or_self, true_or, or_true, if_true, if_false, and_self, and_true, true_and, not_false_eq_true, not_true_eq_false, fd_La_at_8, fd_La_at_9, fd_La_at_16, fd_La_at_17, w1.1.all, k9, l9, i0, c0]
    exact ⟨⟨_, rfl⟩, g1, w1, Or.inr ⟨_, rfl⟩⟩
  · simp only [List.mem_cons, List.not_mem_nil, or_false] at hc
    rcases hc with rfl
    · simp only [am_wp, am_stp, am_en, am_as, am_pad, am_nth, am_set, am_st1, am_st2, am_kl, am_kill, am_mem, am_fv, am_tk, am_wt, am_bk, Option.toList, List.cons_append, List.nil_append, Nat.reduceAdd, Nat.reduceEqDiff, Nat.reduceLeDiff, reduceIte, Nat.reduceLT, or_self, true_or, or_true, if_true, if_false, and_self, and_true, true_and, not_false_eq_true, not_true_eq_false, hh, am_hd]
      refine am_go [] 3 ?_
      simp only [am_wp, am_stp, am_en, am_as, am_pad, am_nth, am_set, am_st1, am_st2, am_kl, am_kill, am_mem, am_fv, am_tk, am_wt, am_bk, Option.toList, List.cons_append, List.nil_append, Nat.reduceAdd, Nat.reduceEqDiff, Nat.reduceLeDiff, reduceIte, Nat.reduceLT, or_self, true_or, or_true, if_true, if_false, and_self, and_true, true_and, not_false_eq_true, not_true_eq_false, fd_La_at_12, fd_La_at_14, fd_La_at_15, w1.1.all]
      exact ⟨⟨_, rfl⟩, g1, w1, Or.inl rfl⟩
theorem wy_run {d P : Nat} {a0 a1 : Int32} {h : am_H} (w : wk P h) (k8 : am_kd h 108 = 101) (l8 : am_ln h 108 = 1) : am_Rt nm_pr (d + 12) mi_La_run [.ref 2, .int a0, .int a1, .ref 108] h (wy P h) := by
  have w := wp.refl w
  have hh : mt_La_run.2.2 = [(0, 10, 13, 2)] := rfl
  have i0 : ¬ ((0 : Int32) < 0 ∨ 1 ≤ (0 : Int32).toNatClampNeg) := by decide
  have c0 : (0 : Int32).toNatClampNeg = 0 := by decide
  refine am_in' (d := d + 11) mt_La_run 5 rfl rfl rfl ?_
  refine am_go [] 6 ?_
  simp only [am_wp, am_stp, am_en, am_as, am_pad, am_nth, am_set, am_st1, am_st2, am_kl, am_kill, am_mem, am_fv, am_tk, am_wt, am_bk, Option.toList, List.cons_append, List.nil_append, Nat.reduceAdd, Nat.reduceEqDiff, Nat.reduceLeDiff, reduceIte, Nat.reduceLT, or_self, true_or, or_true, if_true, if_false, and_self, and_true, true_and, not_false_eq_true, not_true_eq_false, fd_La_run_0, fd_La_run_1, fd_La_run_2, fd_La_run_3, fd_La_run_4, fd_La_run_5, w.1.all]
  refine am_call (ww_run (d := d + 10) w.1) (fun o g1 q => ?_)
  obtain ⟨q, w1⟩ := q
  have w1 := w1.mono (l := 256) (by omega)
  obtain ⟨f1, f2, -⟩ := w1.2.1 108 (Or.inr (by omega))
  have k9 := f1.trans k8
  have l9 := f2.trans l8
  rcases q with ⟨x, rfl⟩ | ⟨c, a, hc, rfl⟩
  · simp only [am_wp, am_stp, am_en, am_as, am_pad, am_nth, am_set, am_st1, am_st2, am_kl, am_kill, am_mem, am_fv, am_tk, am_wt, am_bk, Option.toList, List.cons_append, List.nil_append, Nat.reduceAdd, Nat.reduceEqDiff, Nat.reduceLeDiff, reduceIte, Nat.reduceLT, or_self, true_or, or_true, if_true, if_false, and_self, and_true, true_and, not_false_eq_true, not_true_eq_false]
    refine am_go [] 5 ?_
    simp only [am_wp, am_stp, am_en, am_as, am_pad, am_nth, am_set, am_st1, am_st2, am_kl, am_kill, am_mem, am_fv, am_tk, am_wt, am_bk, Option.toList, List.cons_append, List.nil_append, Nat.reduceAdd, Nat.reduceEqDiff, Nat.reduceLeDiff, reduceIte, Nat.reduceLT, or_self, true_or, or_true, if_true, if_false, and_self, and_true, true_and, not_false_eq_true, not_true_eq_false, fd_La_run_8, fd_La_run_9, fd_La_run_10, fd_La_run_17, fd_La_run_18, w1.1.all, k9, l9, i0, c0]
    exact ⟨⟨_, rfl⟩, g1, w1, Or.inr ⟨_, rfl⟩⟩
  · simp only [List.mem_cons, List.not_mem_nil, or_false] at hc
    rcases hc with rfl
    · simp only [am_wp, am_stp, am_en, am_as, am_pad, am_nth, am_set, am_st1, am_st2, am_kl, am_kill, am_mem, am_fv, am_tk, am_wt, am_bk, Option.toList, List.cons_append, List.nil_append, Nat.reduceAdd, Nat.reduceEqDiff, Nat.reduceLeDiff, reduceIte, Nat.reduceLT, or_self, true_or, or_true, if_true, if_false, and_self, and_true, true_and, not_false_eq_true, not_true_eq_false, hh, am_hd]
      refine am_go [] 3 ?_
      simp only [am_wp, am_stp, am_en, am_as, am_pad, am_nth, am_set, am_st1, am_st2, am_kl, am_kill, am_mem, am_fv, am_tk, am_wt, am_bk, Option.toList, List.cons_append, List.nil_append, Nat.reduceAdd, Nat.reduceEqDiff, Nat.reduceLeDiff, reduceIte, Nat.reduceLT, or_self, true_or, or_true, if_true, if_false, and_self, and_true, true_and, not_false_eq_true, not_true_eq_false, fd_La_run_13, fd_La_run_15, fd_La_run_16, w1.1.all]
      exact ⟨⟨_, rfl⟩, g1, w1, Or.inl rfl⟩
theorem wy_hidden {d P : Nat} {a0 : Int64} {h : am_H} (w : wk P h) (k8 : am_kd h 108 = 101) (l8 : am_ln h 108 = 1) : am_Rt nm_pr (d + 12) mi_La_hidden [.ref 2, .long a0, .ref 108] h (wy P h) := by
  have w := wp.refl w
  have hh : mt_La_hidden.2.2 = [(0, 16, 19, 0)] := rfl
  have i0 : ¬ ((0 : Int32) < 0 ∨ 1 ≤ (0 : Int32).toNatClampNeg) := by decide
  have c0 : (0 : Int32).toNatClampNeg = 0 := by decide
  refine am_in' (d := d + 11) mt_La_hidden 5 rfl rfl rfl ?_
  refine am_go [] 5 ?_
  simp only [am_wp, am_stp, am_en, am_as, am_pad, am_nth, am_set, am_st1, am_st2, am_kl, am_kill, am_mem, am_fv, am_tk, am_wt, am_bk, Option.toList, List.cons_append, List.nil_append, Nat.reduceAdd, Nat.reduceEqDiff, Nat.reduceLeDiff, reduceIte, Nat.reduceLT, or_self, true_or, or_true, if_true, if_false, and_self, and_true, true_and, not_false_eq_true, not_true_eq_false, fd_La_hidden_0, fd_La_hidden_1, fd_La_hidden_2, fd_La_hidden_3, fd_La_hidden_4, w.1.all]
  refine am_call (ww_hidden (d := d + 8) w.1) (fun o g1 q => ?_)
  obtain ⟨q, w1⟩ := q
  have w1 := w1.mono (l := 256) (by omega)
  obtain ⟨f1, f2, -⟩ := w1.2.1 108 (Or.inr (by omega))
  have k9 := f1.trans k8
  have l9 := f2.trans l8
  rcases q with b | ⟨c, a, hc, rfl⟩
  · obtain ⟨x, rfl, -⟩ := b01_cases b
    simp only [am_wp, am_stp, am_en, am_as, am_pad, am_nth, am_set, am_st1, am_st2, am_kl, am_kill, am_mem, am_fv, am_tk, am_wt, am_bk, Option.toList, List.cons_append, List.nil_append, Nat.reduceAdd, Nat.reduceEqDiff, Nat.reduceLeDiff, reduceIte, Nat.reduceLT, or_self, true_or, or_true, if_true, if_false, and_self, and_true, true_and, not_false_eq_true, not_true_eq_false]
    refine am_go [10, 14] 1 ?_
    simp only [am_wp, am_stp, am_en, am_as, am_pad, am_nth, am_set, am_st1, am_st2, am_kl, am_kill, am_mem, am_fv, am_tk, am_wt, am_bk, Option.toList, List.cons_append, List.nil_append, Nat.reduceAdd, Nat.reduceEqDiff, Nat.reduceLeDiff, reduceIte, Nat.reduceLT, or_self, true_or, or_true, if_true, if_false, and_self, and_true, true_and, not_false_eq_true, not_true_eq_false, fd_La_hidden_7, w1.1.all]
    refine wif ?_ ?_
    · refine am_go [] 5 ?_
      simp only [am_wp, am_stp, am_en, am_as, am_pad, am_nth, am_set, am_st1, am_st2, am_kl, am_kill, am_mem, am_fv, am_tk, am_wt, am_bk, Option.toList, List.cons_append, List.nil_append, Nat.reduceAdd, Nat.reduceEqDiff, Nat.reduceLeDiff, reduceIte, Nat.reduceLT, or_self, true_or, or_true, if_true, if_false, and_self, and_true, true_and, not_false_eq_true, not_true_eq_false, fd_La_hidden_14, fd_La_hidden_15, fd_La_hidden_16, fd_La_hidden_23, fd_La_hidden_24, w1.1.all, k9, l9, i0, c0]
      exact ⟨⟨_, rfl⟩, g1, w1, Or.inr ⟨_, rfl⟩⟩
    · refine am_go [] 6 ?_
      simp only [am_wp, am_stp, am_en, am_as, am_pad, am_nth, am_set, am_st1, am_st2, am_kl, am_kill, am_mem, am_fv, am_tk, am_wt, am_bk, Option.toList, List.cons_append, List.nil_append, Nat.reduceAdd, Nat.reduceEqDiff, Nat.reduceLeDiff, reduceIte, Nat.reduceLT, or_self, true_or, or_true, if_true, if_false, and_self, and_true, true_and, not_false_eq_true, not_true_eq_false, fd_La_hidden_10, fd_La_hidden_11, fd_La_hidden_15, fd_La_hidden_16, fd_La_hidden_23, fd_La_hidden_24, w1.1.all, k9, l9, i0, c0]
      exact ⟨⟨_, rfl⟩, g1, w1, Or.inr ⟨_, rfl⟩⟩
  · simp only [List.mem_cons, List.not_mem_nil, or_false] at hc
    rcases hc with rfl
    · simp only [am_wp, am_stp, am_en, am_as, am_pad, am_nth, am_set, am_st1, am_st2, am_kl, am_kill, am_mem, am_fv, am_tk, am_wt, am_bk, Option.toList, List.cons_append, List.nil_append, Nat.reduceAdd, Nat.reduceEqDiff, Nat.reduceLeDiff, reduceIte, Nat.reduceLT, or_self, true_or, or_true, if_true, if_false, and_self, and_true, true_and, not_false_eq_true, not_true_eq_false, hh, am_hd]
      refine am_go [] 3 ?_
      simp only [am_wp, am_stp, am_en, am_as, am_pad, am_nth, am_set, am_st1, am_st2, am_kl, am_kill, am_mem, am_fv, am_tk, am_wt, am_bk, Option.toList, List.cons_append, List.nil_append, Nat.reduceAdd, Nat.reduceEqDiff, Nat.reduceLeDiff, reduceIte, Nat.reduceLT, or_self, true_or, or_true, if_true, if_false, and_self, and_true, true_and, not_false_eq_true, not_true_eq_false, fd_La_hidden_19, fd_La_hidden_21, fd_La_hidden_22, w1.1.all]
      exact ⟨⟨_, rfl⟩, g1, w1, Or.inl rfl⟩
theorem wy_octet {d P : Nat} {a0 a1 : Int32} {h : am_H} (w : wk P h) (k8 : am_kd h 108 = 101) (l8 : am_ln h 108 = 1) : am_Rt nm_pr (d + 12) mi_La_octet [.ref 2, .int a0, .int a1, .ref 108] h (wy P h) := by
  have w := wp.refl w
  have hh : mt_La_octet.2.2 = [(0, 10, 13, 2)] := rfl
  have i0 : ¬ ((0 : Int32) < 0 ∨ 1 ≤ (0 : Int32).toNatClampNeg) := by decide
  have c0 : (0 : Int32).toNatClampNeg = 0 := by decide
  refine am_in' (d := d + 11) mt_La_octet 5 rfl rfl rfl ?_
  refine am_go [] 6 ?_
  simp only [am_wp, am_stp, am_en, am_as, am_pad, am_nth, am_set, am_st1, am_st2, am_kl, am_kill, am_mem, am_fv, am_tk, am_wt, am_bk, Option.toList, List.cons_append, List.nil_append, Nat.reduceAdd, Nat.reduceEqDiff, Nat.reduceLeDiff, reduceIte, Nat.reduceLT, or_self, true_or, or_true, if_true, if_false, and_self, and_true, true_and, not_false_eq_true, not_true_eq_false, fd_La_octet_0, fd_La_octet_1, fd_La_octet_2, fd_La_octet_3, fd_La_octet_4, fd_La_octet_5, w.1.all]
  refine am_call (ww_octet (d := d + 8) w.1) (fun o g1 q => ?_)
  obtain ⟨q, w1⟩ := q
  have w1 := w1.mono (l := 256) (by omega)
  obtain ⟨f1, f2, -⟩ := w1.2.1 108 (Or.inr (by omega))
  have k9 := f1.trans k8
  have l9 := f2.trans l8
  rcases q with ⟨x, rfl⟩ | ⟨c, a, hc, rfl⟩
  · simp only [am_wp, am_stp, am_en, am_as, am_pad, am_nth, am_set, am_st1, am_st2, am_kl, am_kill, am_mem, am_fv, am_tk, am_wt, am_bk, Option.toList, List.cons_append, List.nil_append, Nat.reduceAdd, Nat.reduceEqDiff, Nat.reduceLeDiff, reduceIte, Nat.reduceLT, or_self, true_or, or_true, if_true, if_false, and_self, and_true, true_and, not_false_eq_true, not_true_eq_false]
    refine am_go [] 5 ?_
    simp only [am_wp, am_stp, am_en, am_as, am_pad, am_nth, am_set, am_st1, am_st2, am_kl, am_kill, am_mem, am_fv, am_tk, am_wt, am_bk, Option.toList, List.cons_append, List.nil_append, Nat.reduceAdd, Nat.reduceEqDiff, Nat.reduceLeDiff, reduceIte, Nat.reduceLT, or_self, true_or, or_true, if_true, if_false, and_self, and_true, true_and, not_false_eq_true, not_true_eq_false, fd_La_octet_8, fd_La_octet_9, fd_La_octet_10, fd_La_octet_17, fd_La_octet_18, w1.1.all, k9, l9, i0, c0]
    exact ⟨⟨_, rfl⟩, g1, w1, Or.inr ⟨_, rfl⟩⟩
  · simp only [List.mem_cons, List.not_mem_nil, or_false] at hc
    rcases hc with rfl
    · simp only [am_wp, am_stp, am_en, am_as, am_pad, am_nth, am_set, am_st1, am_st2, am_kl, am_kill, am_mem, am_fv, am_tk, am_wt, am_bk, Option.toList, List.cons_append, List.nil_append, Nat.reduceAdd, Nat.reduceEqDiff, Nat.reduceLeDiff, reduceIte, Nat.reduceLT, or_self, true_or, or_true, if_true, if_false, and_self, and_true, true_and, not_false_eq_true, not_true_eq_false, hh, am_hd]
      refine am_go [] 3 ?_
      simp only [am_wp, am_stp, am_en, am_as, am_pad, am_nth, am_set, am_st1, am_st2, am_kl, am_kill, am_mem, am_fv, am_tk, am_wt, am_bk, Option.toList, List.cons_append, List.nil_append, Nat.reduceAdd, Nat.reduceEqDiff, Nat.reduceLeDiff, reduceIte, Nat.reduceLT, or_self, true_or, or_true, if_true, if_false, and_self, and_true, true_and, not_false_eq_true, not_true_eq_false, fd_La_octet_13, fd_La_octet_15, fd_La_octet_16, w1.1.all]
      exact ⟨⟨_, rfl⟩, g1, w1, Or.inl rfl⟩
theorem wy_poke {d P : Nat} {a0 a1 a2 : Int32} {h : am_H} (w : wk P h) : am_Rt nm_pr (d + 12) mi_La_poke [.ref 2, .int a0, .int a1, .int a2] h (wy P h) := by
  have w := wp.refl w
  have hh : mt_La_poke.2.2 = [(0, 7, 10, 2), (0, 7, 14, 0), (0, 7, 18, 1)] := rfl
  have i0 : ¬ ((0 : Int32) < 0 ∨ 1 ≤ (0 : Int32).toNatClampNeg) := by decide
  have c0 : (0 : Int32).toNatClampNeg = 0 := by decide
  refine am_in' (d := d + 11) mt_La_poke 5 rfl rfl rfl ?_
  refine am_go [] 5 ?_
  simp only [am_wp, am_stp, am_en, am_as, am_pad, am_nth, am_set, am_st1, am_st2, am_kl, am_kill, am_mem, am_fv, am_tk, am_wt, am_bk, Option.toList, List.cons_append, List.nil_append, Nat.reduceAdd, Nat.reduceEqDiff, Nat.reduceLeDiff, reduceIte, Nat.reduceLT, or_self, true_or, or_true, if_true, if_false, and_self, and_true, true_and, not_false_eq_true, not_true_eq_false, fd_La_poke_0, fd_La_poke_1, fd_La_poke_2, fd_La_poke_3, fd_La_poke_4, w.1.all]
  refine am_call (ww_poke (d := d + 7) w.1) (fun o g1 q => ?_)
  obtain ⟨q, w1⟩ := q
  have w1 := w1.mono (l := 256) (by omega)
  rcases q with rfl | ⟨c, a, hc, rfl⟩
  · simp only [am_wp, am_stp, am_en, am_as, am_pad, am_nth, am_set, am_st1, am_st2, am_kl, am_kill, am_mem, am_fv, am_tk, am_wt, am_bk, Option.toList, List.cons_append, List.nil_append, Nat.reduceAdd, Nat.reduceEqDiff, Nat.reduceLeDiff, reduceIte, Nat.reduceLT, or_self, true_or, or_true, if_true, if_false, and_self, and_true, true_and, not_false_eq_true, not_true_eq_false]
    refine am_go [] 3 ?_
    simp only [am_wp, am_stp, am_en, am_as, am_pad, am_nth, am_set, am_st1, am_st2, am_kl, am_kill, am_mem, am_fv, am_tk, am_wt, am_bk, Option.toList, List.cons_append, List.nil_append, Nat.reduceAdd, Nat.reduceEqDiff, Nat.reduceLeDiff, reduceIte, Nat.reduceLT, or_self, true_or, or_true, if_true, if_false, and_self, and_true, true_and, not_false_eq_true, not_true_eq_false, fd_La_poke_7, fd_La_poke_22, fd_La_poke_23, w1.1.all]
    exact ⟨⟨_, rfl⟩, g1, w1, Or.inl rfl⟩
  · simp only [List.mem_cons, List.not_mem_nil, or_false] at hc
    rcases hc with rfl | rfl | rfl
    · simp only [am_wp, am_stp, am_en, am_as, am_pad, am_nth, am_set, am_st1, am_st2, am_kl, am_kill, am_mem, am_fv, am_tk, am_wt, am_bk, Option.toList, List.cons_append, List.nil_append, Nat.reduceAdd, Nat.reduceEqDiff, Nat.reduceLeDiff, reduceIte, Nat.reduceLT, or_self, true_or, or_true, if_true, if_false, and_self, and_true, true_and, not_false_eq_true, not_true_eq_false, hh, am_hd]
      refine am_go [] 3 ?_
      simp only [am_wp, am_stp, am_en, am_as, am_pad, am_nth, am_set, am_st1, am_st2, am_kl, am_kill, am_mem, am_fv, am_tk, am_wt, am_bk, Option.toList, List.cons_append, List.nil_append, Nat.reduceAdd, Nat.reduceEqDiff, Nat.reduceLeDiff, reduceIte, Nat.reduceLT, or_self, true_or, or_true, if_true, if_false, and_self, and_true, true_and, not_false_eq_true, not_true_eq_false, fd_La_poke_14, fd_La_poke_16, fd_La_poke_17, w1.1.all]
      exact ⟨⟨_, rfl⟩, g1, w1, Or.inl rfl⟩
    · simp only [am_wp, am_stp, am_en, am_as, am_pad, am_nth, am_set, am_st1, am_st2, am_kl, am_kill, am_mem, am_fv, am_tk, am_wt, am_bk, Option.toList, List.cons_append, List.nil_append, Nat.reduceAdd, Nat.reduceEqDiff, Nat.reduceLeDiff, reduceIte, Nat.reduceLT, or_self, true_or, or_true, if_true, if_false, and_self, and_true, true_and, not_false_eq_true, not_true_eq_false, hh, am_hd]
      refine am_go [] 3 ?_
      simp only [am_wp, am_stp, am_en, am_as, am_pad, am_nth, am_set, am_st1, am_st2, am_kl, am_kill, am_mem, am_fv, am_tk, am_wt, am_bk, Option.toList, List.cons_append, List.nil_append, Nat.reduceAdd, Nat.reduceEqDiff, Nat.reduceLeDiff, reduceIte, Nat.reduceLT, or_self, true_or, or_true, if_true, if_false, and_self, and_true, true_and, not_false_eq_true, not_true_eq_false, fd_La_poke_18, fd_La_poke_20, fd_La_poke_21, w1.1.all]
      exact ⟨⟨_, rfl⟩, g1, w1, Or.inl rfl⟩
    · simp only [am_wp, am_stp, am_en, am_as, am_pad, am_nth, am_set, am_st1, am_st2, am_kl, am_kill, am_mem, am_fv, am_tk, am_wt, am_bk, Option.toList, List.cons_append, List.nil_append, Nat.reduceAdd, Nat.reduceEqDiff, Nat.reduceLeDiff, reduceIte, Nat.reduceLT, or_self, true_or, or_true, if_true, if_false, and_self, and_true, true_and, not_false_eq_true, not_true_eq_false, hh, am_hd]
      refine am_go [] 3 ?_
      simp only [am_wp, am_stp, am_en, am_as, am_pad, am_nth, am_set, am_st1, am_st2, am_kl, am_kill, am_mem, am_fv, am_tk, am_wt, am_bk, Option.toList, List.cons_append, List.nil_append, Nat.reduceAdd, Nat.reduceEqDiff, Nat.reduceLeDiff, reduceIte, Nat.reduceLT, or_self, true_or, or_true, if_true, if_false, and_self, and_true, true_and, not_false_eq_true, not_true_eq_false, fd_La_poke_10, fd_La_poke_12, fd_La_poke_13, w1.1.all]
      exact ⟨⟨_, rfl⟩, g1, w1, Or.inl rfl⟩
theorem wy_open {d P : Nat} {h : am_H} (w : wk P h) (k8 : am_kd h 108 = 101) (l8 : am_ln h 108 = 1) : am_Rt nm_pr (d + 12) mi_La_open [.ref 2, .ref 108] h (wy P h) := by
  have w := wp.refl w
  have hh : mt_La_open.2.2 = [(0, 8, 11, 0)] := rfl
  have i0 : ¬ ((0 : Int32) < 0 ∨ 1 ≤ (0 : Int32).toNatClampNeg) := by decide
  have c0 : (0 : Int32).toNatClampNeg = 0 := by decide
  refine am_in' (d := d + 11) mt_La_open 3 rfl rfl rfl ?_
  refine am_go [] 4 ?_
  simp only [am_wp, am_stp, am_en, am_as, am_pad, am_nth, am_set, am_st1, am_st2, am_kl, am_kill, am_mem, am_fv, am_tk, am_wt, am_bk, Option.toList, List.cons_append, List.nil_append, Nat.reduceAdd, Nat.reduceEqDiff, Nat.reduceLeDiff, reduceIte, Nat.reduceLT, or_self, true_or, or_true, if_true, if_false, and_self, and_true, true_and, not_false_eq_true, not_true_eq_false, fd_La_open_0, fd_La_open_1, fd_La_open_2, fd_La_open_3, w.1.all]
  refine am_call (ww_open (d := d + 4) w.1) (fun o g1 q => ?_)
  obtain ⟨q, w1⟩ := q
  have w1 := w1.mono (l := 256) (by omega)
  obtain ⟨f1, f2, -⟩ := w1.2.1 108 (Or.inr (by omega))
  have k9 := f1.trans k8
  have l9 := f2.trans l8
  rcases q with ⟨x, rfl⟩ | ⟨c, a, hc, rfl⟩
  · simp only [am_wp, am_stp, am_en, am_as, am_pad, am_nth, am_set, am_st1, am_st2, am_kl, am_kill, am_mem, am_fv, am_tk, am_wt, am_bk, Option.toList, List.cons_append, List.nil_append, Nat.reduceAdd, Nat.reduceEqDiff, Nat.reduceLeDiff, reduceIte, Nat.reduceLT, or_self, true_or, or_true, if_true, if_false, and_self, and_true, true_and, not_false_eq_true, not_true_eq_false]
    refine am_go [] 5 ?_
    simp only [am_wp, am_stp, am_en, am_as, am_pad, am_nth, am_set, am_st1, am_st2, am_kl, am_kill, am_mem, am_fv, am_tk, am_wt, am_bk, Option.toList, List.cons_append, List.nil_append, Nat.reduceAdd, Nat.reduceEqDiff, Nat.reduceLeDiff, reduceIte, Nat.reduceLT, or_self, true_or, or_true, if_true, if_false, and_self, and_true, true_and, not_false_eq_true, not_true_eq_false, fd_La_open_6, fd_La_open_7, fd_La_open_8, fd_La_open_14, fd_La_open_15, w1.1.all, k9, l9, i0, c0]
    exact ⟨⟨_, rfl⟩, g1, w1, Or.inr ⟨_, rfl⟩⟩
  · simp only [List.mem_cons, List.not_mem_nil, or_false] at hc
    rcases hc with rfl
    · simp only [am_wp, am_stp, am_en, am_as, am_pad, am_nth, am_set, am_st1, am_st2, am_kl, am_kill, am_mem, am_fv, am_tk, am_wt, am_bk, Option.toList, List.cons_append, List.nil_append, Nat.reduceAdd, Nat.reduceEqDiff, Nat.reduceLeDiff, reduceIte, Nat.reduceLT, or_self, true_or, or_true, if_true, if_false, and_self, and_true, true_and, not_false_eq_true, not_true_eq_false, hh, am_hd]
      refine am_go [] 3 ?_
      simp only [am_wp, am_stp, am_en, am_as, am_pad, am_nth, am_set, am_st1, am_st2, am_kl, am_kill, am_mem, am_fv, am_tk, am_wt, am_bk, Option.toList, List.cons_append, List.nil_append, Nat.reduceAdd, Nat.reduceEqDiff, Nat.reduceLeDiff, reduceIte, Nat.reduceLT, or_self, true_or, or_true, if_true, if_false, and_self, and_true, true_and, not_false_eq_true, not_true_eq_false, fd_La_open_11, fd_La_open_12, fd_La_open_13, w1.1.all]
      exact ⟨⟨_, rfl⟩, g1, w1, Or.inl rfl⟩
theorem wy_told {d P : Nat} {a0 : Int32} {h : am_H} (w : wk P h) (k8 : am_kd h 108 = 101) (l8 : am_ln h 108 = 1) : am_Rt nm_pr (d + 12) mi_La_told [.ref 2, .int a0, .ref 108] h (wy P h) := by
  have w := wp.refl w
  have hh : mt_La_told.2.2 = [(0, 9, 12, 2)] := rfl
  have i0 : ¬ ((0 : Int32) < 0 ∨ 1 ≤ (0 : Int32).toNatClampNeg) := by decide
  have c0 : (0 : Int32).toNatClampNeg = 0 := by decide
  refine am_in' (d := d + 11) mt_La_told 4 rfl rfl rfl ?_
  refine am_go [] 5 ?_
  simp only [am_wp, am_stp, am_en, am_as, am_pad, am_nth, am_set, am_st1, am_st2, am_kl, am_kill, am_mem, am_fv, am_tk, am_wt, am_bk, Option.toList, List.cons_append, List.nil_append, Nat.reduceAdd, Nat.reduceEqDiff, Nat.reduceLeDiff, reduceIte, Nat.reduceLT, or_self, true_or, or_true, if_true, if_false, and_self, and_true, true_and, not_false_eq_true, not_true_eq_false, fd_La_told_0, fd_La_told_1, fd_La_told_2, fd_La_told_3, fd_La_told_4, w.1.all]
  refine am_call (ww_told (d := d + 9) w.1) (fun o g1 q => ?_)
  obtain ⟨q, w1⟩ := q
  have w1 := w1.mono (l := 256) (by omega)
  obtain ⟨f1, f2, -⟩ := w1.2.1 108 (Or.inr (by omega))
  have k9 := f1.trans k8
  have l9 := f2.trans l8
  rcases q with ⟨x, rfl⟩ | ⟨c, a, hc, rfl⟩
  · simp only [am_wp, am_stp, am_en, am_as, am_pad, am_nth, am_set, am_st1, am_st2, am_kl, am_kill, am_mem, am_fv, am_tk, am_wt, am_bk, Option.toList, List.cons_append, List.nil_append, Nat.reduceAdd, Nat.reduceEqDiff, Nat.reduceLeDiff, reduceIte, Nat.reduceLT, or_self, true_or, or_true, if_true, if_false, and_self, and_true, true_and, not_false_eq_true, not_true_eq_false]
    refine am_go [] 5 ?_
    simp only [am_wp, am_stp, am_en, am_as, am_pad, am_nth, am_set, am_st1, am_st2, am_kl, am_kill, am_mem, am_fv, am_tk, am_wt, am_bk, Option.toList, List.cons_append, List.nil_append, Nat.reduceAdd, Nat.reduceEqDiff, Nat.reduceLeDiff, reduceIte, Nat.reduceLT, or_self, true_or, or_true, if_true, if_false, and_self, and_true, true_and, not_false_eq_true, not_true_eq_false, fd_La_told_7, fd_La_told_8, fd_La_told_9, fd_La_told_15, fd_La_told_16, w1.1.all, k9, l9, i0, c0]
    exact ⟨⟨_, rfl⟩, g1, w1, Or.inr ⟨_, rfl⟩⟩
  · simp only [List.mem_cons, List.not_mem_nil, or_false] at hc
    rcases hc with rfl
    · simp only [am_wp, am_stp, am_en, am_as, am_pad, am_nth, am_set, am_st1, am_st2, am_kl, am_kill, am_mem, am_fv, am_tk, am_wt, am_bk, Option.toList, List.cons_append, List.nil_append, Nat.reduceAdd, Nat.reduceEqDiff, Nat.reduceLeDiff, reduceIte, Nat.reduceLT, or_self, true_or, or_true, if_true, if_false, and_self, and_true, true_and, not_false_eq_true, not_true_eq_false, hh, am_hd]
      refine am_go [] 3 ?_
      simp only [am_wp, am_stp, am_en, am_as, am_pad, am_nth, am_set, am_st1, am_st2, am_kl, am_kill, am_mem, am_fv, am_tk, am_wt, am_bk, Option.toList, List.cons_append, List.nil_append, Nat.reduceAdd, Nat.reduceEqDiff, Nat.reduceLeDiff, reduceIte, Nat.reduceLT, or_self, true_or, or_true, if_true, if_false, and_self, and_true, true_and, not_false_eq_true, not_true_eq_false, fd_La_told_12, fd_La_told_13, fd_La_told_14, w1.1.all]
      exact ⟨⟨_, rfl⟩, g1, w1, Or.inl rfl⟩
