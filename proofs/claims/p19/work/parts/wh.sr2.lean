/-! SortedRuns' OWN METHODS, WEAKLY, 2 -/
theorem ww_letGo {d P a : Nat} {h : am_H} (w : wk P h) (r : ruh h a) : am_Rt nm_pr (d + 3) mi_SR_letGo [.ref 2, .ref a] h (fun o h' => o = .inl none ∧ wp P 0 h h') := by
  have w1 := (wp.refl w).runI (j := 8) (v := am_I h a 8 - 1) r
  refine am_in' (d := d + 2) mt_SR_letGo 2 rfl rfl rfl ?_
  refine am_go [] 6 ?_
  simp only [am_wp, am_stp, am_en, am_as, am_pad, am_nth, am_set, am_st1, am_st2, am_kl, am_kill, am_mem, am_fv, am_tk, am_wt, am_bk, Option.toList, List.cons_append, List.nil_append, Nat.reduceAdd, Nat.reduceEqDiff, Nat.reduceLeDiff, reduceIte, Nat.reduceLT, or_self, true_or, or_true, if_true, if_false, and_self, and_true, true_and, not_false_eq_true, not_true_eq_false, fd_SR_letGo_0, fd_SR_letGo_1, fd_SR_letGo_2, fd_SR_letGo_5, fd_SR_letGo_6, fd_SR_letGo_7, r.1]
  generalize am_sI h a 8 (am_I h a 8 - 1) = g at *
  have r1 := w1.2.ru r
  have fin : ∀ g, wp P 0 h g → am_Ex nm_pr (d + 2) mt_SR_letGo (25, [.ref 2, .ref a], [], g) (fun o h' => o = .inl none ∧ wp P 0 h h') := fun g wg => by
    refine am_go [] 2 ?_
    simp only [am_wp, am_stp, am_en, am_as, am_pad, am_nth, am_set, am_st1, am_st2, am_kl, am_kill, am_mem, am_fv, am_tk, am_wt, am_bk, Option.toList, List.cons_append, List.nil_append, Nat.reduceAdd, Nat.reduceEqDiff, Nat.reduceLeDiff, reduceIte, Nat.reduceLT, or_self, true_or, or_true, if_true, if_false, and_self, and_true, true_and, not_false_eq_true, not_true_eq_false, fd_SR_letGo_25]
    exact wg
  refine am_go [17, 25] 3 ?_
  simp only [am_wp, am_stp, am_en, am_as, am_pad, am_nth, am_set, am_st1, am_st2, am_kl, am_kill, am_mem, am_fv, am_tk, am_wt, am_bk, Option.toList, List.cons_append, List.nil_append, Nat.reduceAdd, Nat.reduceEqDiff, Nat.reduceLeDiff, reduceIte, Nat.reduceLT, or_self, true_or, or_true, if_true, if_false, and_self, and_true, true_and, not_false_eq_true, not_true_eq_false, fd_SR_letGo_10, fd_SR_letGo_11, fd_SR_letGo_14, r1.1]
  refine wif ?_ (fin _ w1)
  refine am_go [] 4 ?_
  simp only [am_wp, am_stp, am_en, am_as, am_pad, am_nth, am_set, am_st1, am_st2, am_kl, am_kill, am_mem, am_fv, am_tk, am_wt, am_bk, Option.toList, List.cons_append, List.nil_append, Nat.reduceAdd, Nat.reduceEqDiff, Nat.reduceLeDiff, reduceIte, Nat.reduceLT, or_self, true_or, or_true, if_true, if_false, and_self, and_true, true_and, not_false_eq_true, not_true_eq_false, fd_SR_letGo_17, fd_SR_letGo_18, fd_SR_letGo_21, fd_SR_letGo_22, w1.1.kd 2 1 (by decide), w1.1.R 2 1 21 (by decide), w1.1.kd 21 9 (by decide)]
  refine am_call (ww_giveBack w1.1 r1) (fun o g2 q => ?_)
  obtain ⟨rfl, w2⟩ := q
  simp only [am_wp, am_stp, am_en, am_as, am_pad, am_nth, am_set, am_st1, am_st2, am_kl, am_kill, am_mem, am_fv, am_tk, am_wt, am_bk, Option.toList, List.cons_append, List.nil_append, Nat.reduceAdd, Nat.reduceEqDiff, Nat.reduceLeDiff, reduceIte, Nat.reduceLT, or_self, true_or, or_true, if_true, if_false, and_self, and_true, true_and, not_false_eq_true, not_true_eq_false]
  exact fin _ ((w1.trans w2).mono (by omega))
theorem ww_blendTable {d P : Nat} {h : am_H} (w : wk P h) : am_Rt nm_pr (d + 3) mi_SR_blendTable [.ref 2] h (fun o h' => o = .inl none ∧ wp P 0 h h') := by
  refine am_in' (d := d + 2) mt_SR_blendTable 1 rfl rfl rfl ?_
  refine am_go [] 4 ?_
  simp only [am_wp, am_stp, am_en, am_as, am_pad, am_nth, am_set, am_st1, am_st2, am_kl, am_kill, am_mem, am_fv, am_tk, am_wt, am_bk, Option.toList, List.cons_append, List.nil_append, Nat.reduceAdd, Nat.reduceEqDiff, Nat.reduceLeDiff, reduceIte, Nat.reduceLT, or_self, true_or, or_true, if_true, if_false, and_self, and_true, true_and, not_false_eq_true, not_true_eq_false, fd_SR_blendTable_0, fd_SR_blendTable_1, fd_SR_blendTable_4, fd_SR_blendTable_5, w.kd 2 1 (by decide), w.R 2 5 25 (by decide), w.kd 25 2 (by decide)]
  refine am_call (ww_begin w (by decide)) (fun o g1 q => ?_)
  obtain ⟨rfl, w1⟩ := q
  simp only [am_wp, am_stp, am_en, am_as, am_pad, am_nth, am_set, am_st1, am_st2, am_kl, am_kill, am_mem, am_fv, am_tk, am_wt, am_bk, Option.toList, List.cons_append, List.nil_append, Nat.reduceAdd, Nat.reduceEqDiff, Nat.reduceLeDiff, reduceIte, Nat.reduceLT, or_self, true_or, or_true, if_true, if_false, and_self, and_true, true_and, not_false_eq_true, not_true_eq_false]
  refine am_go [] 3 ?_
  simp only [am_wp, am_stp, am_en, am_as, am_pad, am_nth, am_set, am_st1, am_st2, am_kl, am_kill, am_mem, am_fv, am_tk, am_wt, am_bk, Option.toList, List.cons_append, List.nil_append, Nat.reduceAdd, Nat.reduceEqDiff, Nat.reduceLeDiff, reduceIte, Nat.reduceLT, or_self, true_or, or_true, if_true, if_false, and_self, and_true, true_and, not_false_eq_true, not_true_eq_false, fd_SR_blendTable_8, fd_SR_blendTable_9, fd_SR_blendTable_12, w1.1.kd 2 1 (by decide), w1.1.R 2 5 25 (by decide), w1.1.kd 25 2 (by decide)]
  refine am_call (ww_addTable w1.1) (fun o g2 q => ?_)
  obtain ⟨rfl, w2⟩ := q
  simp only [am_wp, am_stp, am_en, am_as, am_pad, am_nth, am_set, am_st1, am_st2, am_kl, am_kill, am_mem, am_fv, am_tk, am_wt, am_bk, Option.toList, List.cons_append, List.nil_append, Nat.reduceAdd, Nat.reduceEqDiff, Nat.reduceLeDiff, reduceIte, Nat.reduceLT, or_self, true_or, or_true, if_true, if_false, and_self, and_true, true_and, not_false_eq_true, not_true_eq_false]
  refine am_go [] 2 ?_
  simp only [am_wp, am_stp, am_en, am_as, am_pad, am_nth, am_set, am_st1, am_st2, am_kl, am_kill, am_mem, am_fv, am_tk, am_wt, am_bk, Option.toList, List.cons_append, List.nil_append, Nat.reduceAdd, Nat.reduceEqDiff, Nat.reduceLeDiff, reduceIte, Nat.reduceLT, or_self, true_or, or_true, if_true, if_false, and_self, and_true, true_and, not_false_eq_true, not_true_eq_false, fd_SR_blendTable_15]
  exact (w1.trans w2).mono (by omega)
theorem ww_blendRuns_loop {d P : Nat} {x : Int32} {h : am_H} : ∀ (m i : Nat) (g : am_H), m + i = 9 → wp P 0 h g →
    am_Ex nm_pr (d + 4) mt_SR_blendRuns (25, [.ref 2, .int x, .int (nI i)], [], g) (fun o h' => o = .inl none ∧ wp P 0 h h')
  | m, i, g, hm, w => by
    have fin : am_Ex nm_pr (d + 4) mt_SR_blendRuns (61, [.ref 2, .int x, .int (nI i)], [], g) (fun o h' => o = .inl none ∧ wp P 0 h h') := by
      refine am_go [] 2 ?_
      simp only [am_wp, am_stp, am_en, am_as, am_pad, am_nth, am_set, am_st1, am_st2, am_kl, am_kill, am_mem, am_fv, am_tk, am_wt, am_bk, Option.toList, List.cons_append, List.nil_append, Nat.reduceAdd, Nat.reduceEqDiff, Nat.reduceLeDiff, reduceIte, Nat.reduceLT, or_self, true_or, or_true, if_true, if_false, and_self, and_true, true_and, not_false_eq_true, not_true_eq_false, fd_SR_blendRuns_61]
      exact w
    refine am_go [30, 61] 3 ?_
    simp only [am_wp, am_stp, am_en, am_as, am_pad, am_nth, am_set, am_st1, am_st2, am_kl, am_kill, am_mem, am_fv, am_tk, am_wt, am_bk, Option.toList, List.cons_append, List.nil_append, Nat.reduceAdd, Nat.reduceEqDiff, Nat.reduceLeDiff, reduceIte, Nat.reduceLT, or_self, true_or, or_true, if_true, if_false, and_self, and_true, true_and, not_false_eq_true, not_true_eq_false, fd_SR_blendRuns_25, fd_SR_blendRuns_26, fd_SR_blendRuns_27]
    refine wif ?_ fin
    cases m with
    | zero =>
      have e : i = 9 := by omega
      subst e
      have l1 : ¬ nI 9 < 9 := by decide
      refine am_go [36, 61] 3 ?_
      simp only [am_wp, am_stp, am_en, am_as, am_pad, am_nth, am_set, am_st1, am_st2, am_kl, am_kill, am_mem, am_fv, am_tk, am_wt, am_bk, Option.toList, List.cons_append, List.nil_append, Nat.reduceAdd, Nat.reduceEqDiff, Nat.reduceLeDiff, reduceIte, Nat.reduceLT, or_self, true_or, or_true, if_true, if_false, and_self, and_true, true_and, not_false_eq_true, not_true_eq_false, fd_SR_blendRuns_30, fd_SR_blendRuns_31, fd_SR_blendRuns_33, l1]
      exact fin
    | succ m =>
      have l1 : nI i < 9 := nI_lt (b := 9) (by omega) (by decide)
      have n1 : (200 ≤ 200 ∧ 200 < 204) := by decide
      have i1 := am_inb (c := i) (N := 9) (by omega) (by omega)
      have q1 : (nI i).toNatClampNeg = i := nI_clamp (by omega)
      have r := w.1.ru 9 i (by decide) (by omega)
      refine am_go [36, 61] 3 ?_
      simp only [am_wp, am_stp, am_en, am_as, am_pad, am_nth, am_set, am_st1, am_st2, am_kl, am_kill, am_mem, am_fv, am_tk, am_wt, am_bk, Option.toList, List.cons_append, List.nil_append, Nat.reduceAdd, Nat.reduceEqDiff, Nat.reduceLeDiff, reduceIte, Nat.reduceLT, or_self, true_or, or_true, if_true, if_false, and_self, and_true, true_and, not_false_eq_true, not_true_eq_false, fd_SR_blendRuns_30, fd_SR_blendRuns_31, fd_SR_blendRuns_33, l1]
      refine am_go [] 9 ?_
      simp only [am_wp, am_stp, am_en, am_as, am_pad, am_nth, am_set, am_st1, am_st2, am_kl, am_kill, am_mem, am_fv, am_tk, am_wt, am_bk, Option.toList, List.cons_append, List.nil_append, Nat.reduceAdd, Nat.reduceEqDiff, Nat.reduceLeDiff, reduceIte, Nat.reduceLT, or_self, true_or, or_true, if_true, if_false, and_self, and_true, true_and, not_false_eq_true, not_true_eq_false, fd_SR_blendRuns_36, fd_SR_blendRuns_37, fd_SR_blendRuns_40, fd_SR_blendRuns_41, fd_SR_blendRuns_44, fd_SR_blendRuns_47, fd_SR_blendRuns_48, fd_SR_blendRuns_49, fd_SR_blendRuns_52, w.1.kd 2 1 (by decide), w.1.R 2 5 25 (by decide), w.1.kd 25 2 (by decide), w.1.R 2 3 8 (by decide), w.1.kd 8 6 (by decide), w.1.R 8 0 9 (by decide), w.1.kd 9 200 (by decide), w.1.ln 9 9 (by decide), n1, i1, q1]
      refine am_call (ww_addRun w.1 r) (fun o g1 q => ?_)
      obtain ⟨rfl, w1⟩ := q
      simp only [am_wp, am_stp, am_en, am_as, am_pad, am_nth, am_set, am_st1, am_st2, am_kl, am_kill, am_mem, am_fv, am_tk, am_wt, am_bk, Option.toList, List.cons_append, List.nil_append, Nat.reduceAdd, Nat.reduceEqDiff, Nat.reduceLeDiff, reduceIte, Nat.reduceLT, or_self, true_or, or_true, if_true, if_false, and_self, and_true, true_and, not_false_eq_true, not_true_eq_false]
      refine am_go [25] 2 ?_
      simp only [am_wp, am_stp, am_en, am_as, am_pad, am_nth, am_set, am_st1, am_st2, am_kl, am_kill, am_mem, am_fv, am_tk, am_wt, am_bk, Option.toList, List.cons_append, List.nil_append, Nat.reduceAdd, Nat.reduceEqDiff, Nat.reduceLeDiff, reduceIte, Nat.reduceLT, or_self, true_or, or_true, if_true, if_false, and_self, and_true, true_and, not_false_eq_true, not_true_eq_false, fd_SR_blendRuns_55, fd_SR_blendRuns_58, nI_1]
      exact ww_blendRuns_loop m (i + 1) g1 (by omega) ((w.trans w1).mono (by omega))
theorem ww_blendRuns {d P : Nat} {x : Int32} {h : am_H} (w : wk P h) : am_Rt nm_pr (d + 5) mi_SR_blendRuns [.ref 2, .int x] h (fun o h' => o = .inl none ∧ wp P 0 h h') := by
  have mid : ∀ v : Int32, (v = 0 ∨ v = 1) → am_Ex nm_pr (d + 4) mt_SR_blendRuns (20, [.ref 2, .int x, .retAddr 0], [.int v, .ref 25], h) (fun o h' => o = .inl none ∧ wp P 0 h h') := fun v hv => by
    refine am_go [] 1 ?_
    simp only [am_wp, am_stp, am_en, am_as, am_pad, am_nth, am_set, am_st1, am_st2, am_kl, am_kill, am_mem, am_fv, am_tk, am_wt, am_bk, Option.toList, List.cons_append, List.nil_append, Nat.reduceAdd, Nat.reduceEqDiff, Nat.reduceLeDiff, reduceIte, Nat.reduceLT, or_self, true_or, or_true, if_true, if_false, and_self, and_true, true_and, not_false_eq_true, not_true_eq_false, fd_SR_blendRuns_20, w.kd 25 2 (by decide)]
    refine am_call (ww_begin w hv) (fun o g1 q => ?_)
    obtain ⟨rfl, w1⟩ := q
    simp only [am_wp, am_stp, am_en, am_as, am_pad, am_nth, am_set, am_st1, am_st2, am_kl, am_kill, am_mem, am_fv, am_tk, am_wt, am_bk, Option.toList, List.cons_append, List.nil_append, Nat.reduceAdd, Nat.reduceEqDiff, Nat.reduceLeDiff, reduceIte, Nat.reduceLT, or_self, true_or, or_true, if_true, if_false, and_self, and_true, true_and, not_false_eq_true, not_true_eq_false]
    refine am_go [25] 2 ?_
    simp only [am_wp, am_stp, am_en, am_as, am_pad, am_nth, am_set, am_st1, am_st2, am_kl, am_kill, am_mem, am_fv, am_tk, am_wt, am_bk, Option.toList, List.cons_append, List.nil_append, Nat.reduceAdd, Nat.reduceEqDiff, Nat.reduceLeDiff, reduceIte, Nat.reduceLT, or_self, true_or, or_true, if_true, if_false, and_self, and_true, true_and, not_false_eq_true, not_true_eq_false, fd_SR_blendRuns_23, fd_SR_blendRuns_24]
    exact ww_blendRuns_loop 9 0 g1 rfl w1
  refine am_in' (d := d + 4) mt_SR_blendRuns 3 rfl rfl rfl ?_
  refine am_go [15, 19] 7 ?_
  simp only [am_wp, am_stp, am_en, am_as, am_pad, am_nth, am_set, am_st1, am_st2, am_kl, am_kill, am_mem, am_fv, am_tk, am_wt, am_bk, Option.toList, List.cons_append, List.nil_append, Nat.reduceAdd, Nat.reduceEqDiff, Nat.reduceLeDiff, reduceIte, Nat.reduceLT, or_self, true_or, or_true, if_true, if_false, and_self, and_true, true_and, not_false_eq_true, not_true_eq_false, fd_SR_blendRuns_0, fd_SR_blendRuns_1, fd_SR_blendRuns_4, fd_SR_blendRuns_5, fd_SR_blendRuns_6, fd_SR_blendRuns_9, fd_SR_blendRuns_12, w.kd 2 1 (by decide), w.R 2 5 25 (by decide), w.R 2 3 8 (by decide), w.kd 8 6 (by decide)]
  refine wif ?_ ?_
  · refine am_go [20] 2 ?_
    simp only [am_wp, am_stp, am_en, am_as, am_pad, am_nth, am_set, am_st1, am_st2, am_kl, am_kill, am_mem, am_fv, am_tk, am_wt, am_bk, Option.toList, List.cons_append, List.nil_append, Nat.reduceAdd, Nat.reduceEqDiff, Nat.reduceLeDiff, reduceIte, Nat.reduceLT, or_self, true_or, or_true, if_true, if_false, and_self, and_true, true_and, not_false_eq_true, not_true_eq_false, fd_SR_blendRuns_15, fd_SR_blendRuns_16]
    exact mid 1 (by decide)
  · refine am_go [20] 1 ?_
    simp only [am_wp, am_stp, am_en, am_as, am_pad, am_nth, am_set, am_st1, am_st2, am_kl, am_kill, am_mem, am_fv, am_tk, am_wt, am_bk, Option.toList, List.cons_append, List.nil_append, Nat.reduceAdd, Nat.reduceEqDiff, Nat.reduceLeDiff, reduceIte, Nat.reduceLT, or_self, true_or, or_true, if_true, if_false, and_self, and_true, true_and, not_false_eq_true, not_true_eq_false, fd_SR_blendRuns_19]
    exact mid 0 (by decide)
theorem ww_fillHead_loop {d P : Nat} {x : Int32} {h : am_H} : ∀ (m i : Nat) (y : Value) (g : am_H), m + i = 9 → wp P 0 h g →
    am_Ex nm_pr (d + 2) mt_SR_fillHead (53, [.ref 2, .int x, .int (nI i), y], [], g) (fun o h' => o = .inl none ∧ wp P 0 h h')
  | m, i, y, g, hm, w => by
    have fin : am_Ex nm_pr (d + 2) mt_SR_fillHead (130, [.ref 2, .int x, .int (nI i), y], [], g) (fun o h' => o = .inl none ∧ wp P 0 h h') := by
      refine am_go [] 2 ?_
      simp only [am_wp, am_stp, am_en, am_as, am_pad, am_nth, am_set, am_st1, am_st2, am_kl, am_kill, am_mem, am_fv, am_tk, am_wt, am_bk, Option.toList, List.cons_append, List.nil_append, Nat.reduceAdd, Nat.reduceEqDiff, Nat.reduceLeDiff, reduceIte, Nat.reduceLT, or_self, true_or, or_true, if_true, if_false, and_self, and_true, true_and, not_false_eq_true, not_true_eq_false, fd_SR_fillHead_130]
      exact w
    refine am_go [64, 130] 5 ?_
    simp only [am_wp, am_stp, am_en, am_as, am_pad, am_nth, am_set, am_st1, am_st2, am_kl, am_kill, am_mem, am_fv, am_tk, am_wt, am_bk, Option.toList, List.cons_append, List.nil_append, Nat.reduceAdd, Nat.reduceEqDiff, Nat.reduceLeDiff, reduceIte, Nat.reduceLT, or_self, true_or, or_true, if_true, if_false, and_self, and_true, true_and, not_false_eq_true, not_true_eq_false, fd_SR_fillHead_53, fd_SR_fillHead_54, fd_SR_fillHead_55, fd_SR_fillHead_58, fd_SR_fillHead_61, w.1.kd 2 1 (by decide), w.1.R 2 3 8 (by decide), w.1.kd 8 6 (by decide)]
    refine wif ?_ fin
    cases m with
    | zero =>
      have e : i = 9 := by omega
      subst e
      have l1 : ¬ nI 9 < 9 := by decide
      refine am_go [70, 130] 3 ?_
      simp only [am_wp, am_stp, am_en, am_as, am_pad, am_nth, am_set, am_st1, am_st2, am_kl, am_kill, am_mem, am_fv, am_tk, am_wt, am_bk, Option.toList, List.cons_append, List.nil_append, Nat.reduceAdd, Nat.reduceEqDiff, Nat.reduceLeDiff, reduceIte, Nat.reduceLT, or_self, true_or, or_true, if_true, if_false, and_self, and_true, true_and, not_false_eq_true, not_true_eq_false, fd_SR_fillHead_64, fd_SR_fillHead_65, fd_SR_fillHead_67, l1]
      exact fin
    | succ m =>
      have l1 : nI i < 9 := nI_lt (b := 9) (by omega) (by decide)
      have n1 : (200 ≤ 200 ∧ 200 < 204) := by decide
      have i1 := am_inb (c := i) (N := 9) (by omega) (by omega)
      have q1 : (nI i).toNatClampNeg = i := nI_clamp (by omega)
      have r := w.1.ru 9 i (by decide) (by omega)
      refine am_go [70, 130] 3 ?_
      simp only [am_wp, am_stp, am_en, am_as, am_pad, am_nth, am_set, am_st1, am_st2, am_kl, am_kill, am_mem, am_fv, am_tk, am_wt, am_bk, Option.toList, List.cons_append, List.nil_append, Nat.reduceAdd, Nat.reduceEqDiff, Nat.reduceLeDiff, reduceIte, Nat.reduceLT, or_self, true_or, or_true, if_true, if_false, and_self, and_true, true_and, not_false_eq_true, not_true_eq_false, fd_SR_fillHead_64, fd_SR_fillHead_65, fd_SR_fillHead_67, l1]
      refine am_go [80] 6 ?_
      simp only [am_wp, am_stp, am_en, am_as, am_pad, am_nth, am_set, am_st1, am_st2, am_kl, am_kill, am_mem, am_fv, am_tk, am_wt, am_bk, Option.toList, List.cons_append, List.nil_append, Nat.reduceAdd, Nat.reduceEqDiff, Nat.reduceLeDiff, reduceIte, Nat.reduceLT, or_self, true_or, or_true, if_true, if_false, and_self, and_true, true_and, not_false_eq_true, not_true_eq_false, fd_SR_fillHead_70, fd_SR_fillHead_71, fd_SR_fillHead_74, fd_SR_fillHead_77, fd_SR_fillHead_78, fd_SR_fillHead_79, w.1.kd 2 1 (by decide), w.1.R 2 3 8 (by decide), w.1.kd 8 6 (by decide), w.1.R 8 0 9 (by decide), w.1.kd 9 200 (by decide), w.1.ln 9 9 (by decide), n1, i1, q1]
      generalize am_R g 9 i = a at *
      refine am_go [] 5 ?_
      simp only [am_wp, am_stp, am_en, am_as, am_pad, am_nth, am_set, am_st1, am_st2, am_kl, am_kill, am_mem, am_fv, am_tk, am_wt, am_bk, Option.toList, List.cons_append, List.nil_append, Nat.reduceAdd, Nat.reduceEqDiff, Nat.reduceLeDiff, reduceIte, Nat.reduceLT, or_self, true_or, or_true, if_true, if_false, and_self, and_true, true_and, not_false_eq_true, not_true_eq_false, fd_SR_fillHead_80, fd_SR_fillHead_81, fd_SR_fillHead_84, fd_SR_fillHead_85, fd_SR_fillHead_88, w.1.kd 2 1 (by decide), w.1.R 2 8 14 (by decide), w.1.kd 14 8 (by decide), r.1]
      refine am_call (ww_two w.1) (fun o g1 q => ?_)
      obtain ⟨rfl, w1⟩ := q
      have r1 := w1.2.ru r
      have w1 := (w.trans w1).mono (l := 0) (by omega)
      simp only [am_wp, am_stp, am_en, am_as, am_pad, am_nth, am_set, am_st1, am_st2, am_kl, am_kill, am_mem, am_fv, am_tk, am_wt, am_bk, Option.toList, List.cons_append, List.nil_append, Nat.reduceAdd, Nat.reduceEqDiff, Nat.reduceLeDiff, reduceIte, Nat.reduceLT, or_self, true_or, or_true, if_true, if_false, and_self, and_true, true_and, not_false_eq_true, not_true_eq_false]
      refine am_go [] 5 ?_
      simp only [am_wp, am_stp, am_en, am_as, am_pad, am_nth, am_set, am_st1, am_st2, am_kl, am_kill, am_mem, am_fv, am_tk, am_wt, am_bk, Option.toList, List.cons_append, List.nil_append, Nat.reduceAdd, Nat.reduceEqDiff, Nat.reduceLeDiff, reduceIte, Nat.reduceLT, or_self, true_or, or_true, if_true, if_false, and_self, and_true, true_and, not_false_eq_true, not_true_eq_false, fd_SR_fillHead_91, fd_SR_fillHead_92, fd_SR_fillHead_95, fd_SR_fillHead_96, fd_SR_fillHead_99, w1.1.kd 2 1 (by decide), w1.1.R 2 8 14 (by decide), w1.1.kd 14 8 (by decide), r1.1]
      refine am_call (ww_one w1.1) (fun o g2 q => ?_)
      obtain ⟨rfl, w2⟩ := q
      have r2 := w2.2.ru r1
      have w2 := (w1.trans w2).mono (l := 0) (by omega)
      simp only [am_wp, am_stp, am_en, am_as, am_pad, am_nth, am_set, am_st1, am_st2, am_kl, am_kill, am_mem, am_fv, am_tk, am_wt, am_bk, Option.toList, List.cons_append, List.nil_append, Nat.reduceAdd, Nat.reduceEqDiff, Nat.reduceLeDiff, reduceIte, Nat.reduceLT, or_self, true_or, or_true, if_true, if_false, and_self, and_true, true_and, not_false_eq_true, not_true_eq_false]
      refine am_go [] 5 ?_
      simp only [am_wp, am_stp, am_en, am_as, am_pad, am_nth, am_set, am_st1, am_st2, am_kl, am_kill, am_mem, am_fv, am_tk, am_wt, am_bk, Option.toList, List.cons_append, List.nil_append, Nat.reduceAdd, Nat.reduceEqDiff, Nat.reduceLeDiff, reduceIte, Nat.reduceLT, or_self, true_or, or_true, if_true, if_false, and_self, and_true, true_and, not_false_eq_true, not_true_eq_false, fd_SR_fillHead_102, fd_SR_fillHead_103, fd_SR_fillHead_106, fd_SR_fillHead_107, fd_SR_fillHead_110, w2.1.kd 2 1 (by decide), w2.1.R 2 8 14 (by decide), w2.1.kd 14 8 (by decide), r2.1]
      refine am_call (ww_two w2.1) (fun o g3 q => ?_)
      obtain ⟨rfl, w3⟩ := q
      have r3 := w3.2.ru r2
      have w3 := (w2.trans w3).mono (l := 0) (by omega)
      simp only [am_wp, am_stp, am_en, am_as, am_pad, am_nth, am_set, am_st1, am_st2, am_kl, am_kill, am_mem, am_fv, am_tk, am_wt, am_bk, Option.toList, List.cons_append, List.nil_append, Nat.reduceAdd, Nat.reduceEqDiff, Nat.reduceLeDiff, reduceIte, Nat.reduceLT, or_self, true_or, or_true, if_true, if_false, and_self, and_true, true_and, not_false_eq_true, not_true_eq_false]
      refine am_go [] 5 ?_
      simp only [am_wp, am_stp, am_en, am_as, am_pad, am_nth, am_set, am_st1, am_st2, am_kl, am_kill, am_mem, am_fv, am_tk, am_wt, am_bk, Option.toList, List.cons_append, List.nil_append, Nat.reduceAdd, Nat.reduceEqDiff, Nat.reduceLeDiff, reduceIte, Nat.reduceLT, or_self, true_or, or_true, if_true, if_false, and_self, and_true, true_and, not_false_eq_true, not_true_eq_false, fd_SR_fillHead_113, fd_SR_fillHead_114, fd_SR_fillHead_117, fd_SR_fillHead_118, fd_SR_fillHead_121, w3.1.kd 2 1 (by decide), w3.1.R 2 8 14 (by decide), w3.1.kd 14 8 (by decide), r3.1]
      refine am_call (ww_two w3.1) (fun o g4 q => ?_)
      obtain ⟨rfl, w4⟩ := q
      simp only [am_wp, am_stp, am_en, am_as, am_pad, am_nth, am_set, am_st1, am_st2, am_kl, am_kill, am_mem, am_fv, am_tk, am_wt, am_bk, Option.toList, List.cons_append, List.nil_append, Nat.reduceAdd, Nat.reduceEqDiff, Nat.reduceLeDiff, reduceIte, Nat.reduceLT, or_self, true_or, or_true, if_true, if_false, and_self, and_true, true_and, not_false_eq_true, not_true_eq_false]
      refine am_go [53] 2 ?_
      simp only [am_wp, am_stp, am_en, am_as, am_pad, am_nth, am_set, am_st1, am_st2, am_kl, am_kill, am_mem, am_fv, am_tk, am_wt, am_bk, Option.toList, List.cons_append, List.nil_append, Nat.reduceAdd, Nat.reduceEqDiff, Nat.reduceLeDiff, reduceIte, Nat.reduceLT, or_self, true_or, or_true, if_true, if_false, and_self, and_true, true_and, not_false_eq_true, not_true_eq_false, fd_SR_fillHead_124, fd_SR_fillHead_127, nI_1]
      exact ww_fillHead_loop m (i + 1) _ g4 (by omega) ((w3.trans w4).mono (by omega))
