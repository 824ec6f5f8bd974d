/-! THE SHEET, WEAKLY -/
theorem wk.sh {P : Nat} {h : am_H} (w : wk P h) : cl_Sh h ∧ ∃ u, u ≤ 120 ∧ am_I h 14 1 = nI u :=
  ⟨⟨w.kd 14 8 (by decide), w.R 14 0 15 (by decide), w.kd 15 102 (by decide), w.ln 15 128 (by decide)⟩, (w.2.1 14 1).2.2.1 ⟨rfl, rfl⟩⟩
theorem wcell_14 {P j : Nat} {v : Int32} (hj : j ≠ 1) : wcell P 14 j v := by
  refine ⟨fun q => ?_, fun q => ?_, fun q => ?_, fun q => ?_, fun q => ?_, fun q => ?_, fun q => ?_, fun q => ?_⟩ <;> omega
theorem wcell_14u {P u : Nat} (hu : u ≤ 120) : wcell P 14 1 (nI u) := by
  refine ⟨fun q => ?_, fun q => ?_, fun q => ⟨u, hu, rfl⟩, fun q => ?_, fun q => ?_, fun q => ?_, fun q => ?_, fun q => ?_⟩ <;> omega
theorem wp.s14 {P k j : Nat} {v : Int32} {h g : am_H} (w : wp P k h g) (hj : j ≠ 1) : wp P k h (am_sI g 14 j v) := w.sI (cw_lt (by omega) (by omega)) (fun e => absurd e (by decide)) (wcell_14 hj)
theorem wp.s14u {P k u : Nat} {h g : am_H} (w : wp P k h g) (hu : u ≤ 120) : wp P k h (am_sI g 14 1 (nI u)) := w.sI (cw_lt (by omega) (by omega)) (fun e => absurd e (by decide)) (wcell_14u hu)
/-- ints of cells that are never bound -/
theorem wp.sf {P k a j : Nat} {v : Int32} {h g : am_H} (w : wp P k h g) (ha : a ∈ [5, 7, 13, 15, 19, 22, 23, 26, 30, 31, 32, 33, 34, 35, 36, 37, 38, 39]) : wp P k h (am_sI g a j v) := by
  have h1 : ∀ a ∈ [5, 7, 13, 15, 19, 22, 23, 26, 30, 31, 32, 33, 34, 35, 36, 37, 38, 39], 2 ≤ a ∧ a < 40 ∧ a ≠ 3 ∧ a ∉ [2, 8, 14, 18, 20, 21, 25, 29] := by decide
  obtain ⟨b1, b2, b3, b4⟩ := h1 a ha
  exact w.sI (cw_lt b1 (by omega)) (fun e => absurd e b3) (wcell_free b4 (by omega))
theorem ww_one {d P : Nat} {x : Int32} {h : am_H} (w : wk P h) : am_Rt nm_pr (d + 1) mi_Sheet_one [.ref 14, .int x] h (fun o h' => o = .inl none ∧ wp P 0 h h') := by
  obtain ⟨S, u, hu, iu⟩ := w.sh
  by_cases e : u < 120
  · refine am_call (l2_one S iu e) (fun o h' q => ⟨q.1, ?_⟩)
    rw [q.2]
    exact ((wp.refl w).sf (by decide)).s14u (by omega)
  · have l1 : ¬ nI u < 120 := nI_nlt (b := 120) (by omega) (by omega)
    refine am_in' mt_Sheet_one 2 rfl rfl rfl ?_
    refine am_go [9] 6 ?_
    simp only [am_wp, am_stp, am_en, am_as, am_pad, am_nth, am_set, am_st1, am_st2, am_kl, am_kill, am_mem, am_fv, am_tk, am_wt, am_bk, Option.toList, List.cons_append, List.nil_append, Nat.reduceAdd, Nat.reduceEqDiff, Nat.reduceLeDiff, reduceIte, Nat.reduceLT, or_self, true_or, or_true, if_true, if_false, and_self, and_true, true_and, not_false_eq_true, not_true_eq_false, fd_Sheet_one_0, fd_Sheet_one_1, fd_Sheet_one_4, fd_Sheet_one_6, fd_Sheet_one_30, S.1, iu, l1]
    exact wp.refl w
theorem ww_two {d P : Nat} {x : Int32} {h : am_H} (w : wk P h) : am_Rt nm_pr (d + 2) mi_Sheet_two [.ref 14, .int x] h (fun o h' => o = .inl none ∧ wp P 0 h h') := by
  refine am_in' (d := d + 1) mt_Sheet_two 2 rfl rfl rfl ?_
  refine am_go [] 5 ?_
  simp only [am_wp, am_stp, am_en, am_as, am_pad, am_nth, am_set, am_st1, am_st2, am_kl, am_kill, am_mem, am_fv, am_tk, am_wt, am_bk, Option.toList, List.cons_append, List.nil_append, Nat.reduceAdd, Nat.reduceEqDiff, Nat.reduceLeDiff, reduceIte, Nat.reduceLT, or_self, true_or, or_true, if_true, if_false, and_self, and_true, true_and, not_false_eq_true, not_true_eq_false, fd_Sheet_two_0, fd_Sheet_two_1, fd_Sheet_two_2, fd_Sheet_two_4, fd_Sheet_two_5, w.sh.1.1]
  refine am_call (ww_one w) (fun o h1 q => ?_)
  obtain ⟨rfl, w1⟩ := q
  simp only [am_wp, am_stp, am_en, am_as, am_pad, am_nth, am_set, am_st1, am_st2, am_kl, am_kill, am_mem, am_fv, am_tk, am_wt, am_bk, Option.toList, List.cons_append, List.nil_append, Nat.reduceAdd, Nat.reduceEqDiff, Nat.reduceLeDiff, reduceIte, Nat.reduceLT, or_self, true_or, or_true, if_true, if_false, and_self, and_true, true_and, not_false_eq_true, not_true_eq_false]
  refine am_go [] 3 ?_
  simp only [am_wp, am_stp, am_en, am_as, am_pad, am_nth, am_set, am_st1, am_st2, am_kl, am_kill, am_mem, am_fv, am_tk, am_wt, am_bk, Option.toList, List.cons_append, List.nil_append, Nat.reduceAdd, Nat.reduceEqDiff, Nat.reduceLeDiff, reduceIte, Nat.reduceLT, or_self, true_or, or_true, if_true, if_false, and_self, and_true, true_and, not_false_eq_true, not_true_eq_false, fd_Sheet_two_8, fd_Sheet_two_9, fd_Sheet_two_10, w1.1.sh.1.1]
  refine am_call (ww_one w1.1) (fun o h2 q => ?_)
  obtain ⟨rfl, w2⟩ := q
  simp only [am_wp, am_stp, am_en, am_as, am_pad, am_nth, am_set, am_st1, am_st2, am_kl, am_kill, am_mem, am_fv, am_tk, am_wt, am_bk, Option.toList, List.cons_append, List.nil_append, Nat.reduceAdd, Nat.reduceEqDiff, Nat.reduceLeDiff, reduceIte, Nat.reduceLT, or_self, true_or, or_true, if_true, if_false, and_self, and_true, true_and, not_false_eq_true, not_true_eq_false]
  refine am_go [] 2 ?_
  simp only [am_wp, am_stp, am_en, am_as, am_pad, am_nth, am_set, am_st1, am_st2, am_kl, am_kill, am_mem, am_fv, am_tk, am_wt, am_bk, Option.toList, List.cons_append, List.nil_append, Nat.reduceAdd, Nat.reduceEqDiff, Nat.reduceLeDiff, reduceIte, Nat.reduceLT, or_self, true_or, or_true, if_true, if_false, and_self, and_true, true_and, not_false_eq_true, not_true_eq_false, fd_Sheet_two_13]
  exact (w1.trans w2).mono (by omega)
theorem ww_shclear {d P : Nat} {h : am_H} (w : wk P h) : am_Rt nm_pr (d + 1) mi_Sheet_clear [.ref 14] h (fun o h' => o = .inl none ∧ wp P 0 h h' ∧ am_L h' = am_L h) := by
  refine am_call (l2_clear w.sh.1) (fun o h' q => ?_)
  obtain ⟨q1, f, q2, q3, q4⟩ := q
  refine ⟨q1, wp.fi w f (fun a ha => ?_) (fun a ha j => ?_) (w.2.2.fi f (by decide) (by decide)), q4⟩
  · simp at ha
    exact cw_lt (by omega) (by omega)
  · simp at ha
    rcases ha with e | e
    · subst e
      by_cases ej : j = 1
      · subst ej
        rw [q3]
        exact wcell_14u (u := 0) (by omega)
      · exact wcell_14 ej
    · subst e
      exact wcell_free (by decide) (by omega)
theorem ww_beginPage {d P : Nat} {x : Int32} {h : am_H} (w : wk P h) : am_Rt nm_pr (d + 3) mi_Sheet_beginPage [.ref 14, .int x] h (fun o h' => o = .inl none ∧ wp P 0 h h') := by
  refine am_in' (d := d + 2) mt_Sheet_beginPage 2 rfl rfl rfl ?_
  refine am_go [] 2 ?_
  simp only [am_wp, am_stp, am_en, am_as, am_pad, am_nth, am_set, am_st1, am_st2, am_kl, am_kill, am_mem, am_fv, am_tk, am_wt, am_bk, Option.toList, List.cons_append, List.nil_append, Nat.reduceAdd, Nat.reduceEqDiff, Nat.reduceLeDiff, reduceIte, Nat.reduceLT, or_self, true_or, or_true, if_true, if_false, and_self, and_true, true_and, not_false_eq_true, not_true_eq_false, fd_Sheet_beginPage_0, fd_Sheet_beginPage_1, w.sh.1.1]
  refine am_call (ww_shclear w) (fun o h1 q => ?_)
  obtain ⟨rfl, w1, -⟩ := q
  simp only [am_wp, am_stp, am_en, am_as, am_pad, am_nth, am_set, am_st1, am_st2, am_kl, am_kill, am_mem, am_fv, am_tk, am_wt, am_bk, Option.toList, List.cons_append, List.nil_append, Nat.reduceAdd, Nat.reduceEqDiff, Nat.reduceLeDiff, reduceIte, Nat.reduceLT, or_self, true_or, or_true, if_true, if_false, and_self, and_true, true_and, not_false_eq_true, not_true_eq_false]
  refine am_go [] 3 ?_
  simp only [am_wp, am_stp, am_en, am_as, am_pad, am_nth, am_set, am_st1, am_st2, am_kl, am_kill, am_mem, am_fv, am_tk, am_wt, am_bk, Option.toList, List.cons_append, List.nil_append, Nat.reduceAdd, Nat.reduceEqDiff, Nat.reduceLeDiff, reduceIte, Nat.reduceLT, or_self, true_or, or_true, if_true, if_false, and_self, and_true, true_and, not_false_eq_true, not_true_eq_false, fd_Sheet_beginPage_4, fd_Sheet_beginPage_5, fd_Sheet_beginPage_6, w1.1.sh.1.1]
  refine am_call (ww_two w1.1) (fun o h2 q => ?_)
  obtain ⟨rfl, w2⟩ := q
  simp only [am_wp, am_stp, am_en, am_as, am_pad, am_nth, am_set, am_st1, am_st2, am_kl, am_kill, am_mem, am_fv, am_tk, am_wt, am_bk, Option.toList, List.cons_append, List.nil_append, Nat.reduceAdd, Nat.reduceEqDiff, Nat.reduceLeDiff, reduceIte, Nat.reduceLT, or_self, true_or, or_true, if_true, if_false, and_self, and_true, true_and, not_false_eq_true, not_true_eq_false]
  refine am_go [] 5 ?_
  simp only [am_wp, am_stp, am_en, am_as, am_pad, am_nth, am_set, am_st1, am_st2, am_kl, am_kill, am_mem, am_fv, am_tk, am_wt, am_bk, Option.toList, List.cons_append, List.nil_append, Nat.reduceAdd, Nat.reduceEqDiff, Nat.reduceLeDiff, reduceIte, Nat.reduceLT, or_self, true_or, or_true, if_true, if_false, and_self, and_true, true_and, not_false_eq_true, not_true_eq_false, fd_Sheet_beginPage_9, fd_Sheet_beginPage_10, fd_Sheet_beginPage_11, fd_Sheet_beginPage_14, w2.1.sh.1.1]
  exact ((w1.trans w2).mono (by omega)).s14u (u := 5) (by omega)
theorem ww_finishPage {d P : Nat} {x : Int32} {h : am_H} (w : wk P h) : am_Rt nm_pr (d + 1) mi_Sheet_finishPage [.ref 14, .int x] h (fun o h' => o = .inl none ∧ wp P 0 h h') := by
  refine am_call (l2_finishPage w.sh.1) (fun o h' q => ?_)
  obtain ⟨q1, f, -⟩ := q
  exact ⟨q1, wp.fi0 w f (by simp [cw])⟩
theorem ww_seal {d P : Nat} {x : Int32} {h : am_H} (w : wk P h) : am_Rt nm_pr (d + 2) mi_Sheet_seal [.ref 14, .int x] h (fun o h' => o = .inl none ∧ wp P 0 h h') := by
  refine am_call (l2_seal w.sh.1) (fun o h' q => ?_)
  obtain ⟨q1, f, -⟩ := q
  exact ⟨q1, wp.fi0 w f (by simp [cw])⟩
theorem ww_shared_loop {d P : Nat} {z y : Int64} {h : am_H} (w : wk P h) : ∀ (m c : Nat), m + c = 8 →
    am_Ex nm_pr d mt_Sheet_shared (10, [.ref 14, .long z, .retAddr 0, .long y, .retAddr 0, .int (nI c)], [], h) (fun o h' => (∃ n, n ≤ 8 ∧ o = .inl (some (.int (nI n)))) ∧ h' = h)
  | m, c, hm => by
    have k14 := w.sh.1.1
    have fin : am_Ex nm_pr d mt_Sheet_shared (49, [.ref 14, .long z, .retAddr 0, .long y, .retAddr 0, .int (nI c)], [], h) (fun o h' => (∃ n, n ≤ 8 ∧ o = .inl (some (.int (nI n)))) ∧ h' = h) := by
      refine am_go [] 2 ?_
      simp only [am_wp, am_stp, am_en, am_as, am_pad, am_nth, am_set, am_st1, am_st2, am_kl, am_kill, am_mem, am_fv, am_tk, am_wt, am_bk, Option.toList, List.cons_append, List.nil_append, Nat.reduceAdd, Nat.reduceEqDiff, Nat.reduceLeDiff, reduceIte, Nat.reduceLT, or_self, true_or, or_true, if_true, if_false, and_self, and_true, true_and, not_false_eq_true, not_true_eq_false, fd_Sheet_shared_49, fd_Sheet_shared_51]
      exact ⟨c, by omega, rfl⟩
    refine am_go [17, 49] 3 ?_
    simp only [am_wp, am_stp, am_en, am_as, am_pad, am_nth, am_set, am_st1, am_st2, am_kl, am_kill, am_mem, am_fv, am_tk, am_wt, am_bk, Option.toList, List.cons_append, List.nil_append, Nat.reduceAdd, Nat.reduceEqDiff, Nat.reduceLeDiff, reduceIte, Nat.reduceLT, or_self, true_or, or_true, if_true, if_false, and_self, and_true, true_and, not_false_eq_true, not_true_eq_false, fd_Sheet_shared_10, fd_Sheet_shared_11, fd_Sheet_shared_14, k14]
    refine wif ?_ fin
    cases m with
    | zero =>
      have e : c = 8 := by omega
      subst e
      have l8 : ¬ nI 8 < 8 := by decide
      refine am_go [24, 49] 3 ?_
      simp only [am_wp, am_stp, am_en, am_as, am_pad, am_nth, am_set, am_st1, am_st2, am_kl, am_kill, am_mem, am_fv, am_tk, am_wt, am_bk, Option.toList, List.cons_append, List.nil_append, Nat.reduceAdd, Nat.reduceEqDiff, Nat.reduceLeDiff, reduceIte, Nat.reduceLT, or_self, true_or, or_true, if_true, if_false, and_self, and_true, true_and, not_false_eq_true, not_true_eq_false, fd_Sheet_shared_17, fd_Sheet_shared_19, fd_Sheet_shared_21, l8]
      exact fin
    | succ m =>
      have l8 : nI c < 8 := nI_lt (b := 8) (by omega) (by decide)
      refine am_go [24, 49] 3 ?_
      simp only [am_wp, am_stp, am_en, am_as, am_pad, am_nth, am_set, am_st1, am_st2, am_kl, am_kill, am_mem, am_fv, am_tk, am_wt, am_bk, Option.toList, List.cons_append, List.nil_append, Nat.reduceAdd, Nat.reduceEqDiff, Nat.reduceLeDiff, reduceIte, Nat.reduceLT, or_self, true_or, or_true, if_true, if_false, and_self, and_true, true_and, not_false_eq_true, not_true_eq_false, fd_Sheet_shared_17, fd_Sheet_shared_19, fd_Sheet_shared_21, l8]
      refine am_go [43, 49] 12 ?_
      simp only [am_wp, am_stp, am_en, am_as, am_pad, am_nth, am_set, am_st1, am_st2, am_kl, am_kill, am_mem, am_fv, am_tk, am_wt, am_bk, Option.toList, List.cons_append, List.nil_append, Nat.reduceAdd, Nat.reduceEqDiff, Nat.reduceLeDiff, reduceIte, Nat.reduceLT, or_self, true_or, or_true, if_true, if_false, and_self, and_true, true_and, not_false_eq_true, not_true_eq_false, fd_Sheet_shared_24, fd_Sheet_shared_25, fd_Sheet_shared_27, fd_Sheet_shared_29, fd_Sheet_shared_31, fd_Sheet_shared_32, fd_Sheet_shared_33, fd_Sheet_shared_34, fd_Sheet_shared_37, fd_Sheet_shared_38, fd_Sheet_shared_39, fd_Sheet_shared_40]
      refine wif ?_ fin
      refine am_go [10] 2 ?_
      simp only [am_wp, am_stp, am_en, am_as, am_pad, am_nth, am_set, am_st1, am_st2, am_kl, am_kill, am_mem, am_fv, am_tk, am_wt, am_bk, Option.toList, List.cons_append, List.nil_append, Nat.reduceAdd, Nat.reduceEqDiff, Nat.reduceLeDiff, reduceIte, Nat.reduceLT, or_self, true_or, or_true, if_true, if_false, and_self, and_true, true_and, not_false_eq_true, not_true_eq_false, fd_Sheet_shared_43, fd_Sheet_shared_46, nI_1]
      exact ww_shared_loop w m (c + 1) (by omega)
theorem ww_shared {d P : Nat} {z : Int64} {h : am_H} (w : wk P h) : am_Rt nm_pr (d + 1) mi_Sheet_shared [.ref 14, .long z] h (fun o h' => (∃ n, n ≤ 8 ∧ o = .inl (some (.int (nI n)))) ∧ h' = h) := by
  refine am_in' mt_Sheet_shared 6 rfl rfl rfl ?_
  refine am_go [10] 7 ?_
  simp only [am_wp, am_stp, am_en, am_as, am_pad, am_nth, am_set, am_st1, am_st2, am_kl, am_kill, am_mem, am_fv, am_tk, am_wt, am_bk, Option.toList, List.cons_append, List.nil_append, Nat.reduceAdd, Nat.reduceEqDiff, Nat.reduceLeDiff, reduceIte, Nat.reduceLT, or_self, true_or, or_true, if_true, if_false, and_self, and_true, true_and, not_false_eq_true, not_true_eq_false, fd_Sheet_shared_0, fd_Sheet_shared_1, fd_Sheet_shared_2, fd_Sheet_shared_5, fd_Sheet_shared_6, fd_Sheet_shared_7, fd_Sheet_shared_8, w.sh.1.1]
  exact ww_shared_loop w 8 0 rfl
