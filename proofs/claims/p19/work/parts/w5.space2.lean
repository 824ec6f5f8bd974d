/-! THE SPACE, WEAKLY, 2 -/
theorem ww_clear_loop {d P : Nat} {h : am_H} : ∀ (m i : Nat) (g : am_H), m + i = P → wp P 0 h g →
    am_Ex nm_pr d mt_Space_clear (2, [.ref 21, .int (nI i)], [], g) (fun o h' => o = .inl none ∧ wp P 0 h h')
  | 0, i, g, hm, w => by
    obtain ⟨⟨k21, r1, r2, r3, k22, k23, k24⟩, ⟨n22, n23, n24⟩, i0, P4, P1⟩ := w.1.sp
    have e : i = P := by omega
    subst e
    have l1 : ¬ nI i < nI i := nI_nlt (Nat.le_refl _) (by omega)
    refine am_go [10] 12 ?_
    simp only [am_wp, am_stp, am_en, am_as, am_pad, am_nth, am_set, am_st1, am_st2, am_kl, am_kill, am_mem, am_fv, am_tk, am_wt, am_bk, Option.toList, List.cons_append, List.nil_append, Nat.reduceAdd, Nat.reduceEqDiff, Nat.reduceLeDiff, reduceIte, Nat.reduceLT, or_self, true_or, or_true, if_true, if_false, and_self, and_true, true_and, not_false_eq_true, not_true_eq_false, fd_Space_clear_2, fd_Space_clear_3, fd_Space_clear_4, fd_Space_clear_7, fd_Space_clear_23, fd_Space_clear_24, fd_Space_clear_25, fd_Space_clear_28, fd_Space_clear_29, fd_Space_clear_30, fd_Space_clear_33, k21, i0, l1]
    exact w.sI (cw_lt (by omega) (by omega)) (fun e => absurd e (by decide)) (wcell_21 (by decide))
  | m + 1, i, g, hm, w => by
    obtain ⟨⟨k21, r1, r2, r3, k22, k23, k24⟩, ⟨n22, n23, n24⟩, i0, P4, P1⟩ := w.1.sp
    have l1 : nI i < nI P := nI_lt (by omega) (by omega)
    have i1 := am_inb (c := i) (N := P) (by omega) (by omega)
    have q1 : (nI i).toNatClampNeg = i := nI_clamp (by omega)
    refine am_go [10, 23] 4 ?_
    simp only [am_wp, am_stp, am_en, am_as, am_pad, am_nth, am_set, am_st1, am_st2, am_kl, am_kill, am_mem, am_fv, am_tk, am_wt, am_bk, Option.toList, List.cons_append, List.nil_append, Nat.reduceAdd, Nat.reduceEqDiff, Nat.reduceLeDiff, reduceIte, Nat.reduceLT, or_self, true_or, or_true, if_true, if_false, and_self, and_true, true_and, not_false_eq_true, not_true_eq_false, fd_Space_clear_2, fd_Space_clear_3, fd_Space_clear_4, fd_Space_clear_7, k21, i0, l1]
    refine am_go [2] 8 ?_
    simp only [am_wp, am_stp, am_en, am_as, am_pad, am_nth, am_set, am_st1, am_st2, am_kl, am_kill, am_mem, am_fv, am_tk, am_wt, am_bk, Option.toList, List.cons_append, List.nil_append, Nat.reduceAdd, Nat.reduceEqDiff, Nat.reduceLeDiff, reduceIte, Nat.reduceLT, or_self, true_or, or_true, if_true, if_false, and_self, and_true, true_and, not_false_eq_true, not_true_eq_false, fd_Space_clear_10, fd_Space_clear_11, fd_Space_clear_14, fd_Space_clear_15, fd_Space_clear_16, fd_Space_clear_17, fd_Space_clear_20, k21, r1, k22, n22, i1, q1, nI_1]
    exact ww_clear_loop m (i + 1) _ (by omega) (w.sI (cw_lt (by omega) (by omega)) (fun e => absurd e (by decide)) (wcell_free (by decide) (by omega)))
theorem ww_clear {d P : Nat} {h : am_H} (w : wk P h) : am_Rt nm_pr (d + 1) mi_Space_clear [.ref 21] h (fun o h' => o = .inl none ∧ wp P 0 h h') := by
  refine am_in' mt_Space_clear 2 rfl rfl rfl ?_
  refine am_go [2] 2 ?_
  simp only [am_wp, am_stp, am_en, am_as, am_pad, am_nth, am_set, am_st1, am_st2, am_kl, am_kill, am_mem, am_fv, am_tk, am_wt, am_bk, Option.toList, List.cons_append, List.nil_append, Nat.reduceAdd, Nat.reduceEqDiff, Nat.reduceLeDiff, reduceIte, Nat.reduceLT, or_self, true_or, or_true, if_true, if_false, and_self, and_true, true_and, not_false_eq_true, not_true_eq_false, fd_Space_clear_0, fd_Space_clear_1]
  exact ww_clear_loop P 0 h (by omega) (wp.refl w)
theorem ww_least_loop {d P : Nat} {x : Int32} {h : am_H} (w : wk P h) : ∀ (m i : Nat), m + i = P →
    am_Ex nm_pr d mt_Space_leastFree (6, [.ref 21, .int x, .int (nI i)], [], h) (fun o h' => (∃ v, o = .inl (some (.int v))) ∧ h' = h)
  | 0, i, hm => by
    obtain ⟨⟨k21, r1, r2, r3, k22, k23, k24⟩, ⟨n22, n23, n24⟩, i0, P4, P1⟩ := w.sp
    have e : i = P := by omega
    subst e
    have l1 : ¬ nI i < nI i := nI_nlt (Nat.le_refl _) (by omega)
    refine am_go [14] 6 ?_
    simp only [am_wp, am_stp, am_en, am_as, am_pad, am_nth, am_set, am_st1, am_st2, am_kl, am_kill, am_mem, am_fv, am_tk, am_wt, am_bk, Option.toList, List.cons_append, List.nil_append, Nat.reduceAdd, Nat.reduceEqDiff, Nat.reduceLeDiff, reduceIte, Nat.reduceLT, or_self, true_or, or_true, if_true, if_false, and_self, and_true, true_and, not_false_eq_true, not_true_eq_false, fd_Space_leastFree_6, fd_Space_leastFree_7, fd_Space_leastFree_8, fd_Space_leastFree_11, fd_Space_leastFree_31, fd_Space_leastFree_32, k21, i0, l1]
    exact ⟨_, rfl⟩
  | m + 1, i, hm => by
    obtain ⟨⟨k21, r1, r2, r3, k22, k23, k24⟩, ⟨n22, n23, n24⟩, i0, P4, P1⟩ := w.sp
    have l1 : nI i < nI P := nI_lt (by omega) (by omega)
    have i1 := am_inb (c := i) (N := P) (by omega) (by omega)
    have q1 : (nI i).toNatClampNeg = i := nI_clamp (by omega)
    refine am_go [14, 31] 4 ?_
    simp only [am_wp, am_stp, am_en, am_as, am_pad, am_nth, am_set, am_st1, am_st2, am_kl, am_kill, am_mem, am_fv, am_tk, am_wt, am_bk, Option.toList, List.cons_append, List.nil_append, Nat.reduceAdd, Nat.reduceEqDiff, Nat.reduceLeDiff, reduceIte, Nat.reduceLT, or_self, true_or, or_true, if_true, if_false, and_self, and_true, true_and, not_false_eq_true, not_true_eq_false, fd_Space_leastFree_6, fd_Space_leastFree_7, fd_Space_leastFree_8, fd_Space_leastFree_11, k21, i0, l1]
    refine am_go [23, 25] 5 ?_
    simp only [am_wp, am_stp, am_en, am_as, am_pad, am_nth, am_set, am_st1, am_st2, am_kl, am_kill, am_mem, am_fv, am_tk, am_wt, am_bk, Option.toList, List.cons_append, List.nil_append, Nat.reduceAdd, Nat.reduceEqDiff, Nat.reduceLeDiff, reduceIte, Nat.reduceLT, or_self, true_or, or_true, if_true, if_false, and_self, and_true, true_and, not_false_eq_true, not_true_eq_false, fd_Space_leastFree_14, fd_Space_leastFree_15, fd_Space_leastFree_18, fd_Space_leastFree_19, fd_Space_leastFree_20, k21, r1, k22, n22, i1, q1]
    refine wif ?_ ?_
    · refine am_go [] 2 ?_
      simp only [am_wp, am_stp, am_en, am_as, am_pad, am_nth, am_set, am_st1, am_st2, am_kl, am_kill, am_mem, am_fv, am_tk, am_wt, am_bk, Option.toList, List.cons_append, List.nil_append, Nat.reduceAdd, Nat.reduceEqDiff, Nat.reduceLeDiff, reduceIte, Nat.reduceLT, or_self, true_or, or_true, if_true, if_false, and_self, and_true, true_and, not_false_eq_true, not_true_eq_false, fd_Space_leastFree_23, fd_Space_leastFree_24]
      exact ⟨_, rfl⟩
    · refine am_go [6] 2 ?_
      simp only [am_wp, am_stp, am_en, am_as, am_pad, am_nth, am_set, am_st1, am_st2, am_kl, am_kill, am_mem, am_fv, am_tk, am_wt, am_bk, Option.toList, List.cons_append, List.nil_append, Nat.reduceAdd, Nat.reduceEqDiff, Nat.reduceLeDiff, reduceIte, Nat.reduceLT, or_self, true_or, or_true, if_true, if_false, and_self, and_true, true_and, not_false_eq_true, not_true_eq_false, fd_Space_leastFree_25, fd_Space_leastFree_28, nI_1]
      exact ww_least_loop w m (i + 1) (by omega)
theorem wx_2 (x : Int32) : ∃ v, am_mx 2 x = v ∧ ¬ v < 2 := by
  refine ⟨_, rfl, ?_⟩
  unfold am_mx
  by_cases e : (2 : Int32) < x
  · rw [if_pos e]
    intro q
    have a1 : (2 : Int32).toInt = 2 := by decide
    rw [Int32.lt_iff_toInt_lt, a1] at e q
    omega
  · rw [if_neg e]; decide
theorem ww_least {d P : Nat} {x : Int32} {h : am_H} (w : wk P h) : am_Rt nm_pr (d + 1) mi_Space_leastFree [.ref 21, .int x] h (fun o h' => (∃ v, o = .inl (some (.int v))) ∧ h' = h) := by
  obtain ⟨⟨k21, r1, r2, r3, k22, k23, k24⟩, ⟨n22, n23, n24⟩, i0, P4, P1⟩ := id w.sp
  obtain ⟨v, ev, hv⟩ := wx_2 x
  refine am_in' mt_Space_leastFree 3 rfl rfl rfl ?_
  refine am_go [6] 4 ?_
  simp only [am_wp, am_stp, am_en, am_as, am_pad, am_nth, am_set, am_st1, am_st2, am_kl, am_kill, am_mem, am_fv, am_tk, am_wt, am_bk, Option.toList, List.cons_append, List.nil_append, Nat.reduceAdd, Nat.reduceEqDiff, Nat.reduceLeDiff, reduceIte, Nat.reduceLT, or_self, true_or, or_true, if_true, if_false, and_self, and_true, true_and, not_false_eq_true, not_true_eq_false, fd_Space_leastFree_0, fd_Space_leastFree_1, fd_Space_leastFree_2, fd_Space_leastFree_5, ev]
  by_cases e : v < nI P
  · obtain ⟨p, p1, p2, rfl⟩ := in_nat2 P1 hv e
    exact ww_least_loop w (P - p) p (by omega)
  · refine am_go [14] 6 ?_
    simp only [am_wp, am_stp, am_en, am_as, am_pad, am_nth, am_set, am_st1, am_st2, am_kl, am_kill, am_mem, am_fv, am_tk, am_wt, am_bk, Option.toList, List.cons_append, List.nil_append, Nat.reduceAdd, Nat.reduceEqDiff, Nat.reduceLeDiff, reduceIte, Nat.reduceLT, or_self, true_or, or_true, if_true, if_false, and_self, and_true, true_and, not_false_eq_true, not_true_eq_false, fd_Space_leastFree_6, fd_Space_leastFree_7, fd_Space_leastFree_8, fd_Space_leastFree_11, fd_Space_leastFree_31, fd_Space_leastFree_32, k21, i0, e]
    exact ⟨_, rfl⟩
theorem nmax {i : Nat} {v : Int32} (h : i = 2147483647) : ¬ nI i < v := by
  subst h
  rw [Int32.lt_iff_toInt_lt]
  have a1 : (nI 2147483647).toInt = 2147483647 := by decide
  have := Int32.toInt_lt v
  omega
theorem ww_giveBack_loop {d P a : Nat} {h : am_H} (r : ruh h a) : ∀ (m i : Nat) (v : Int32) (g : am_H), m + i = 2147483647 → wp P 0 h g →
    am_Ex nm_pr (d + 1) mt_Space_giveBack (7, [.ref 21, .ref a, .int v, .int (nI i)], [], g) (fun o h' => o = .inl none ∧ wp P 0 h h')
  | m, i, v, g, hm, w => by
    obtain ⟨⟨k21, r1, r2, r3, k22, k23, k24⟩, ⟨n22, n23, n24⟩, i0, P4, P1⟩ := w.1.sp
    have rg := w.2.ru r
    have one0 : ¬ (1 : Int32) = 0 := by decide
    have fin : ∀ u : Int32, am_Ex nm_pr (d + 1) mt_Space_giveBack (69, [.ref 21, .ref a, .int u, .int (nI i)], [], g) (fun o h' => o = .inl none ∧ wp P 0 h h') := fun u => by
      refine am_go [] 2 ?_
      simp only [am_wp, am_stp, am_en, am_as, am_pad, am_nth, am_set, am_st1, am_st2, am_kl, am_kill, am_mem, am_fv, am_tk, am_wt, am_bk, Option.toList, List.cons_append, List.nil_append, Nat.reduceAdd, Nat.reduceEqDiff, Nat.reduceLeDiff, reduceIte, Nat.reduceLT, or_self, true_or, or_true, if_true, if_false, and_self, and_true, true_and, not_false_eq_true, not_true_eq_false, fd_Space_giveBack_69]
      exact w
    refine am_go [15, 69] 4 ?_
    simp only [am_wp, am_stp, am_en, am_as, am_pad, am_nth, am_set, am_st1, am_st2, am_kl, am_kill, am_mem, am_fv, am_tk, am_wt, am_bk, Option.toList, List.cons_append, List.nil_append, Nat.reduceAdd, Nat.reduceEqDiff, Nat.reduceLeDiff, reduceIte, Nat.reduceLT, or_self, true_or, or_true, if_true, if_false, and_self, and_true, true_and, not_false_eq_true, not_true_eq_false, fd_Space_giveBack_7, fd_Space_giveBack_8, fd_Space_giveBack_9, fd_Space_giveBack_12, rg.1]
    cases m with
    | zero =>
      have l1 : ¬ nI i < am_I g a 4 := nmax (by omega)
      simp only [l1, am_wp, am_stp, am_en, am_as, am_pad, am_nth, am_set, am_st1, am_st2, am_kl, am_kill, am_mem, am_fv, am_tk, am_wt, am_bk, Option.toList, List.cons_append, List.nil_append, Nat.reduceAdd, Nat.reduceEqDiff, Nat.reduceLeDiff, reduceIte, Nat.reduceLT, or_self, true_or, or_true, if_true, if_false, and_self, and_true, true_and, not_false_eq_true, not_true_eq_false]
      exact fin v
    | succ m =>
      refine wif ?_ (fin v)
      refine am_go [] 3 ?_
      simp only [am_wp, am_stp, am_en, am_as, am_pad, am_nth, am_set, am_st1, am_st2, am_kl, am_kill, am_mem, am_fv, am_tk, am_wt, am_bk, Option.toList, List.cons_append, List.nil_append, Nat.reduceAdd, Nat.reduceEqDiff, Nat.reduceLeDiff, reduceIte, Nat.reduceLT, or_self, true_or, or_true, if_true, if_false, and_self, and_true, true_and, not_false_eq_true, not_true_eq_false, fd_Space_giveBack_15, fd_Space_giveBack_16, fd_Space_giveBack_17, k21]
      refine am_call (ww_has w.1) (fun o g1 q => ?_)
      obtain ⟨rfl, q⟩ := q
      rcases q with ⟨rfl, p, p1, p2, rfl⟩ | rfl
      · have i1 := am_inb (c := p) (N := P) p2 (by omega)
        have q1 : (nI p).toNatClampNeg = p := nI_clamp (by omega)
        simp only [am_wp, am_stp, am_en, am_as, am_pad, am_nth, am_set, am_st1, am_st2, am_kl, am_kill, am_mem, am_fv, am_tk, am_wt, am_bk, Option.toList, List.cons_append, List.nil_append, Nat.reduceAdd, Nat.reduceEqDiff, Nat.reduceLeDiff, reduceIte, Nat.reduceLT, or_self, true_or, or_true, if_true, if_false, and_self, and_true, true_and, not_false_eq_true, not_true_eq_false]
        have w1 := w.sI (a := 22) (j := p) (v := am_I g1 22 p - 1) (cw_lt (by omega) (by omega)) (fun e => absurd e (by decide)) (wcell_free (by decide) (by omega))
        have go : ∀ (x y : Int32) (g2 : am_H), wp P 0 h g2 → am_Ex nm_pr (d + 1) mt_Space_giveBack (52, [.ref 21, .ref a, .int (nI p), .int (nI i)], [.int x, .int y, .ref 21], g2) (fun o h' => o = .inl none ∧ wp P 0 h h') := fun x y g2 w2 => by
          have j21 := w2.1.kd 21 9 (by decide)
          have w3 := w2.sI (a := 21) (j := 4) (v := y + x) (cw_lt (by omega) (by omega)) (fun e => absurd e (by decide)) (wcell_21 (by decide))
          refine am_go [] 2 ?_
          simp only [am_wp, am_stp, am_en, am_as, am_pad, am_nth, am_set, am_st1, am_st2, am_kl, am_kill, am_mem, am_fv, am_tk, am_wt, am_bk, Option.toList, List.cons_append, List.nil_append, Nat.reduceAdd, Nat.reduceEqDiff, Nat.reduceLeDiff, reduceIte, Nat.reduceLT, or_self, true_or, or_true, if_true, if_false, and_self, and_true, true_and, not_false_eq_true, not_true_eq_false, fd_Space_giveBack_52, fd_Space_giveBack_53, j21]
          generalize am_sI g2 21 4 (y + x) = g3 at *
          obtain ⟨⟨k21, r1, r2, r3, k22, k23, k24⟩, ⟨n22, n23, n24⟩, i0, -, -⟩ := w3.1.sp
          refine am_go [7] 7 ?_
          simp only [am_wp, am_stp, am_en, am_as, am_pad, am_nth, am_set, am_st1, am_st2, am_kl, am_kill, am_mem, am_fv, am_tk, am_wt, am_bk, Option.toList, List.cons_append, List.nil_append, Nat.reduceAdd, Nat.reduceEqDiff, Nat.reduceLeDiff, reduceIte, Nat.reduceLT, or_self, true_or, or_true, if_true, if_false, and_self, and_true, true_and, not_false_eq_true, not_true_eq_false, fd_Space_giveBack_56, fd_Space_giveBack_57, fd_Space_giveBack_60, fd_Space_giveBack_61, fd_Space_giveBack_62, fd_Space_giveBack_63, fd_Space_giveBack_66, k21, r2, k23, n23, i1, q1, nI_1]
          exact ww_giveBack_loop r m (i + 1) _ g3 (by omega) w3
        refine am_go [69, 23] 1 ?_
        simp only [am_wp, am_stp, am_en, am_as, am_pad, am_nth, am_set, am_st1, am_st2, am_kl, am_kill, am_mem, am_fv, am_tk, am_wt, am_bk, Option.toList, List.cons_append, List.nil_append, Nat.reduceAdd, Nat.reduceEqDiff, Nat.reduceLeDiff, reduceIte, Nat.reduceLT, or_self, true_or, or_true, if_true, if_false, and_self, and_true, true_and, not_false_eq_true, not_true_eq_false, fd_Space_giveBack_20, one0]
        refine am_go [] 8 ?_
        simp only [am_wp, am_stp, am_en, am_as, am_pad, am_nth, am_set, am_st1, am_st2, am_kl, am_kill, am_mem, am_fv, am_tk, am_wt, am_bk, Option.toList, List.cons_append, List.nil_append, Nat.reduceAdd, Nat.reduceEqDiff, Nat.reduceLeDiff, reduceIte, Nat.reduceLT, or_self, true_or, or_true, if_true, if_false, and_self, and_true, true_and, not_false_eq_true, not_true_eq_false, fd_Space_giveBack_23, fd_Space_giveBack_24, fd_Space_giveBack_27, fd_Space_giveBack_28, fd_Space_giveBack_29, fd_Space_giveBack_30, fd_Space_giveBack_31, fd_Space_giveBack_32, k21, r1, k22, n22, i1, q1]
        generalize am_sI g1 22 p (am_I g1 22 p - 1) = g2 at *
        obtain ⟨⟨k21, r1, r2, r3, k22, k23, k24⟩, ⟨n22, n23, n24⟩, i0, -, -⟩ := w1.1.sp
        refine am_go [47, 51] 8 ?_
        simp only [am_wp, am_stp, am_en, am_as, am_pad, am_nth, am_set, am_st1, am_st2, am_kl, am_kill, am_mem, am_fv, am_tk, am_wt, am_bk, Option.toList, List.cons_append, List.nil_append, Nat.reduceAdd, Nat.reduceEqDiff, Nat.reduceLeDiff, reduceIte, Nat.reduceLT, or_self, true_or, or_true, if_true, if_false, and_self, and_true, true_and, not_false_eq_true, not_true_eq_false, fd_Space_giveBack_33, fd_Space_giveBack_34, fd_Space_giveBack_35, fd_Space_giveBack_38, fd_Space_giveBack_39, fd_Space_giveBack_42, fd_Space_giveBack_43, fd_Space_giveBack_44, k21, r1, k22, n22, i1, q1]
        refine wif ?_ ?_
        · refine am_go [52] 2 ?_
          simp only [am_wp, am_stp, am_en, am_as, am_pad, am_nth, am_set, am_st1, am_st2, am_kl, am_kill, am_mem, am_fv, am_tk, am_wt, am_bk, Option.toList, List.cons_append, List.nil_append, Nat.reduceAdd, Nat.reduceEqDiff, Nat.reduceLeDiff, reduceIte, Nat.reduceLT, or_self, true_or, or_true, if_true, if_false, and_self, and_true, true_and, not_false_eq_true, not_true_eq_false, fd_Space_giveBack_47, fd_Space_giveBack_48]
          exact go _ _ _ w1
        · refine am_go [52] 1 ?_
          simp only [am_wp, am_stp, am_en, am_as, am_pad, am_nth, am_set, am_st1, am_st2, am_kl, am_kill, am_mem, am_fv, am_tk, am_wt, am_bk, Option.toList, List.cons_append, List.nil_append, Nat.reduceAdd, Nat.reduceEqDiff, Nat.reduceLeDiff, reduceIte, Nat.reduceLT, or_self, true_or, or_true, if_true, if_false, and_self, and_true, true_and, not_false_eq_true, not_true_eq_false, fd_Space_giveBack_51]
          exact go _ _ _ w1
      · simp only [am_wp, am_stp, am_en, am_as, am_pad, am_nth, am_set, am_st1, am_st2, am_kl, am_kill, am_mem, am_fv, am_tk, am_wt, am_bk, Option.toList, List.cons_append, List.nil_append, Nat.reduceAdd, Nat.reduceEqDiff, Nat.reduceLeDiff, reduceIte, Nat.reduceLT, or_self, true_or, or_true, if_true, if_false, and_self, and_true, true_and, not_false_eq_true, not_true_eq_false]
        refine am_go [69, 23] 1 ?_
        simp only [am_wp, am_stp, am_en, am_as, am_pad, am_nth, am_set, am_st1, am_st2, am_kl, am_kill, am_mem, am_fv, am_tk, am_wt, am_bk, Option.toList, List.cons_append, List.nil_append, Nat.reduceAdd, Nat.reduceEqDiff, Nat.reduceLeDiff, reduceIte, Nat.reduceLT, or_self, true_or, or_true, if_true, if_false, and_self, and_true, true_and, not_false_eq_true, not_true_eq_false, fd_Space_giveBack_20]
        exact fin v
theorem ww_giveBack {d P a : Nat} {h : am_H} (w : wk P h) (r : ruh h a) : am_Rt nm_pr (d + 2) mi_Space_giveBack [.ref 21, .ref a] h (fun o h' => o = .inl none ∧ wp P 0 h h') := by
  refine am_in' (d := d + 1) mt_Space_giveBack 4 rfl rfl rfl ?_
  refine am_go [7] 5 ?_
  simp only [am_wp, am_stp, am_en, am_as, am_pad, am_nth, am_set, am_st1, am_st2, am_kl, am_kill, am_mem, am_fv, am_tk, am_wt, am_bk, Option.toList, List.cons_append, List.nil_append, Nat.reduceAdd, Nat.reduceEqDiff, Nat.reduceLeDiff, reduceIte, Nat.reduceLT, or_self, true_or, or_true, if_true, if_false, and_self, and_true, true_and, not_false_eq_true, not_true_eq_false, fd_Space_giveBack_0, fd_Space_giveBack_1, fd_Space_giveBack_4, fd_Space_giveBack_5, fd_Space_giveBack_6, r.1]
  exact ww_giveBack_loop r 2147483647 0 _ h (by omega) (wp.refl w)
