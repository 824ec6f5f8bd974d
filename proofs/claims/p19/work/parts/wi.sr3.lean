/-! SortedRuns' OWN METHODS, WEAKLY, 3 -/
theorem ww_fillHead {d P : Nat} {x : Int32} {h : am_H} (w : wk P h) : am_Rt nm_pr (d + 3) mi_SR_fillHead [.ref 2, .int x] h (fun o h' => o = .inl none ∧ wp P 0 h h') := by
  refine am_in' (d := d + 2) mt_SR_fillHead 4 rfl rfl rfl ?_
  refine am_go [] 3 ?_
  simp only [am_wp, am_stp, am_en, am_as, am_pad, am_nth, am_set, am_st1, am_st2, am_kl, am_kill, am_mem, am_fv, am_tk, am_wt, am_bk, Option.toList, List.cons_append, List.nil_append, Nat.reduceAdd, Nat.reduceEqDiff, Nat.reduceLeDiff, reduceIte, Nat.reduceLT, or_self, true_or, or_true, if_true, if_false, and_self, and_true, true_and, not_false_eq_true, not_true_eq_false, fd_SR_fillHead_0, fd_SR_fillHead_1, fd_SR_fillHead_4, w.kd 2 1 (by decide), w.R 2 8 14 (by decide), w.kd 14 8 (by decide)]
  refine am_call (ww_shclear w) (fun o g1 q => ?_)
  obtain ⟨rfl, w1, -⟩ := q
  simp only [am_wp, am_stp, am_en, am_as, am_pad, am_nth, am_set, am_st1, am_st2, am_kl, am_kill, am_mem, am_fv, am_tk, am_wt, am_bk, Option.toList, List.cons_append, List.nil_append, Nat.reduceAdd, Nat.reduceEqDiff, Nat.reduceLeDiff, reduceIte, Nat.reduceLT, or_self, true_or, or_true, if_true, if_false, and_self, and_true, true_and, not_false_eq_true, not_true_eq_false]
  refine am_go [] 6 ?_
  simp only [am_wp, am_stp, am_en, am_as, am_pad, am_nth, am_set, am_st1, am_st2, am_kl, am_kill, am_mem, am_fv, am_tk, am_wt, am_bk, Option.toList, List.cons_append, List.nil_append, Nat.reduceAdd, Nat.reduceEqDiff, Nat.reduceLeDiff, reduceIte, Nat.reduceLT, or_self, true_or, or_true, if_true, if_false, and_self, and_true, true_and, not_false_eq_true, not_true_eq_false, fd_SR_fillHead_7, fd_SR_fillHead_8, fd_SR_fillHead_11, fd_SR_fillHead_12, fd_SR_fillHead_14, fd_SR_fillHead_15, w1.1.kd 2 1 (by decide), w1.1.R 2 8 14 (by decide), w1.1.kd 14 8 (by decide)]
  refine am_call (ww_two w1.1) (fun o g2 q => ?_)
  obtain ⟨rfl, w2⟩ := q
  have w2 := (w1.trans w2).mono (l := 0) (by omega)
  simp only [am_wp, am_stp, am_en, am_as, am_pad, am_nth, am_set, am_st1, am_st2, am_kl, am_kill, am_mem, am_fv, am_tk, am_wt, am_bk, Option.toList, List.cons_append, List.nil_append, Nat.reduceAdd, Nat.reduceEqDiff, Nat.reduceLeDiff, reduceIte, Nat.reduceLT, or_self, true_or, or_true, if_true, if_false, and_self, and_true, true_and, not_false_eq_true, not_true_eq_false]
  refine am_go [] 4 ?_
  simp only [am_wp, am_stp, am_en, am_as, am_pad, am_nth, am_set, am_st1, am_st2, am_kl, am_kill, am_mem, am_fv, am_tk, am_wt, am_bk, Option.toList, List.cons_append, List.nil_append, Nat.reduceAdd, Nat.reduceEqDiff, Nat.reduceLeDiff, reduceIte, Nat.reduceLT, or_self, true_or, or_true, if_true, if_false, and_self, and_true, true_and, not_false_eq_true, not_true_eq_false, fd_SR_fillHead_18, fd_SR_fillHead_19, fd_SR_fillHead_22, fd_SR_fillHead_23, w2.1.kd 2 1 (by decide), w2.1.R 2 8 14 (by decide), w2.1.kd 14 8 (by decide)]
  refine am_call (ww_two w2.1) (fun o g3 q => ?_)
  obtain ⟨rfl, w3⟩ := q
  have w3 := (w2.trans w3).mono (l := 0) (by omega)
  simp only [am_wp, am_stp, am_en, am_as, am_pad, am_nth, am_set, am_st1, am_st2, am_kl, am_kill, am_mem, am_fv, am_tk, am_wt, am_bk, Option.toList, List.cons_append, List.nil_append, Nat.reduceAdd, Nat.reduceEqDiff, Nat.reduceLeDiff, reduceIte, Nat.reduceLT, or_self, true_or, or_true, if_true, if_false, and_self, and_true, true_and, not_false_eq_true, not_true_eq_false]
  refine am_go [] 5 ?_
  simp only [am_wp, am_stp, am_en, am_as, am_pad, am_nth, am_set, am_st1, am_st2, am_kl, am_kill, am_mem, am_fv, am_tk, am_wt, am_bk, Option.toList, List.cons_append, List.nil_append, Nat.reduceAdd, Nat.reduceEqDiff, Nat.reduceLeDiff, reduceIte, Nat.reduceLT, or_self, true_or, or_true, if_true, if_false, and_self, and_true, true_and, not_false_eq_true, not_true_eq_false, fd_SR_fillHead_26, fd_SR_fillHead_27, fd_SR_fillHead_30, fd_SR_fillHead_31, fd_SR_fillHead_34, w3.1.kd 2 1 (by decide), w3.1.R 2 8 14 (by decide), w3.1.kd 14 8 (by decide)]
  refine am_call (ww_two w3.1) (fun o g4 q => ?_)
  obtain ⟨rfl, w4⟩ := q
  have w4 := (w3.trans w4).mono (l := 0) (by omega)
  simp only [am_wp, am_stp, am_en, am_as, am_pad, am_nth, am_set, am_st1, am_st2, am_kl, am_kill, am_mem, am_fv, am_tk, am_wt, am_bk, Option.toList, List.cons_append, List.nil_append, Nat.reduceAdd, Nat.reduceEqDiff, Nat.reduceLeDiff, reduceIte, Nat.reduceLT, or_self, true_or, or_true, if_true, if_false, and_self, and_true, true_and, not_false_eq_true, not_true_eq_false]
  refine am_go [] 6 ?_
  simp only [am_wp, am_stp, am_en, am_as, am_pad, am_nth, am_set, am_st1, am_st2, am_kl, am_kill, am_mem, am_fv, am_tk, am_wt, am_bk, Option.toList, List.cons_append, List.nil_append, Nat.reduceAdd, Nat.reduceEqDiff, Nat.reduceLeDiff, reduceIte, Nat.reduceLT, or_self, true_or, or_true, if_true, if_false, and_self, and_true, true_and, not_false_eq_true, not_true_eq_false, fd_SR_fillHead_37, fd_SR_fillHead_38, fd_SR_fillHead_41, fd_SR_fillHead_42, fd_SR_fillHead_45, fd_SR_fillHead_48, w4.1.kd 2 1 (by decide), w4.1.R 2 8 14 (by decide), w4.1.kd 14 8 (by decide), w4.1.R 2 3 8 (by decide), w4.1.kd 8 6 (by decide)]
  refine am_call (ww_one w4.1) (fun o g5 q => ?_)
  obtain ⟨rfl, w5⟩ := q
  simp only [am_wp, am_stp, am_en, am_as, am_pad, am_nth, am_set, am_st1, am_st2, am_kl, am_kill, am_mem, am_fv, am_tk, am_wt, am_bk, Option.toList, List.cons_append, List.nil_append, Nat.reduceAdd, Nat.reduceEqDiff, Nat.reduceLeDiff, reduceIte, Nat.reduceLT, or_self, true_or, or_true, if_true, if_false, and_self, and_true, true_and, not_false_eq_true, not_true_eq_false]
  refine am_go [53] 2 ?_
  simp only [am_wp, am_stp, am_en, am_as, am_pad, am_nth, am_set, am_st1, am_st2, am_kl, am_kill, am_mem, am_fv, am_tk, am_wt, am_bk, Option.toList, List.cons_append, List.nil_append, Nat.reduceAdd, Nat.reduceEqDiff, Nat.reduceLeDiff, reduceIte, Nat.reduceLT, or_self, true_or, or_true, if_true, if_false, and_self, and_true, true_and, not_false_eq_true, not_true_eq_false, fd_SR_fillHead_51, fd_SR_fillHead_52]
  exact ww_fillHead_loop 9 0 _ g5 rfl ((w4.trans w5).mono (by omega))
theorem ww_writeHead {d P : Nat} {h : am_H} (w : wk P h) : am_Rt nm_pr (d + 4) mi_SR_writeHead [.ref 2] h (fun o h' => o = .inl none ∧ wp P 0 h h') := by
  refine am_in' (d := d + 3) mt_SR_writeHead 2 rfl rfl rfl ?_
  refine am_go [] 8 ?_
  simp only [am_wp, am_stp, am_en, am_as, am_pad, am_nth, am_set, am_st1, am_st2, am_kl, am_kill, am_mem, am_fv, am_tk, am_wt, am_bk, Option.toList, List.cons_append, List.nil_append, Nat.reduceAdd, Nat.reduceEqDiff, Nat.reduceLeDiff, reduceIte, Nat.reduceLT, or_self, true_or, or_true, if_true, if_false, and_self, and_true, true_and, not_false_eq_true, not_true_eq_false, fd_SR_writeHead_0, fd_SR_writeHead_1, fd_SR_writeHead_4, fd_SR_writeHead_5, fd_SR_writeHead_6, fd_SR_writeHead_7, fd_SR_writeHead_8, fd_SR_writeHead_9, w.kd 2 1 (by decide)]
  refine am_call (ww_fillHead w) (fun o g1 q => ?_)
  obtain ⟨rfl, w1⟩ := q
  simp only [am_wp, am_stp, am_en, am_as, am_pad, am_nth, am_set, am_st1, am_st2, am_kl, am_kill, am_mem, am_fv, am_tk, am_wt, am_bk, Option.toList, List.cons_append, List.nil_append, Nat.reduceAdd, Nat.reduceEqDiff, Nat.reduceLeDiff, reduceIte, Nat.reduceLT, or_self, true_or, or_true, if_true, if_false, and_self, and_true, true_and, not_false_eq_true, not_true_eq_false]
  generalize am_I h 2 12 + 1 = x
  refine am_go [] 8 ?_
  simp only [am_wp, am_stp, am_en, am_as, am_pad, am_nth, am_set, am_st1, am_st2, am_kl, am_kill, am_mem, am_fv, am_tk, am_wt, am_bk, Option.toList, List.cons_append, List.nil_append, Nat.reduceAdd, Nat.reduceEqDiff, Nat.reduceLeDiff, reduceIte, Nat.reduceLT, or_self, true_or, or_true, if_true, if_false, and_self, and_true, true_and, not_false_eq_true, not_true_eq_false, fd_SR_writeHead_12, fd_SR_writeHead_13, fd_SR_writeHead_16, fd_SR_writeHead_17, fd_SR_writeHead_18, fd_SR_writeHead_19, fd_SR_writeHead_20, fd_SR_writeHead_23, w1.1.kd 2 1 (by decide), w1.1.R 2 0 18 (by decide), w1.1.R 2 8 14 (by decide), w1.1.kd 18 4 (by decide)]
  refine am_call (ww_store w1.1) (fun o g2 q => ?_)
  obtain ⟨b, w2⟩ := q
  have w2 := (w1.trans w2).mono (l := 0) (by omega)
  obtain ⟨v, rfl, -⟩ := b01_cases b
  simp only [am_wp, am_stp, am_en, am_as, am_pad, am_nth, am_set, am_st1, am_st2, am_kl, am_kill, am_mem, am_fv, am_tk, am_wt, am_bk, Option.toList, List.cons_append, List.nil_append, Nat.reduceAdd, Nat.reduceEqDiff, Nat.reduceLeDiff, reduceIte, Nat.reduceLT, or_self, true_or, or_true, if_true, if_false, and_self, and_true, true_and, not_false_eq_true, not_true_eq_false]
  have fin : ∀ g, wp P 0 h g → am_Ex nm_pr (d + 3) mt_SR_writeHead (41, [.ref 2, .int x], [], g) (fun o h' => o = .inl none ∧ wp P 0 h h') := fun g wg => by
    refine am_go [] 2 ?_
    simp only [am_wp, am_stp, am_en, am_as, am_pad, am_nth, am_set, am_st1, am_st2, am_kl, am_kill, am_mem, am_fv, am_tk, am_wt, am_bk, Option.toList, List.cons_append, List.nil_append, Nat.reduceAdd, Nat.reduceEqDiff, Nat.reduceLeDiff, reduceIte, Nat.reduceLT, or_self, true_or, or_true, if_true, if_false, and_self, and_true, true_and, not_false_eq_true, not_true_eq_false, fd_SR_writeHead_41]
    exact wg
  refine am_go [29, 37] 1 ?_
  simp only [am_wp, am_stp, am_en, am_as, am_pad, am_nth, am_set, am_st1, am_st2, am_kl, am_kill, am_mem, am_fv, am_tk, am_wt, am_bk, Option.toList, List.cons_append, List.nil_append, Nat.reduceAdd, Nat.reduceEqDiff, Nat.reduceLeDiff, reduceIte, Nat.reduceLT, or_self, true_or, or_true, if_true, if_false, and_self, and_true, true_and, not_false_eq_true, not_true_eq_false, fd_SR_writeHead_26]
  refine wif ?_ ?_
  · refine am_go [] 2 ?_
    simp only [am_wp, am_stp, am_en, am_as, am_pad, am_nth, am_set, am_st1, am_st2, am_kl, am_kill, am_mem, am_fv, am_tk, am_wt, am_bk, Option.toList, List.cons_append, List.nil_append, Nat.reduceAdd, Nat.reduceEqDiff, Nat.reduceLeDiff, reduceIte, Nat.reduceLT, or_self, true_or, or_true, if_true, if_false, and_self, and_true, true_and, not_false_eq_true, not_true_eq_false, fd_SR_writeHead_37, fd_SR_writeHead_38, w2.1.kd 2 1 (by decide)]
    refine am_call (ww_goDown w2.1) (fun o g3 q => ?_)
    obtain ⟨rfl, w3⟩ := q
    simp only [am_wp, am_stp, am_en, am_as, am_pad, am_nth, am_set, am_st1, am_st2, am_kl, am_kill, am_mem, am_fv, am_tk, am_wt, am_bk, Option.toList, List.cons_append, List.nil_append, Nat.reduceAdd, Nat.reduceEqDiff, Nat.reduceLeDiff, reduceIte, Nat.reduceLT, or_self, true_or, or_true, if_true, if_false, and_self, and_true, true_and, not_false_eq_true, not_true_eq_false]
    exact fin _ ((w2.trans w3).mono (by omega))
  · refine am_go [41] 4 ?_
    simp only [am_wp, am_stp, am_en, am_as, am_pad, am_nth, am_set, am_st1, am_st2, am_kl, am_kill, am_mem, am_fv, am_tk, am_wt, am_bk, Option.toList, List.cons_append, List.nil_append, Nat.reduceAdd, Nat.reduceEqDiff, Nat.reduceLeDiff, reduceIte, Nat.reduceLT, or_self, true_or, or_true, if_true, if_false, and_self, and_true, true_and, not_false_eq_true, not_true_eq_false, fd_SR_writeHead_29, fd_SR_writeHead_30, fd_SR_writeHead_31, fd_SR_writeHead_34, w2.1.kd 2 1 (by decide)]
    exact fin _ (w2.s2 (by decide))
theorem ww_countPages_loop {d P : Nat} {mo : Int32} {h : am_H} : ∀ (m i : Nat) (c : Int32) (g : am_H), m + i = 1000000 → wp P 0 h g →
    am_Ex nm_pr (d + 4) mt_SR_countPages (4, [.ref 2, .int mo, .int c, .int (nI i)], [], g) (fun o h' => iany o ∧ wp P 0 h h')
  | m, i, c, g, hm, w => by
    have fin : ∀ (c : Int32) (g' : am_H), wp P 0 h g' → am_Ex nm_pr (d + 4) mt_SR_countPages (91, [.ref 2, .int mo, .int c, .int (nI i)], [], g') (fun o h' => iany o ∧ wp P 0 h h') := fun c g' w' => by
      refine am_go [] 2 ?_
      simp only [am_wp, am_stp, am_en, am_as, am_pad, am_nth, am_set, am_st1, am_st2, am_kl, am_kill, am_mem, am_fv, am_tk, am_wt, am_bk, Option.toList, List.cons_append, List.nil_append, Nat.reduceAdd, Nat.reduceEqDiff, Nat.reduceLeDiff, reduceIte, Nat.reduceLT, or_self, true_or, or_true, if_true, if_false, and_self, and_true, true_and, not_false_eq_true, not_true_eq_false, fd_SR_countPages_91, fd_SR_countPages_92]
      exact ⟨⟨_, rfl⟩, w'⟩
    cases m with
    | zero =>
      have l1 : ¬ nI i < 1000000 := nI_nlt (b := 1000000) (by omega) (by omega)
      refine am_go [10, 91] 3 ?_
      simp only [am_wp, am_stp, am_en, am_as, am_pad, am_nth, am_set, am_st1, am_st2, am_kl, am_kill, am_mem, am_fv, am_tk, am_wt, am_bk, Option.toList, List.cons_append, List.nil_append, Nat.reduceAdd, Nat.reduceEqDiff, Nat.reduceLeDiff, reduceIte, Nat.reduceLT, or_self, true_or, or_true, if_true, if_false, and_self, and_true, true_and, not_false_eq_true, not_true_eq_false, fd_SR_countPages_4, fd_SR_countPages_5, fd_SR_countPages_7, l1]
      exact fin _ _ w
    | succ m =>
      have l1 : nI i < 1000000 := nI_lt (b := 1000000) (by omega) (by decide)
      refine am_go [10, 91] 3 ?_
      simp only [am_wp, am_stp, am_en, am_as, am_pad, am_nth, am_set, am_st1, am_st2, am_kl, am_kill, am_mem, am_fv, am_tk, am_wt, am_bk, Option.toList, List.cons_append, List.nil_append, Nat.reduceAdd, Nat.reduceEqDiff, Nat.reduceLeDiff, reduceIte, Nat.reduceLT, or_self, true_or, or_true, if_true, if_false, and_self, and_true, true_and, not_false_eq_true, not_true_eq_false, fd_SR_countPages_4, fd_SR_countPages_5, fd_SR_countPages_7, l1]
      refine am_go [15, 91] 3 ?_
      simp only [am_wp, am_stp, am_en, am_as, am_pad, am_nth, am_set, am_st1, am_st2, am_kl, am_kill, am_mem, am_fv, am_tk, am_wt, am_bk, Option.toList, List.cons_append, List.nil_append, Nat.reduceAdd, Nat.reduceEqDiff, Nat.reduceLeDiff, reduceIte, Nat.reduceLT, or_self, true_or, or_true, if_true, if_false, and_self, and_true, true_and, not_false_eq_true, not_true_eq_false, fd_SR_countPages_10, fd_SR_countPages_11, fd_SR_countPages_12]
      refine wif (fin _ _ w) ?_
      refine am_go [] 3 ?_
      simp only [am_wp, am_stp, am_en, am_as, am_pad, am_nth, am_set, am_st1, am_st2, am_kl, am_kill, am_mem, am_fv, am_tk, am_wt, am_bk, Option.toList, List.cons_append, List.nil_append, Nat.reduceAdd, Nat.reduceEqDiff, Nat.reduceLeDiff, reduceIte, Nat.reduceLT, or_self, true_or, or_true, if_true, if_false, and_self, and_true, true_and, not_false_eq_true, not_true_eq_false, fd_SR_countPages_15, fd_SR_countPages_16, fd_SR_countPages_19, w.1.kd 2 1 (by decide), w.1.R 2 5 25 (by decide), w.1.kd 25 2 (by decide)]
      refine am_call (ww_advance w.1) (fun o g1 q => ?_)
      obtain ⟨b, w1⟩ := q
      have w1 := (w.trans w1).mono (l := 0) (by omega)
      obtain ⟨v, rfl, -⟩ := b01_cases b
      simp only [am_wp, am_stp, am_en, am_as, am_pad, am_nth, am_set, am_st1, am_st2, am_kl, am_kill, am_mem, am_fv, am_tk, am_wt, am_bk, Option.toList, List.cons_append, List.nil_append, Nat.reduceAdd, Nat.reduceEqDiff, Nat.reduceLeDiff, reduceIte, Nat.reduceLT, or_self, true_or, or_true, if_true, if_false, and_self, and_true, true_and, not_false_eq_true, not_true_eq_false]
      refine am_go [25, 91] 1 ?_
      simp only [am_wp, am_stp, am_en, am_as, am_pad, am_nth, am_set, am_st1, am_st2, am_kl, am_kill, am_mem, am_fv, am_tk, am_wt, am_bk, Option.toList, List.cons_append, List.nil_append, Nat.reduceAdd, Nat.reduceEqDiff, Nat.reduceLeDiff, reduceIte, Nat.reduceLT, or_self, true_or, or_true, if_true, if_false, and_self, and_true, true_and, not_false_eq_true, not_true_eq_false, fd_SR_countPages_22]
      refine wif (fin _ _ w1) ?_
      have app : ∀ (c : Int32) (g' : am_H), wp P 0 h g' → am_Ex nm_pr (d + 4) mt_SR_countPages (64, [.ref 2, .int mo, .int c, .int (nI i)], [], g') (fun o h' => iany o ∧ wp P 0 h h') := fun c g' w' => by
        refine am_go [] 9 ?_
        simp only [am_wp, am_stp, am_en, am_as, am_pad, am_nth, am_set, am_st1, am_st2, am_kl, am_kill, am_mem, am_fv, am_tk, am_wt, am_bk, Option.toList, List.cons_append, List.nil_append, Nat.reduceAdd, Nat.reduceEqDiff, Nat.reduceLeDiff, reduceIte, Nat.reduceLT, or_self, true_or, or_true, if_true, if_false, and_self, and_true, true_and, not_false_eq_true, not_true_eq_false, fd_SR_countPages_64, fd_SR_countPages_65, fd_SR_countPages_68, fd_SR_countPages_69, fd_SR_countPages_72, fd_SR_countPages_75, fd_SR_countPages_76, fd_SR_countPages_79, fd_SR_countPages_82, w'.1.kd 2 1 (by decide), w'.1.R 2 5 25 (by decide), w'.1.kd 25 2 (by decide), w'.1.R 2 8 14 (by decide), w'.1.kd 14 8 (by decide), w'.1.R 25 0 26 (by decide)]
        refine am_call (ww_append w'.1 (by decide)) (fun o g2 q => ?_)
        obtain ⟨rfl, w2⟩ := q
        simp only [am_wp, am_stp, am_en, am_as, am_pad, am_nth, am_set, am_st1, am_st2, am_kl, am_kill, am_mem, am_fv, am_tk, am_wt, am_bk, Option.toList, List.cons_append, List.nil_append, Nat.reduceAdd, Nat.reduceEqDiff, Nat.reduceLeDiff, reduceIte, Nat.reduceLT, or_self, true_or, or_true, if_true, if_false, and_self, and_true, true_and, not_false_eq_true, not_true_eq_false]
        refine am_go [4] 2 ?_
        simp only [am_wp, am_stp, am_en, am_as, am_pad, am_nth, am_set, am_st1, am_st2, am_kl, am_kill, am_mem, am_fv, am_tk, am_wt, am_bk, Option.toList, List.cons_append, List.nil_append, Nat.reduceAdd, Nat.reduceEqDiff, Nat.reduceLeDiff, reduceIte, Nat.reduceLT, or_self, true_or, or_true, if_true, if_false, and_self, and_true, true_and, not_false_eq_true, not_true_eq_false, fd_SR_countPages_85, fd_SR_countPages_88, nI_1]
        exact ww_countPages_loop m (i + 1) c g2 (by omega) ((w'.trans w2).mono (by omega))
      have new : am_Ex nm_pr (d + 4) mt_SR_countPages (53, [.ref 2, .int mo, .int c, .int (nI i)], [], g1) (fun o h' => iany o ∧ wp P 0 h h') := by
        refine am_go [] 5 ?_
        simp only [am_wp, am_stp, am_en, am_as, am_pad, am_nth, am_set, am_st1, am_st2, am_kl, am_kill, am_mem, am_fv, am_tk, am_wt, am_bk, Option.toList, List.cons_append, List.nil_append, Nat.reduceAdd, Nat.reduceEqDiff, Nat.reduceLeDiff, reduceIte, Nat.reduceLT, or_self, true_or, or_true, if_true, if_false, and_self, and_true, true_and, not_false_eq_true, not_true_eq_false, fd_SR_countPages_53, fd_SR_countPages_56, fd_SR_countPages_57, fd_SR_countPages_60, fd_SR_countPages_61, w1.1.kd 2 1 (by decide), w1.1.R 2 8 14 (by decide), w1.1.kd 14 8 (by decide)]
        refine am_call (ww_beginPage w1.1) (fun o g2 q => ?_)
        obtain ⟨rfl, w2⟩ := q
        simp only [am_wp, am_stp, am_en, am_as, am_pad, am_nth, am_set, am_st1, am_st2, am_kl, am_kill, am_mem, am_fv, am_tk, am_wt, am_bk, Option.toList, List.cons_append, List.nil_append, Nat.reduceAdd, Nat.reduceEqDiff, Nat.reduceLeDiff, reduceIte, Nat.reduceLT, or_self, true_or, or_true, if_true, if_false, and_self, and_true, true_and, not_false_eq_true, not_true_eq_false]
        exact app _ _ ((w1.trans w2).mono (by omega))
      refine am_go [29, 53] 2 ?_
      simp only [am_wp, am_stp, am_en, am_as, am_pad, am_nth, am_set, am_st1, am_st2, am_kl, am_kill, am_mem, am_fv, am_tk, am_wt, am_bk, Option.toList, List.cons_append, List.nil_append, Nat.reduceAdd, Nat.reduceEqDiff, Nat.reduceLeDiff, reduceIte, Nat.reduceLT, or_self, true_or, or_true, if_true, if_false, and_self, and_true, true_and, not_false_eq_true, not_true_eq_false, fd_SR_countPages_25, fd_SR_countPages_26]
      refine wif new ?_
      refine am_go [] 9 ?_
      simp only [am_wp, am_stp, am_en, am_as, am_pad, am_nth, am_set, am_st1, am_st2, am_kl, am_kill, am_mem, am_fv, am_tk, am_wt, am_bk, Option.toList, List.cons_append, List.nil_append, Nat.reduceAdd, Nat.reduceEqDiff, Nat.reduceLeDiff, reduceIte, Nat.reduceLT, or_self, true_or, or_true, if_true, if_false, and_self, and_true, true_and, not_false_eq_true, not_true_eq_false, fd_SR_countPages_29, fd_SR_countPages_30, fd_SR_countPages_33, fd_SR_countPages_34, fd_SR_countPages_37, fd_SR_countPages_40, fd_SR_countPages_41, fd_SR_countPages_44, fd_SR_countPages_47, w1.1.kd 2 1 (by decide), w1.1.R 2 5 25 (by decide), w1.1.kd 25 2 (by decide), w1.1.R 2 8 14 (by decide), w1.1.kd 14 8 (by decide), w1.1.R 25 0 26 (by decide)]
      refine am_call (ww_fits w1.1 (w1.1.kd 26 3 (by decide))) (fun o g2 q => ?_)
      obtain ⟨b, rfl⟩ := q
      obtain ⟨v, rfl, -⟩ := b01_cases b
      simp only [am_wp, am_stp, am_en, am_as, am_pad, am_nth, am_set, am_st1, am_st2, am_kl, am_kill, am_mem, am_fv, am_tk, am_wt, am_bk, Option.toList, List.cons_append, List.nil_append, Nat.reduceAdd, Nat.reduceEqDiff, Nat.reduceLeDiff, reduceIte, Nat.reduceLT, or_self, true_or, or_true, if_true, if_false, and_self, and_true, true_and, not_false_eq_true, not_true_eq_false]
      refine am_go [53, 64] 1 ?_
      simp only [am_wp, am_stp, am_en, am_as, am_pad, am_nth, am_set, am_st1, am_st2, am_kl, am_kill, am_mem, am_fv, am_tk, am_wt, am_bk, Option.toList, List.cons_append, List.nil_append, Nat.reduceAdd, Nat.reduceEqDiff, Nat.reduceLeDiff, reduceIte, Nat.reduceLT, or_self, true_or, or_true, if_true, if_false, and_self, and_true, true_and, not_false_eq_true, not_true_eq_false, fd_SR_countPages_50]
      refine wif ?_ ?_
      · exact new
      · exact app _ _ w1
theorem ww_countPages {d P : Nat} {mo : Int32} {h : am_H} (w : wk P h) : am_Rt nm_pr (d + 5) mi_SR_countPages [.ref 2, .int mo] h (fun o h' => iany o ∧ wp P 0 h h') := by
  refine am_in' (d := d + 4) mt_SR_countPages 4 rfl rfl rfl ?_
  refine am_go [4] 4 ?_
  simp only [am_wp, am_stp, am_en, am_as, am_pad, am_nth, am_set, am_st1, am_st2, am_kl, am_kill, am_mem, am_fv, am_tk, am_wt, am_bk, Option.toList, List.cons_append, List.nil_append, Nat.reduceAdd, Nat.reduceEqDiff, Nat.reduceLeDiff, reduceIte, Nat.reduceLT, or_self, true_or, or_true, if_true, if_false, and_self, and_true, true_and, not_false_eq_true, not_true_eq_false, fd_SR_countPages_0, fd_SR_countPages_1, fd_SR_countPages_2, fd_SR_countPages_3]
  exact ww_countPages_loop 1000000 0 _ h rfl (wp.refl w)
