/-! THE STREAMS, WEAKLY, 2 -/
theorem ww_readKey_loop {d P t : Nat} {h : am_H} (h1 : 30 ≤ t) (h2 : t ≤ 39) : ∀ (m i : Nat) (z : Int64) (x : Value) (g : am_H), (i + m = 8 ∨ (8 ≤ i ∧ i < 256 ∧ m = 0)) → wp P 0 h g →
    am_Ex nm_pr (d + 1) mt_RunStream_readKey (14, [.ref t, .long z, .retAddr 0, .int (nI i), x], [], g) (fun o h' => o = .inl none ∧ wp P 0 h h')
  | 0, i, z, x, g, hm, w => by
    have kt := (w.1.st h1 h2).1
    have l1 : ¬ nI i < 8 := nI_nlt (b := 8) (by omega) (by omega)
    refine am_go [20] 9 ?_
    simp only [am_wp, am_stp, am_en, am_as, am_pad, am_nth, am_set, am_st1, am_st2, am_kl, am_kill, am_mem, am_fv, am_tk, am_wt, am_bk, Option.toList, List.cons_append, List.nil_append, Nat.reduceAdd, Nat.reduceEqDiff, Nat.reduceLeDiff, reduceIte, Nat.reduceLT, or_self, true_or, or_true, if_true, if_false, and_self, and_true, true_and, not_false_eq_true, not_true_eq_false, fd_RunStream_readKey_14, fd_RunStream_readKey_15, fd_RunStream_readKey_17, fd_RunStream_readKey_57, fd_RunStream_readKey_58, fd_RunStream_readKey_59, fd_RunStream_readKey_62, fd_RunStream_readKey_63, fd_RunStream_readKey_66, kt, l1]
    exact w.stL h1 h2
  | m + 1, i, z, x, g, hm, w => by
    have kt := (w.1.st h1 h2).1
    have l1 : nI i < 8 := nI_lt (b := 8) (by omega) (by decide)
    refine am_go [20, 57] 3 ?_
    simp only [am_wp, am_stp, am_en, am_as, am_pad, am_nth, am_set, am_st1, am_st2, am_kl, am_kill, am_mem, am_fv, am_tk, am_wt, am_bk, Option.toList, List.cons_append, List.nil_append, Nat.reduceAdd, Nat.reduceEqDiff, Nat.reduceLeDiff, reduceIte, Nat.reduceLT, or_self, true_or, or_true, if_true, if_false, and_self, and_true, true_and, not_false_eq_true, not_true_eq_false, fd_RunStream_readKey_14, fd_RunStream_readKey_15, fd_RunStream_readKey_17, l1]
    refine am_go [] 15 ?_
    simp only [am_wp, am_stp, am_en, am_as, am_pad, am_nth, am_set, am_st1, am_st2, am_kl, am_kill, am_mem, am_fv, am_tk, am_wt, am_bk, Option.toList, List.cons_append, List.nil_append, Nat.reduceAdd, Nat.reduceEqDiff, Nat.reduceLeDiff, reduceIte, Nat.reduceLT, or_self, true_or, or_true, if_true, if_false, and_self, and_true, true_and, not_false_eq_true, not_true_eq_false, fd_RunStream_readKey_20, fd_RunStream_readKey_22, fd_RunStream_readKey_24, fd_RunStream_readKey_25, fd_RunStream_readKey_26, fd_RunStream_readKey_27, fd_RunStream_readKey_29, fd_RunStream_readKey_30, fd_RunStream_readKey_33, fd_RunStream_readKey_35, fd_RunStream_readKey_36, fd_RunStream_readKey_39, fd_RunStream_readKey_40, fd_RunStream_readKey_41, fd_RunStream_readKey_42, kt]
    refine am_call (ww_nextOctet w.1 h1 h2) (fun o g1 q => ?_)
    obtain ⟨⟨y, -, rfl⟩, w1⟩ := q
    have w2 := (w.trans w1).mono (l := 0) (by omega)
    simp only [am_wp, am_stp, am_en, am_as, am_pad, am_nth, am_set, am_st1, am_st2, am_kl, am_kill, am_mem, am_fv, am_tk, am_wt, am_bk, Option.toList, List.cons_append, List.nil_append, Nat.reduceAdd, Nat.reduceEqDiff, Nat.reduceLeDiff, reduceIte, Nat.reduceLT, or_self, true_or, or_true, if_true, if_false, and_self, and_true, true_and, not_false_eq_true, not_true_eq_false]
    refine am_go [14] 7 ?_
    simp only [am_wp, am_stp, am_en, am_as, am_pad, am_nth, am_set, am_st1, am_st2, am_kl, am_kill, am_mem, am_fv, am_tk, am_wt, am_bk, Option.toList, List.cons_append, List.nil_append, Nat.reduceAdd, Nat.reduceEqDiff, Nat.reduceLeDiff, reduceIte, Nat.reduceLT, or_self, true_or, or_true, if_true, if_false, and_self, and_true, true_and, not_false_eq_true, not_true_eq_false, fd_RunStream_readKey_45, fd_RunStream_readKey_46, fd_RunStream_readKey_48, fd_RunStream_readKey_49, fd_RunStream_readKey_50, fd_RunStream_readKey_51, fd_RunStream_readKey_54, nI_1]
    exact ww_readKey_loop h1 h2 m (i + 1) _ _ g1 (by omega) w2
theorem ww_readKey {d P t : Nat} {h : am_H} (w : wk P h) (h1 : 30 ≤ t) (h2 : t ≤ 39) : am_Rt nm_pr (d + 2) mi_RunStream_readKey [.ref t] h (fun o h' => o = .inl none ∧ wp P 0 h h') := by
  have kt := (w.st h1 h2).1
  refine am_in' (d := d + 1) mt_RunStream_readKey 5 rfl rfl rfl ?_
  refine am_go [] 7 ?_
  simp only [am_wp, am_stp, am_en, am_as, am_pad, am_nth, am_set, am_st1, am_st2, am_kl, am_kill, am_mem, am_fv, am_tk, am_wt, am_bk, Option.toList, List.cons_append, List.nil_append, Nat.reduceAdd, Nat.reduceEqDiff, Nat.reduceLeDiff, reduceIte, Nat.reduceLT, or_self, true_or, or_true, if_true, if_false, and_self, and_true, true_and, not_false_eq_true, not_true_eq_false, fd_RunStream_readKey_0, fd_RunStream_readKey_1, fd_RunStream_readKey_4, fd_RunStream_readKey_7, fd_RunStream_readKey_8, fd_RunStream_readKey_9, fd_RunStream_readKey_10, kt]
  refine am_call (ww_nextOctet w h1 h2) (fun o g1 q => ?_)
  obtain ⟨⟨n, hn, rfl⟩, w1⟩ := q
  simp only [am_wp, am_stp, am_en, am_as, am_pad, am_nth, am_set, am_st1, am_st2, am_kl, am_kill, am_mem, am_fv, am_tk, am_wt, am_bk, Option.toList, List.cons_append, List.nil_append, Nat.reduceAdd, Nat.reduceEqDiff, Nat.reduceLeDiff, reduceIte, Nat.reduceLT, or_self, true_or, or_true, if_true, if_false, and_self, and_true, true_and, not_false_eq_true, not_true_eq_false]
  refine am_go [14] 1 ?_
  simp only [am_wp, am_stp, am_en, am_as, am_pad, am_nth, am_set, am_st1, am_st2, am_kl, am_kill, am_mem, am_fv, am_tk, am_wt, am_bk, Option.toList, List.cons_append, List.nil_append, Nat.reduceAdd, Nat.reduceEqDiff, Nat.reduceLeDiff, reduceIte, Nat.reduceLT, or_self, true_or, or_true, if_true, if_false, and_self, and_true, true_and, not_false_eq_true, not_true_eq_false, fd_RunStream_readKey_13]
  by_cases e : n ≤ 8
  · exact ww_readKey_loop h1 h2 (8 - n) n _ _ g1 (Or.inl (by omega)) w1
  · exact ww_readKey_loop h1 h2 0 n _ _ g1 (Or.inr (by omega)) w1
theorem ww_RSstep {d P t : Nat} {h : am_H} (w : wk P h) (h1 : 30 ≤ t) (h2 : t ≤ 39) : am_Rt nm_pr (d + 3) mi_RunStream_step [.ref t] h (fun o h' => o = .inl none ∧ wp P 0 h h') := by
  have o11 : (1 : Int32) &&& 1 = 1 := by decide
  have o01 : (0 : Int32) &&& 1 = 0 := by decide
  have val : ∀ (v : Value) (y : Int64) (g : am_H), wp P 0 h g → am_Ex nm_pr (d + 2) mt_RunStream_step (139, [.ref t, v], [.long y, .ref t], g) (fun o h' => o = .inl none ∧ wp P 0 h h') := fun v y g wg => by
    have kt := (wg.1.st h1 h2).1
    refine am_go [] 3 ?_
    simp only [am_wp, am_stp, am_en, am_as, am_pad, am_nth, am_set, am_st1, am_st2, am_kl, am_kill, am_mem, am_fv, am_tk, am_wt, am_bk, Option.toList, List.cons_append, List.nil_append, Nat.reduceAdd, Nat.reduceEqDiff, Nat.reduceLeDiff, reduceIte, Nat.reduceLT, or_self, true_or, or_true, if_true, if_false, and_self, and_true, true_and, not_false_eq_true, not_true_eq_false, fd_RunStream_step_139, fd_RunStream_step_142, kt]
    exact wg.stL h1 h2
  have tail : ∀ (v : Value) (x : Int32) (g : am_H), (x = 0 ∨ x = 1) → wp P 0 h g → am_Ex nm_pr (d + 2) mt_RunStream_step (90, [.ref t, v], [.int x, .ref t], g) (fun o h' => o = .inl none ∧ wp P 0 h h') := fun v x g hx wg => by
    have kt := (wg.1.st h1 h2).1
    refine am_go [] 1 ?_
    simp only [am_wp, am_stp, am_en, am_as, am_pad, am_nth, am_set, am_st1, am_st2, am_kl, am_kill, am_mem, am_fv, am_tk, am_wt, am_bk, Option.toList, List.cons_append, List.nil_append, Nat.reduceAdd, Nat.reduceEqDiff, Nat.reduceLeDiff, reduceIte, Nat.reduceLT, or_self, true_or, or_true, if_true, if_false, and_self, and_true, true_and, not_false_eq_true, not_true_eq_false, fd_RunStream_step_90, kt, hx]
    have w1 := wg.st (j := 0) (v := x) h1 h2
    generalize am_sI g t 0 x = g1 at *
    have kt := (w1.1.st h1 h2).1
    refine am_go [100, 142] 3 ?_
    simp only [am_wp, am_stp, am_en, am_as, am_pad, am_nth, am_set, am_st1, am_st2, am_kl, am_kill, am_mem, am_fv, am_tk, am_wt, am_bk, Option.toList, List.cons_append, List.nil_append, Nat.reduceAdd, Nat.reduceEqDiff, Nat.reduceLeDiff, reduceIte, Nat.reduceLT, or_self, true_or, or_true, if_true, if_false, and_self, and_true, true_and, not_false_eq_true, not_true_eq_false, fd_RunStream_step_93, fd_RunStream_step_94, fd_RunStream_step_97, kt]
    refine wif ?_ ?_
    · refine am_go [] 2 ?_
      simp only [am_wp, am_stp, am_en, am_as, am_pad, am_nth, am_set, am_st1, am_st2, am_kl, am_kill, am_mem, am_fv, am_tk, am_wt, am_bk, Option.toList, List.cons_append, List.nil_append, Nat.reduceAdd, Nat.reduceEqDiff, Nat.reduceLeDiff, reduceIte, Nat.reduceLT, or_self, true_or, or_true, if_true, if_false, and_self, and_true, true_and, not_false_eq_true, not_true_eq_false, fd_RunStream_step_142]
      exact w1
    · refine am_go [] 6 ?_
      simp only [am_wp, am_stp, am_en, am_as, am_pad, am_nth, am_set, am_st1, am_st2, am_kl, am_kill, am_mem, am_fv, am_tk, am_wt, am_bk, Option.toList, List.cons_append, List.nil_append, Nat.reduceAdd, Nat.reduceEqDiff, Nat.reduceLeDiff, reduceIte, Nat.reduceLT, or_self, true_or, or_true, if_true, if_false, and_self, and_true, true_and, not_false_eq_true, not_true_eq_false, fd_RunStream_step_100, fd_RunStream_step_101, fd_RunStream_step_102, fd_RunStream_step_105, fd_RunStream_step_106, fd_RunStream_step_107, kt]
      have w2 := w1.st (j := 8) (v := am_I g1 t 8 - 1) h1 h2
      generalize am_sI g1 t 8 (am_I g1 t 8 - 1) = g2 at *
      refine am_go [] 2 ?_
      simp only [am_wp, am_stp, am_en, am_as, am_pad, am_nth, am_set, am_st1, am_st2, am_kl, am_kill, am_mem, am_fv, am_tk, am_wt, am_bk, Option.toList, List.cons_append, List.nil_append, Nat.reduceAdd, Nat.reduceEqDiff, Nat.reduceLeDiff, reduceIte, Nat.reduceLT, or_self, true_or, or_true, if_true, if_false, and_self, and_true, true_and, not_false_eq_true, not_true_eq_false, fd_RunStream_step_110, fd_RunStream_step_111, (w2.1.st h1 h2).1]
      refine am_call (ww_readKey w2.1 h1 h2) (fun o g3 q => ?_)
      obtain ⟨rfl, w3⟩ := q
      have w3 := (w2.trans w3).mono (l := 0) (by omega)
      simp only [am_wp, am_stp, am_en, am_as, am_pad, am_nth, am_set, am_st1, am_st2, am_kl, am_kill, am_mem, am_fv, am_tk, am_wt, am_bk, Option.toList, List.cons_append, List.nil_append, Nat.reduceAdd, Nat.reduceEqDiff, Nat.reduceLeDiff, reduceIte, Nat.reduceLT, or_self, true_or, or_true, if_true, if_false, and_self, and_true, true_and, not_false_eq_true, not_true_eq_false]
      refine am_go [] 3 ?_
      simp only [am_wp, am_stp, am_en, am_as, am_pad, am_nth, am_set, am_st1, am_st2, am_kl, am_kill, am_mem, am_fv, am_tk, am_wt, am_bk, Option.toList, List.cons_append, List.nil_append, Nat.reduceAdd, Nat.reduceEqDiff, Nat.reduceLeDiff, reduceIte, Nat.reduceLT, or_self, true_or, or_true, if_true, if_false, and_self, and_true, true_and, not_false_eq_true, not_true_eq_false, fd_RunStream_step_114, fd_RunStream_step_115, fd_RunStream_step_116, (w3.1.st h1 h2).1]
      refine am_call (ww_nextOctet w3.1 h1 h2) (fun o g4 q => ?_)
      obtain ⟨⟨n, hn, rfl⟩, w4⟩ := q
      have w4 := (w3.trans w4).mono (l := 0) (by omega)
      simp only [am_wp, am_stp, am_en, am_as, am_pad, am_nth, am_set, am_st1, am_st2, am_kl, am_kill, am_mem, am_fv, am_tk, am_wt, am_bk, Option.toList, List.cons_append, List.nil_append, Nat.reduceAdd, Nat.reduceEqDiff, Nat.reduceLeDiff, reduceIte, Nat.reduceLT, or_self, true_or, or_true, if_true, if_false, and_self, and_true, true_and, not_false_eq_true, not_true_eq_false]
      refine am_go [] 1 ?_
      simp only [am_wp, am_stp, am_en, am_as, am_pad, am_nth, am_set, am_st1, am_st2, am_kl, am_kill, am_mem, am_fv, am_tk, am_wt, am_bk, Option.toList, List.cons_append, List.nil_append, Nat.reduceAdd, Nat.reduceEqDiff, Nat.reduceLeDiff, reduceIte, Nat.reduceLT, or_self, true_or, or_true, if_true, if_false, and_self, and_true, true_and, not_false_eq_true, not_true_eq_false, fd_RunStream_step_119, (w4.1.st h1 h2).1]
      have w5 := w4.st (j := 2) (v := nI n) h1 h2
      generalize am_sI g4 t 2 (nI n) = g5 at *
      refine am_go [131, 135] 5 ?_
      simp only [am_wp, am_stp, am_en, am_as, am_pad, am_nth, am_set, am_st1, am_st2, am_kl, am_kill, am_mem, am_fv, am_tk, am_wt, am_bk, Option.toList, List.cons_append, List.nil_append, Nat.reduceAdd, Nat.reduceEqDiff, Nat.reduceLeDiff, reduceIte, Nat.reduceLT, or_self, true_or, or_true, if_true, if_false, and_self, and_true, true_and, not_false_eq_true, not_true_eq_false, fd_RunStream_step_122, fd_RunStream_step_123, fd_RunStream_step_124, fd_RunStream_step_127, fd_RunStream_step_128, (w5.1.st h1 h2).1]
      refine wif ?_ ?_
      · refine am_go [139] 2 ?_
        simp only [am_wp, am_stp, am_en, am_as, am_pad, am_nth, am_set, am_st1, am_st2, am_kl, am_kill, am_mem, am_fv, am_tk, am_wt, am_bk, Option.toList, List.cons_append, List.nil_append, Nat.reduceAdd, Nat.reduceEqDiff, Nat.reduceLeDiff, reduceIte, Nat.reduceLT, or_self, true_or, or_true, if_true, if_false, and_self, and_true, true_and, not_false_eq_true, not_true_eq_false, fd_RunStream_step_131, fd_RunStream_step_132]
        exact val _ _ _ w5
      · refine am_go [] 2 ?_
        simp only [am_wp, am_stp, am_en, am_as, am_pad, am_nth, am_set, am_st1, am_st2, am_kl, am_kill, am_mem, am_fv, am_tk, am_wt, am_bk, Option.toList, List.cons_append, List.nil_append, Nat.reduceAdd, Nat.reduceEqDiff, Nat.reduceLeDiff, reduceIte, Nat.reduceLT, or_self, true_or, or_true, if_true, if_false, and_self, and_true, true_and, not_false_eq_true, not_true_eq_false, fd_RunStream_step_135, fd_RunStream_step_136, (w5.1.st h1 h2).1]
        refine am_call (ww_readValue w5.1 h1 h2) (fun o g6 q => ?_)
        obtain ⟨⟨y, rfl⟩, w6⟩ := q
        simp only [am_wp, am_stp, am_en, am_as, am_pad, am_nth, am_set, am_st1, am_st2, am_kl, am_kill, am_mem, am_fv, am_tk, am_wt, am_bk, Option.toList, List.cons_append, List.nil_append, Nat.reduceAdd, Nat.reduceEqDiff, Nat.reduceLeDiff, reduceIte, Nat.reduceLT, or_self, true_or, or_true, if_true, if_false, and_self, and_true, true_and, not_false_eq_true, not_true_eq_false]
        exact val _ _ _ ((w5.trans w6).mono (by omega))
  have mid : ∀ (v : Value) (g : am_H), wp P 0 h g → am_Ex nm_pr (d + 2) mt_RunStream_step (77, [.ref t, v], [], g) (fun o h' => o = .inl none ∧ wp P 0 h h') := fun v g wg => by
    have kt := (wg.1.st h1 h2).1
    refine am_go [85, 89] 4 ?_
    simp only [am_wp, am_stp, am_en, am_as, am_pad, am_nth, am_set, am_st1, am_st2, am_kl, am_kill, am_mem, am_fv, am_tk, am_wt, am_bk, Option.toList, List.cons_append, List.nil_append, Nat.reduceAdd, Nat.reduceEqDiff, Nat.reduceLeDiff, reduceIte, Nat.reduceLT, or_self, true_or, or_true, if_true, if_false, and_self, and_true, true_and, not_false_eq_true, not_true_eq_false, fd_RunStream_step_77, fd_RunStream_step_78, fd_RunStream_step_79, fd_RunStream_step_82, kt]
    refine wif ?_ ?_
    · refine am_go [90] 2 ?_
      simp only [am_wp, am_stp, am_en, am_as, am_pad, am_nth, am_set, am_st1, am_st2, am_kl, am_kill, am_mem, am_fv, am_tk, am_wt, am_bk, Option.toList, List.cons_append, List.nil_append, Nat.reduceAdd, Nat.reduceEqDiff, Nat.reduceLeDiff, reduceIte, Nat.reduceLT, or_self, true_or, or_true, if_true, if_false, and_self, and_true, true_and, not_false_eq_true, not_true_eq_false, fd_RunStream_step_85, fd_RunStream_step_86]
      exact tail _ _ _ (by decide) wg
    · refine am_go [90] 1 ?_
      simp only [am_wp, am_stp, am_en, am_as, am_pad, am_nth, am_set, am_st1, am_st2, am_kl, am_kill, am_mem, am_fv, am_tk, am_wt, am_bk, Option.toList, List.cons_append, List.nil_append, Nat.reduceAdd, Nat.reduceEqDiff, Nat.reduceLeDiff, reduceIte, Nat.reduceLT, or_self, true_or, or_true, if_true, if_false, and_self, and_true, true_and, not_false_eq_true, not_true_eq_false, fd_RunStream_step_89]
      exact tail _ _ _ (by decide) wg
  have kt := (w.st h1 h2).1
  refine am_in' (d := d + 2) mt_RunStream_step 2 rfl rfl rfl ?_
  refine am_go [7, 77] 3 ?_
  simp only [am_wp, am_stp, am_en, am_as, am_pad, am_nth, am_set, am_st1, am_st2, am_kl, am_kill, am_mem, am_fv, am_tk, am_wt, am_bk, Option.toList, List.cons_append, List.nil_append, Nat.reduceAdd, Nat.reduceEqDiff, Nat.reduceLeDiff, reduceIte, Nat.reduceLT, or_self, true_or, or_true, if_true, if_false, and_self, and_true, true_and, not_false_eq_true, not_true_eq_false, fd_RunStream_step_0, fd_RunStream_step_1, fd_RunStream_step_4, kt]
  refine wif ?_ (mid _ _ (wp.refl w))
  refine am_go [14, 77] 3 ?_
  simp only [am_wp, am_stp, am_en, am_as, am_pad, am_nth, am_set, am_st1, am_st2, am_kl, am_kill, am_mem, am_fv, am_tk, am_wt, am_bk, Option.toList, List.cons_append, List.nil_append, Nat.reduceAdd, Nat.reduceEqDiff, Nat.reduceLeDiff, reduceIte, Nat.reduceLT, or_self, true_or, or_true, if_true, if_false, and_self, and_true, true_and, not_false_eq_true, not_true_eq_false, fd_RunStream_step_7, fd_RunStream_step_8, fd_RunStream_step_11, kt]
  refine wif ?_ (mid _ _ (wp.refl w))
  refine am_go [] 9 ?_
  simp only [am_wp, am_stp, am_en, am_as, am_pad, am_nth, am_set, am_st1, am_st2, am_kl, am_kill, am_mem, am_fv, am_tk, am_wt, am_bk, Option.toList, List.cons_append, List.nil_append, Nat.reduceAdd, Nat.reduceEqDiff, Nat.reduceLeDiff, reduceIte, Nat.reduceLT, or_self, true_or, or_true, if_true, if_false, and_self, and_true, true_and, not_false_eq_true, not_true_eq_false, fd_RunStream_step_14, fd_RunStream_step_15, fd_RunStream_step_18, fd_RunStream_step_19, fd_RunStream_step_20, fd_RunStream_step_21, fd_RunStream_step_24, fd_RunStream_step_25, fd_RunStream_step_26, kt]
  have w1 := (wp.refl w).st (j := 7) (v := am_I h t 7 - 1) h1 h2
  generalize am_I h t 6 = pg
  generalize am_sI h t 7 (am_I h t 7 - 1) = g1 at *
  obtain ⟨kt, r4, r5⟩ := w1.1.st h1 h2
  refine am_go [] 5 ?_
  simp only [am_wp, am_stp, am_en, am_as, am_pad, am_nth, am_set, am_st1, am_st2, am_kl, am_kill, am_mem, am_fv, am_tk, am_wt, am_bk, Option.toList, List.cons_append, List.nil_append, Nat.reduceAdd, Nat.reduceEqDiff, Nat.reduceLeDiff, reduceIte, Nat.reduceLT, or_self, true_or, or_true, if_true, if_false, and_self, and_true, true_and, not_false_eq_true, not_true_eq_false, fd_RunStream_step_29, fd_RunStream_step_30, fd_RunStream_step_31, fd_RunStream_step_34, fd_RunStream_step_35, kt, r5, w1.1.kd 21 9 (by decide)]
  refine am_call (ww_after w1.1) (fun o g2 q => ?_)
  obtain ⟨⟨x, rfl⟩, rfl⟩ := q
  simp only [am_wp, am_stp, am_en, am_as, am_pad, am_nth, am_set, am_st1, am_st2, am_kl, am_kill, am_mem, am_fv, am_tk, am_wt, am_bk, Option.toList, List.cons_append, List.nil_append, Nat.reduceAdd, Nat.reduceEqDiff, Nat.reduceLeDiff, reduceIte, Nat.reduceLT, or_self, true_or, or_true, if_true, if_false, and_self, and_true, true_and, not_false_eq_true, not_true_eq_false]
  refine am_go [] 1 ?_
  simp only [am_wp, am_stp, am_en, am_as, am_pad, am_nth, am_set, am_st1, am_st2, am_kl, am_kill, am_mem, am_fv, am_tk, am_wt, am_bk, Option.toList, List.cons_append, List.nil_append, Nat.reduceAdd, Nat.reduceEqDiff, Nat.reduceLeDiff, reduceIte, Nat.reduceLT, or_self, true_or, or_true, if_true, if_false, and_self, and_true, true_and, not_false_eq_true, not_true_eq_false, fd_RunStream_step_38, kt]
  have w2 := w1.st (j := 6) (v := x) h1 h2
  generalize am_sI g2 t 6 x = g3 at *
  obtain ⟨kt, r4, r5⟩ := w2.1.st h1 h2
  refine am_go [] 6 ?_
  simp only [am_wp, am_stp, am_en, am_as, am_pad, am_nth, am_set, am_st1, am_st2, am_kl, am_kill, am_mem, am_fv, am_tk, am_wt, am_bk, Option.toList, List.cons_append, List.nil_append, Nat.reduceAdd, Nat.reduceEqDiff, Nat.reduceLeDiff, reduceIte, Nat.reduceLT, or_self, true_or, or_true, if_true, if_false, and_self, and_true, true_and, not_false_eq_true, not_true_eq_false, fd_RunStream_step_41, fd_RunStream_step_42, fd_RunStream_step_43, fd_RunStream_step_46, fd_RunStream_step_47, fd_RunStream_step_48, kt, r4, w2.1.pg.1]
  refine am_call (ww_peek w2.1) (fun o g4 q => ?_)
  obtain ⟨⟨y, rfl⟩, rfl⟩ := q
  simp only [am_wp, am_stp, am_en, am_as, am_pad, am_nth, am_set, am_st1, am_st2, am_kl, am_kill, am_mem, am_fv, am_tk, am_wt, am_bk, Option.toList, List.cons_append, List.nil_append, Nat.reduceAdd, Nat.reduceEqDiff, Nat.reduceLeDiff, reduceIte, Nat.reduceLT, or_self, true_or, or_true, if_true, if_false, and_self, and_true, true_and, not_false_eq_true, not_true_eq_false]
  refine am_go [77] 15 ?_
  simp only [am_wp, am_stp, am_en, am_as, am_pad, am_nth, am_set, am_st1, am_st2, am_kl, am_kill, am_mem, am_fv, am_tk, am_wt, am_bk, Option.toList, List.cons_append, List.nil_append, Nat.reduceAdd, Nat.reduceEqDiff, Nat.reduceLeDiff, reduceIte, Nat.reduceLT, or_self, true_or, or_true, if_true, if_false, and_self, and_true, true_and, not_false_eq_true, not_true_eq_false, fd_RunStream_step_51, fd_RunStream_step_54, fd_RunStream_step_55, fd_RunStream_step_56, fd_RunStream_step_59, fd_RunStream_step_60, fd_RunStream_step_61, fd_RunStream_step_62, fd_RunStream_step_65, fd_RunStream_step_66, fd_RunStream_step_67, fd_RunStream_step_70, fd_RunStream_step_71, fd_RunStream_step_73, fd_RunStream_step_74, hx_nx_sI, hx_ce_sI, hx_sl_sI, hx_kd_sI, hx_ln_sI, hx_I_sI, hx_L_sI, hx_R_sI, hx_nx_sL, hx_ce_sL, hx_sl_sL, hx_kd_sL, hx_ln_sL, hx_I_sL, hx_L_sL, hx_R_sL, hx_nx_sR, hx_ce_sR, hx_sl_sR, hx_kd_sR, hx_ln_sR, hx_I_sR, hx_L_sR, hx_R_sR, hx_nx_al, hx_ce_al, hx_sl_al, hx_kd_al, hx_ln_al, hx_I_al, hx_L_al, hx_R_al, hx_nx_row, hx_ce_row, hx_sl_row, hx_kd_row, hx_ln_row, hx_I_row, hx_L_row, hx_R_row, hx_nx_mk, hx_kd_mk, hx_ln_mk, hx_I_mk, hx_L_mk, hx_R_mk, kt]
  exact mid _ _ (((w2.st h1 h2).st h1 h2).st h1 h2)
