/-! SortedRuns' OWN METHODS, WEAKLY, 7 -/
theorem wk.all {P : Nat} {h : am_H} (w : wk P h) : am_kd h 2 = 1 ∧ am_kd h 3 = 10 ∧ am_kd h 7 = 3 ∧ am_kd h 8 = 6 ∧ am_kd h 9 = 200 ∧ am_kd h 12 = 201 ∧ am_kd h 13 = 3 ∧ am_kd h 14 = 8 ∧ am_kd h 15 = 102 ∧ am_kd h 16 = 101 ∧ am_kd h 17 = 101 ∧ am_kd h 18 = 4 ∧ am_kd h 21 = 9 ∧ am_kd h 25 = 2 ∧ am_kd h 26 = 3 ∧ am_kd h 39 = 7 ∧ am_ln h 9 = 9 ∧ am_ln h 12 = 8 ∧ am_ln h 15 = 128 ∧ am_ln h 16 = 200 ∧ am_ln h 17 = 200 ∧ am_R h 2 0 = 18 ∧ am_R h 2 1 = 21 ∧ am_R h 2 2 = 3 ∧ am_R h 2 3 = 8 ∧ am_R h 2 4 = 12 ∧ am_R h 2 5 = 25 ∧ am_R h 2 6 = 39 ∧ am_R h 2 7 = 13 ∧ am_R h 2 8 = 14 ∧ am_R h 2 9 = 16 ∧ am_R h 2 10 = 17 ∧ am_R h 3 3 = 7 ∧ am_R h 8 0 = 9 ∧ am_R h 14 0 = 15 ∧ am_R h 25 0 = 26 ∧ ((0 : Int32) = 0 ∨ (0 : Int32) = 1) ∧ ((1 : Int32) = 0 ∨ (1 : Int32) = 1) ∧ (200 ≤ 200 ∧ 200 < 204) ∧ (200 ≤ 201 ∧ 201 < 204) := ⟨w.kd 2 1 (by decide), w.kd 3 10 (by decide), w.kd 7 3 (by decide), w.kd 8 6 (by decide), w.kd 9 200 (by decide), w.kd 12 201 (by decide), w.kd 13 3 (by decide), w.kd 14 8 (by decide), w.kd 15 102 (by decide), w.kd 16 101 (by decide), w.kd 17 101 (by decide), w.kd 18 4 (by decide), w.kd 21 9 (by decide), w.kd 25 2 (by decide), w.kd 26 3 (by decide), w.kd 39 7 (by decide), w.ln 9 9 (by decide), w.ln 12 8 (by decide), w.ln 15 128 (by decide), w.ln 16 200 (by decide), w.ln 17 200 (by decide), w.R 2 0 18 (by decide), w.R 2 1 21 (by decide), w.R 2 2 3 (by decide), w.R 2 3 8 (by decide), w.R 2 4 12 (by decide), w.R 2 5 25 (by decide), w.R 2 6 39 (by decide), w.R 2 7 13 (by decide), w.R 2 8 14 (by decide), w.R 2 9 16 (by decide), w.R 2 10 17 (by decide), w.R 3 3 7 (by decide), w.R 8 0 9 (by decide), w.R 14 0 15 (by decide), w.R 25 0 26 (by decide), by decide, by decide, by decide, by decide⟩
/-- the place i of the list t -/
theorem wk.pl {P t i : Nat} {h : am_H} (w : wk P h) (ht : wl t) (hi : i < 9) : ruh h (am_R h (t + 1) i) := w.ru (t + 1) i (w.lst ht).2.2.2.2.1 hi
theorem ww_wm_loop {d P K c r5 : Nat} {x1 x3 x4 : Int32} {h : am_H} {Q : am_O → am_H → Prop} (hx : ∀ (i : Int32) (g : am_H), ruh g r5 → wp P K h g → am_Ex nm_pr (d + 3) mt_SR_writeMerged (82, [.ref 2, .int x1, .int (nI c), .int x3, .int x4, .ref r5, .int i], [], g) Q) : ∀ (m i : Nat) (g : am_H), m + i = 9 → ruh g r5 → wp P K h g →
    am_Ex nm_pr (d + 3) mt_SR_writeMerged (49, [.ref 2, .int x1, .int (nI c), .int x3, .int x4, .ref r5, .int (nI i)], [], g) Q
  | m, i, g, hm, hr, w => by
    refine am_go [55, 82] 3 ?_
    simp only [am_wp, am_stp, am_en, am_as, am_pad, am_nth, am_set, am_st1, am_st2, am_kl, am_kill, am_mem, am_fv, am_tk, am_wt, am_bk, Option.toList, List.cons_append, List.nil_append, Nat.reduceAdd, Nat.reduceEqDiff, Nat.reduceLeDiff, reduceIte, Nat.reduceLT, or_self, true_or, or_true, if_true, if_false, and_self, and_true, true_and, not_false_eq_true, not_true_eq_false, fd_SR_writeMerged_49, fd_SR_writeMerged_51, fd_SR_writeMerged_52, w.1.all]
    refine wif ?_ (hx _ _ hr w)
    cases m with
    | zero =>
      have e : i = 9 := by omega
      subst e
      have l1 : ¬ nI 9 < 9 := by decide
      refine am_go [62, 82] 3 ?_
      simp only [am_wp, am_stp, am_en, am_as, am_pad, am_nth, am_set, am_st1, am_st2, am_kl, am_kill, am_mem, am_fv, am_tk, am_wt, am_bk, Option.toList, List.cons_append, List.nil_append, Nat.reduceAdd, Nat.reduceEqDiff, Nat.reduceLeDiff, reduceIte, Nat.reduceLT, or_self, true_or, or_true, if_true, if_false, and_self, and_true, true_and, not_false_eq_true, not_true_eq_false, fd_SR_writeMerged_55, fd_SR_writeMerged_57, fd_SR_writeMerged_59, w.1.all, l1]
      exact hx _ _ hr w
    | succ m =>
      have l1 : nI i < 9 := nI_lt (b := 9) (by omega) (by decide)
      have i1 := am_inb (c := i) (N := 9) (by omega) (by omega)
      have q1 : (nI i).toNatClampNeg = i := nI_clamp (by omega)
      have r := w.1.ru 9 i (by decide) (by omega)
      refine am_go [62, 82] 3 ?_
      simp only [am_wp, am_stp, am_en, am_as, am_pad, am_nth, am_set, am_st1, am_st2, am_kl, am_kill, am_mem, am_fv, am_tk, am_wt, am_bk, Option.toList, List.cons_append, List.nil_append, Nat.reduceAdd, Nat.reduceEqDiff, Nat.reduceLeDiff, reduceIte, Nat.reduceLT, or_self, true_or, or_true, if_true, if_false, and_self, and_true, true_and, not_false_eq_true, not_true_eq_false, fd_SR_writeMerged_55, fd_SR_writeMerged_57, fd_SR_writeMerged_59, w.1.all, l1]
      refine am_go [] 7 ?_
      simp only [am_wp, am_stp, am_en, am_as, am_pad, am_nth, am_set, am_st1, am_st2, am_kl, am_kill, am_mem, am_fv, am_tk, am_wt, am_bk, Option.toList, List.cons_append, List.nil_append, Nat.reduceAdd, Nat.reduceEqDiff, Nat.reduceLeDiff, reduceIte, Nat.reduceLT, or_self, true_or, or_true, if_true, if_false, and_self, and_true, true_and, not_false_eq_true, not_true_eq_false, fd_SR_writeMerged_62, fd_SR_writeMerged_63, fd_SR_writeMerged_64, fd_SR_writeMerged_67, fd_SR_writeMerged_70, fd_SR_writeMerged_72, fd_SR_writeMerged_73, w.1.all, i1, q1]
      refine am_call (ww_letGo w.1 r) (fun o g1 q => ?_)
      obtain ⟨rfl, w1⟩ := q
      have hr1 := w1.2.ru hr
      have w1 := (w.trans w1).mono (l := K) (by omega)
      simp only [am_wp, am_stp, am_en, am_as, am_pad, am_nth, am_set, am_st1, am_st2, am_kl, am_kill, am_mem, am_fv, am_tk, am_wt, am_bk, Option.toList, List.cons_append, List.nil_append, Nat.reduceAdd, Nat.reduceEqDiff, Nat.reduceLeDiff, reduceIte, Nat.reduceLT, or_self, true_or, or_true, if_true, if_false, and_self, and_true, true_and, not_false_eq_true, not_true_eq_false]
      refine am_go [49] 2 ?_
      simp only [am_wp, am_stp, am_en, am_as, am_pad, am_nth, am_set, am_st1, am_st2, am_kl, am_kill, am_mem, am_fv, am_tk, am_wt, am_bk, Option.toList, List.cons_append, List.nil_append, Nat.reduceAdd, Nat.reduceEqDiff, Nat.reduceLeDiff, reduceIte, Nat.reduceLT, or_self, true_or, or_true, if_true, if_false, and_self, and_true, true_and, not_false_eq_true, not_true_eq_false, fd_SR_writeMerged_76, fd_SR_writeMerged_79, w1.1.all, nI_1]
      exact ww_wm_loop hx m (i + 1) g1 (by omega) hr1 w1
theorem ww_writeMerged {d P c : Nat} {x1 x3 : Int32} {h : am_H} (w : wk P h) (hc : c ≤ 9) : am_Rt nm_pr (d + 6) mi_SR_writeMerged [.ref 2, .int x1, .int (nI c), .int x3] h (fun o h' => iany o ∧ wp P 1 h h') := by
  have w := wp.refl w
  have i1 := am_inb (c := 0) (N := 9) (by omega) (by omega)
  have q1 : (nI 0).toNatClampNeg = 0 := by decide
  have z0 : (0 : Int32) = nI 0 := by decide
  have tail : ∀ (i x4 : Int32) (r5 : Nat) (g : am_H), wp P 1 h g → am_Ex nm_pr (d + 5) mt_SR_writeMerged (103, [.ref 2, .int x1, .int (nI c), .int x3, .int x4, .ref r5, .int i], [], g) (fun o h' => iany o ∧ wp P 1 h h') := by
    intro i x4 r5 g w
    refine am_go [] 2 ?_
    simp only [am_wp, am_stp, am_en, am_as, am_pad, am_nth, am_set, am_st1, am_st2, am_kl, am_kill, am_mem, am_fv, am_tk, am_wt, am_bk, Option.toList, List.cons_append, List.nil_append, Nat.reduceAdd, Nat.reduceEqDiff, Nat.reduceLeDiff, reduceIte, Nat.reduceLT, or_self, true_or, or_true, if_true, if_false, and_self, and_true, true_and, not_false_eq_true, not_true_eq_false, fd_SR_writeMerged_103, fd_SR_writeMerged_104, w.1.all]
    refine am_call (ww_writeHead w.1) (fun o g1 q => ?_)
    obtain ⟨rfl, w1⟩ := q
    have w1 := (w.trans w1).mono (l := 1) (by omega)
    simp only [am_wp, am_stp, am_en, am_as, am_pad, am_nth, am_set, am_st1, am_st2, am_kl, am_kill, am_mem, am_fv, am_tk, am_wt, am_bk, Option.toList, List.cons_append, List.nil_append, Nat.reduceAdd, Nat.reduceEqDiff, Nat.reduceLeDiff, reduceIte, Nat.reduceLT, or_self, true_or, or_true, if_true, if_false, and_self, and_true, true_and, not_false_eq_true, not_true_eq_false]
    refine am_go [114, 119] 3 ?_
    simp only [am_wp, am_stp, am_en, am_as, am_pad, am_nth, am_set, am_st1, am_st2, am_kl, am_kill, am_mem, am_fv, am_tk, am_wt, am_bk, Option.toList, List.cons_append, List.nil_append, Nat.reduceAdd, Nat.reduceEqDiff, Nat.reduceLeDiff, reduceIte, Nat.reduceLT, or_self, true_or, or_true, if_true, if_false, and_self, and_true, true_and, not_false_eq_true, not_true_eq_false, fd_SR_writeMerged_107, fd_SR_writeMerged_108, fd_SR_writeMerged_111, w1.1.all]
    refine wif ?_ ?_
    · refine am_go [] 6 ?_
      simp only [am_wp, am_stp, am_en, am_as, am_pad, am_nth, am_set, am_st1, am_st2, am_kl, am_kill, am_mem, am_fv, am_tk, am_wt, am_bk, Option.toList, List.cons_append, List.nil_append, Nat.reduceAdd, Nat.reduceEqDiff, Nat.reduceLeDiff, reduceIte, Nat.reduceLT, or_self, true_or, or_true, if_true, if_false, and_self, and_true, true_and, not_false_eq_true, not_true_eq_false, fd_SR_writeMerged_119, fd_SR_writeMerged_120, fd_SR_writeMerged_123, fd_SR_writeMerged_126, fd_SR_writeMerged_128, fd_SR_writeMerged_129, w1.1.all]
      exact ⟨⟨_, rfl⟩, w1⟩
    · refine am_go [] 3 ?_
      simp only [am_wp, am_stp, am_en, am_as, am_pad, am_nth, am_set, am_st1, am_st2, am_kl, am_kill, am_mem, am_fv, am_tk, am_wt, am_bk, Option.toList, List.cons_append, List.nil_append, Nat.reduceAdd, Nat.reduceEqDiff, Nat.reduceLeDiff, reduceIte, Nat.reduceLT, or_self, true_or, or_true, if_true, if_false, and_self, and_true, true_and, not_false_eq_true, not_true_eq_false, fd_SR_writeMerged_114, fd_SR_writeMerged_116, fd_SR_writeMerged_129, w1.1.all]
      exact ⟨⟨_, rfl⟩, w1⟩
  have mid : ∀ (x4 : Int32) (r5 : Nat) (g : am_H), ruh g r5 → wp P 1 h g → am_Ex nm_pr (d + 5) mt_SR_writeMerged (46, [.ref 2, .int x1, .int (nI c), .int x3, .int x4, .ref r5, .retAddr 0], [], g) (fun o h' => iany o ∧ wp P 1 h h') := by
    intro x4 r5 g hr w
    refine am_go [49] 2 ?_
    simp only [am_wp, am_stp, am_en, am_as, am_pad, am_nth, am_set, am_st1, am_st2, am_kl, am_kill, am_mem, am_fv, am_tk, am_wt, am_bk, Option.toList, List.cons_append, List.nil_append, Nat.reduceAdd, Nat.reduceEqDiff, Nat.reduceLeDiff, reduceIte, Nat.reduceLT, or_self, true_or, or_true, if_true, if_false, and_self, and_true, true_and, not_false_eq_true, not_true_eq_false, fd_SR_writeMerged_46, fd_SR_writeMerged_47]
    refine ww_wm_loop (d := d + 2) (P := P) (K := 1) (h := h) (fun i g hr w => ?_) 9 0 g rfl hr w
    refine am_go [] 4 ?_
    simp only [am_wp, am_stp, am_en, am_as, am_pad, am_nth, am_set, am_st1, am_st2, am_kl, am_kill, am_mem, am_fv, am_tk, am_wt, am_bk, Option.toList, List.cons_append, List.nil_append, Nat.reduceAdd, Nat.reduceEqDiff, Nat.reduceLeDiff, reduceIte, Nat.reduceLT, or_self, true_or, or_true, if_true, if_false, and_self, and_true, true_and, not_false_eq_true, not_true_eq_false, fd_SR_writeMerged_82, fd_SR_writeMerged_83, fd_SR_writeMerged_86, fd_SR_writeMerged_87, w.1.all]
    refine am_call (ww_dropFirst w.1 hc) (fun o g1 q => ?_)
    obtain ⟨rfl, w1⟩ := q
    have hr1 := w1.2.ru hr
    have w1 := (w.trans w1).mono (l := 1) (by omega)
    simp only [am_wp, am_stp, am_en, am_as, am_pad, am_nth, am_set, am_st1, am_st2, am_kl, am_kill, am_mem, am_fv, am_tk, am_wt, am_bk, Option.toList, List.cons_append, List.nil_append, Nat.reduceAdd, Nat.reduceEqDiff, Nat.reduceLeDiff, reduceIte, Nat.reduceLT, or_self, true_or, or_true, if_true, if_false, and_self, and_true, true_and, not_false_eq_true, not_true_eq_false]
    refine am_go [94, 103] 2 ?_
    simp only [am_wp, am_stp, am_en, am_as, am_pad, am_nth, am_set, am_st1, am_st2, am_kl, am_kill, am_mem, am_fv, am_tk, am_wt, am_bk, Option.toList, List.cons_append, List.nil_append, Nat.reduceAdd, Nat.reduceEqDiff, Nat.reduceLeDiff, reduceIte, Nat.reduceLT, or_self, true_or, or_true, if_true, if_false, and_self, and_true, true_and, not_false_eq_true, not_true_eq_false, fd_SR_writeMerged_90, fd_SR_writeMerged_91, w1.1.all]
    refine wif ?_ (tail _ _ _ _ w1)
    refine am_go [] 4 ?_
    simp only [am_wp, am_stp, am_en, am_as, am_pad, am_nth, am_set, am_st1, am_st2, am_kl, am_kill, am_mem, am_fv, am_tk, am_wt, am_bk, Option.toList, List.cons_append, List.nil_append, Nat.reduceAdd, Nat.reduceEqDiff, Nat.reduceLeDiff, reduceIte, Nat.reduceLT, or_self, true_or, or_true, if_true, if_false, and_self, and_true, true_and, not_false_eq_true, not_true_eq_false, fd_SR_writeMerged_94, fd_SR_writeMerged_95, fd_SR_writeMerged_98, fd_SR_writeMerged_100, w1.1.all]
    refine am_call (ww_putFirst w1.1 hr1) (fun o g2 q => ?_)
    obtain ⟨rfl, w2⟩ := q
    have w2 := (w1.trans w2).mono (l := 1) (by omega)
    simp only [am_wp, am_stp, am_en, am_as, am_pad, am_nth, am_set, am_st1, am_st2, am_kl, am_kill, am_mem, am_fv, am_tk, am_wt, am_bk, Option.toList, List.cons_append, List.nil_append, Nat.reduceAdd, Nat.reduceEqDiff, Nat.reduceLeDiff, reduceIte, Nat.reduceLT, or_self, true_or, or_true, if_true, if_false, and_self, and_true, true_and, not_false_eq_true, not_true_eq_false]
    exact tail _ _ _ _ w2
  refine am_in' (d := d + 5) mt_SR_writeMerged 7 rfl rfl rfl ?_
  refine am_go [20] 10 ?_
  simp only [am_wp, am_stp, am_en, am_as, am_pad, am_nth, am_set, am_st1, am_st2, am_kl, am_kill, am_mem, am_fv, am_tk, am_wt, am_bk, Option.toList, List.cons_append, List.nil_append, Nat.reduceAdd, Nat.reduceEqDiff, Nat.reduceLeDiff, reduceIte, Nat.reduceLT, or_self, true_or, or_true, if_true, if_false, and_self, and_true, true_and, not_false_eq_true, not_true_eq_false, fd_SR_writeMerged_0, fd_SR_writeMerged_1, fd_SR_writeMerged_4, fd_SR_writeMerged_7, fd_SR_writeMerged_9, fd_SR_writeMerged_10, fd_SR_writeMerged_13, fd_SR_writeMerged_16, fd_SR_writeMerged_17, fd_SR_writeMerged_18, w.1.all, z0, i1, q1]
  have r0 := w.1.ru 9 0 (by decide) (by omega)
  generalize am_R h 9 0 = r5 at *
  refine am_go [24, 46] 2 ?_
  simp only [am_wp, am_stp, am_en, am_as, am_pad, am_nth, am_set, am_st1, am_st2, am_kl, am_kill, am_mem, am_fv, am_tk, am_wt, am_bk, Option.toList, List.cons_append, List.nil_append, Nat.reduceAdd, Nat.reduceEqDiff, Nat.reduceLeDiff, reduceIte, Nat.reduceLT, or_self, true_or, or_true, if_true, if_false, and_self, and_true, true_and, not_false_eq_true, not_true_eq_false, fd_SR_writeMerged_20, fd_SR_writeMerged_21, w.1.all]
  refine wif ?_ (mid _ _ _ r0 (w.mono (by omega)))
  refine am_go [] 3 ?_
  simp only [am_wp, am_stp, am_en, am_as, am_pad, am_nth, am_set, am_st1, am_st2, am_kl, am_kill, am_mem, am_fv, am_tk, am_wt, am_bk, Option.toList, List.cons_append, List.nil_append, Nat.reduceAdd, Nat.reduceEqDiff, Nat.reduceLeDiff, reduceIte, Nat.reduceLT, or_self, true_or, or_true, if_true, if_false, and_self, and_true, true_and, not_false_eq_true, not_true_eq_false, fd_SR_writeMerged_24, fd_SR_writeMerged_25, fd_SR_writeMerged_26, w.1.all]
  refine am_call (ww_blendRuns w.1) (fun o g1 q => ?_)
  obtain ⟨rfl, w1⟩ := q
  have w1 := (w.trans w1).mono (l := 0) (by omega)
  simp only [am_wp, am_stp, am_en, am_as, am_pad, am_nth, am_set, am_st1, am_st2, am_kl, am_kill, am_mem, am_fv, am_tk, am_wt, am_bk, Option.toList, List.cons_append, List.nil_append, Nat.reduceAdd, Nat.reduceEqDiff, Nat.reduceLeDiff, reduceIte, Nat.reduceLT, or_self, true_or, or_true, if_true, if_false, and_self, and_true, true_and, not_false_eq_true, not_true_eq_false]
  refine am_go [] 3 ?_
  simp only [am_wp, am_stp, am_en, am_as, am_pad, am_nth, am_set, am_st1, am_st2, am_kl, am_kill, am_mem, am_fv, am_tk, am_wt, am_bk, Option.toList, List.cons_append, List.nil_append, Nat.reduceAdd, Nat.reduceEqDiff, Nat.reduceLeDiff, reduceIte, Nat.reduceLT, or_self, true_or, or_true, if_true, if_false, and_self, and_true, true_and, not_false_eq_true, not_true_eq_false, fd_SR_writeMerged_29, fd_SR_writeMerged_30, fd_SR_writeMerged_31, w1.1.all]
  refine am_call (ww_writeRun w1.1) (fun o g2 q => ?_)
  obtain ⟨a, rfl, ra, w2⟩ := q
  have w2 := (w1.trans w2).mono (l := 1) (by omega)
  simp only [am_wp, am_stp, am_en, am_as, am_pad, am_nth, am_set, am_st1, am_st2, am_kl, am_kill, am_mem, am_fv, am_tk, am_wt, am_bk, Option.toList, List.cons_append, List.nil_append, Nat.reduceAdd, Nat.reduceEqDiff, Nat.reduceLeDiff, reduceIte, Nat.reduceLT, or_self, true_or, or_true, if_true, if_false, and_self, and_true, true_and, not_false_eq_true, not_true_eq_false]
  refine am_go [43, 46] 4 ?_
  simp only [am_wp, am_stp, am_en, am_as, am_pad, am_nth, am_set, am_st1, am_st2, am_kl, am_kill, am_mem, am_fv, am_tk, am_wt, am_bk, Option.toList, List.cons_append, List.nil_append, Nat.reduceAdd, Nat.reduceEqDiff, Nat.reduceLeDiff, reduceIte, Nat.reduceLT, or_self, true_or, or_true, if_true, if_false, and_self, and_true, true_and, not_false_eq_true, not_true_eq_false, fd_SR_writeMerged_34, fd_SR_writeMerged_36, fd_SR_writeMerged_37, fd_SR_writeMerged_40, w2.1.all]
  refine wif (mid _ _ _ ra w2) ?_
  refine am_go [] 2 ?_
  simp only [am_wp, am_stp, am_en, am_as, am_pad, am_nth, am_set, am_st1, am_st2, am_kl, am_kill, am_mem, am_fv, am_tk, am_wt, am_bk, Option.toList, List.cons_append, List.nil_append, Nat.reduceAdd, Nat.reduceEqDiff, Nat.reduceLeDiff, reduceIte, Nat.reduceLT, or_self, true_or, or_true, if_true, if_false, and_self, and_true, true_and, not_false_eq_true, not_true_eq_false, fd_SR_writeMerged_43, fd_SR_writeMerged_45, w2.1.all]
  exact ⟨⟨_, rfl⟩, w2⟩
/-- the rounds of mergeRuns -/
theorem ww_mr_loop {d P : Nat} {h : am_H} : ∀ (m L c : Nat) (x3 : Int32) (y : Value) (g : am_H), m + L = 2 → c ≤ 9 → wp P 0 h g →
    am_Ex nm_pr (d + 6) mt_SR_mergeRuns (20, [.ref 2, .int (nI L), .int (nI c), .int x3, y], [], g) (fun o h' => iany o ∧ wp P 1 h h')
  | m, L, c, x3, y, g, hm, hc, w => by
    refine am_go [] 5 ?_
    simp only [am_wp, am_stp, am_en, am_as, am_pad, am_nth, am_set, am_st1, am_st2, am_kl, am_kill, am_mem, am_fv, am_tk, am_wt, am_bk, Option.toList, List.cons_append, List.nil_append, Nat.reduceAdd, Nat.reduceEqDiff, Nat.reduceLeDiff, reduceIte, Nat.reduceLT, or_self, true_or, or_true, if_true, if_false, and_self, and_true, true_and, not_false_eq_true, not_true_eq_false, fd_SR_mergeRuns_20, fd_SR_mergeRuns_23, fd_SR_mergeRuns_24, fd_SR_mergeRuns_27, fd_SR_mergeRuns_28, w.1.all, nI_1]
    refine am_call (ww_count w.1 (Or.inl rfl)) (fun o g1 q => ?_)
    obtain ⟨⟨n, hn, rfl⟩, rfl⟩ := q
    simp only [am_wp, am_stp, am_en, am_as, am_pad, am_nth, am_set, am_st1, am_st2, am_kl, am_kill, am_mem, am_fv, am_tk, am_wt, am_bk, Option.toList, List.cons_append, List.nil_append, Nat.reduceAdd, Nat.reduceEqDiff, Nat.reduceLeDiff, reduceIte, Nat.reduceLT, or_self, true_or, or_true, if_true, if_false, and_self, and_true, true_and, not_false_eq_true, not_true_eq_false]
    refine am_go [] 7 ?_
    simp only [am_wp, am_stp, am_en, am_as, am_pad, am_nth, am_set, am_st1, am_st2, am_kl, am_kill, am_mem, am_fv, am_tk, am_wt, am_bk, Option.toList, List.cons_append, List.nil_append, Nat.reduceAdd, Nat.reduceEqDiff, Nat.reduceLeDiff, reduceIte, Nat.reduceLT, or_self, true_or, or_true, if_true, if_false, and_self, and_true, true_and, not_false_eq_true, not_true_eq_false, fd_SR_mergeRuns_31, fd_SR_mergeRuns_33, fd_SR_mergeRuns_34, fd_SR_mergeRuns_35, fd_SR_mergeRuns_38, fd_SR_mergeRuns_39, fd_SR_mergeRuns_41, w.1.all]
    refine am_call (ww_readRuns w.1 (Or.inl rfl) hc) (fun o g2 q => ?_)
    obtain ⟨b, w2⟩ := q
    have w2 := (w.trans w2).mono (l := 0) (by omega)
    obtain ⟨x, rfl, -⟩ := b01_cases b
    simp only [am_wp, am_stp, am_en, am_as, am_pad, am_nth, am_set, am_st1, am_st2, am_kl, am_kill, am_mem, am_fv, am_tk, am_wt, am_bk, Option.toList, List.cons_append, List.nil_append, Nat.reduceAdd, Nat.reduceEqDiff, Nat.reduceLeDiff, reduceIte, Nat.reduceLT, or_self, true_or, or_true, if_true, if_false, and_self, and_true, true_and, not_false_eq_true, not_true_eq_false]
    refine am_go [47, 50] 1 ?_
    simp only [am_wp, am_stp, am_en, am_as, am_pad, am_nth, am_set, am_st1, am_st2, am_kl, am_kill, am_mem, am_fv, am_tk, am_wt, am_bk, Option.toList, List.cons_append, List.nil_append, Nat.reduceAdd, Nat.reduceEqDiff, Nat.reduceLeDiff, reduceIte, Nat.reduceLT, or_self, true_or, or_true, if_true, if_false, and_self, and_true, true_and, not_false_eq_true, not_true_eq_false, fd_SR_mergeRuns_44, w2.1.all]
    refine wif ?_ ?_
    · refine am_go [] 2 ?_
      simp only [am_wp, am_stp, am_en, am_as, am_pad, am_nth, am_set, am_st1, am_st2, am_kl, am_kill, am_mem, am_fv, am_tk, am_wt, am_bk, Option.toList, List.cons_append, List.nil_append, Nat.reduceAdd, Nat.reduceEqDiff, Nat.reduceLeDiff, reduceIte, Nat.reduceLT, or_self, true_or, or_true, if_true, if_false, and_self, and_true, true_and, not_false_eq_true, not_true_eq_false, fd_SR_mergeRuns_47, fd_SR_mergeRuns_49, w2.1.all]
      exact ⟨⟨_, rfl⟩, w2.mono (by omega)⟩
    refine am_go [] 5 ?_
    simp only [am_wp, am_stp, am_en, am_as, am_pad, am_nth, am_set, am_st1, am_st2, am_kl, am_kill, am_mem, am_fv, am_tk, am_wt, am_bk, Option.toList, List.cons_append, List.nil_append, Nat.reduceAdd, Nat.reduceEqDiff, Nat.reduceLeDiff, reduceIte, Nat.reduceLT, or_self, true_or, or_true, if_true, if_false, and_self, and_true, true_and, not_false_eq_true, not_true_eq_false, fd_SR_mergeRuns_50, fd_SR_mergeRuns_52, fd_SR_mergeRuns_53, fd_SR_mergeRuns_54, fd_SR_mergeRuns_55, w2.1.all]
    refine am_call (ww_blendRuns w2.1) (fun o g3 q => ?_)
    obtain ⟨rfl, w3⟩ := q
    have w3 := (w2.trans w3).mono (l := 0) (by omega)
    simp only [am_wp, am_stp, am_en, am_as, am_pad, am_nth, am_set, am_st1, am_st2, am_kl, am_kill, am_mem, am_fv, am_tk, am_wt, am_bk, Option.toList, List.cons_append, List.nil_append, Nat.reduceAdd, Nat.reduceEqDiff, Nat.reduceLeDiff, reduceIte, Nat.reduceLT, or_self, true_or, or_true, if_true, if_false, and_self, and_true, true_and, not_false_eq_true, not_true_eq_false]
    refine am_go [] 3 ?_
    simp only [am_wp, am_stp, am_en, am_as, am_pad, am_nth, am_set, am_st1, am_st2, am_kl, am_kill, am_mem, am_fv, am_tk, am_wt, am_bk, Option.toList, List.cons_append, List.nil_append, Nat.reduceAdd, Nat.reduceEqDiff, Nat.reduceLeDiff, reduceIte, Nat.reduceLT, or_self, true_or, or_true, if_true, if_false, and_self, and_true, true_and, not_false_eq_true, not_true_eq_false, fd_SR_mergeRuns_58, fd_SR_mergeRuns_59, fd_SR_mergeRuns_60, w3.1.all]
    refine am_call (ww_mostPages) (fun o g4 q => ?_)
    obtain ⟨⟨y1, rfl⟩, rfl⟩ := q
    simp only [am_wp, am_stp, am_en, am_as, am_pad, am_nth, am_set, am_st1, am_st2, am_kl, am_kill, am_mem, am_fv, am_tk, am_wt, am_bk, Option.toList, List.cons_append, List.nil_append, Nat.reduceAdd, Nat.reduceEqDiff, Nat.reduceLeDiff, reduceIte, Nat.reduceLT, or_self, true_or, or_true, if_true, if_false, and_self, and_true, true_and, not_false_eq_true, not_true_eq_false]
    refine am_go [] 1 ?_
    simp only [am_wp, am_stp, am_en, am_as, am_pad, am_nth, am_set, am_st1, am_st2, am_kl, am_kill, am_mem, am_fv, am_tk, am_wt, am_bk, Option.toList, List.cons_append, List.nil_append, Nat.reduceAdd, Nat.reduceEqDiff, Nat.reduceLeDiff, reduceIte, Nat.reduceLT, or_self, true_or, or_true, if_true, if_false, and_self, and_true, true_and, not_false_eq_true, not_true_eq_false, fd_SR_mergeRuns_63, w3.1.all]
    refine am_call (ww_countPages w3.1) (fun o g5 q => ?_)
    obtain ⟨⟨y2, rfl⟩, w5⟩ := q
    have w5 := (w3.trans w5).mono (l := 0) (by omega)
    simp only [am_wp, am_stp, am_en, am_as, am_pad, am_nth, am_set, am_st1, am_st2, am_kl, am_kill, am_mem, am_fv, am_tk, am_wt, am_bk, Option.toList, List.cons_append, List.nil_append, Nat.reduceAdd, Nat.reduceEqDiff, Nat.reduceLeDiff, reduceIte, Nat.reduceLT, or_self, true_or, or_true, if_true, if_false, and_self, and_true, true_and, not_false_eq_true, not_true_eq_false]
    have fin : am_Ex nm_pr (d + 6) mt_SR_mergeRuns (80, [.ref 2, .int (nI (L + 1)), .int (nI n), .int y2, .int (nI n)], [], g5) (fun o h' => iany o ∧ wp P 1 h h') := by
      refine am_go [91, 94] 5 ?_
      simp only [am_wp, am_stp, am_en, am_as, am_pad, am_nth, am_set, am_st1, am_st2, am_kl, am_kill, am_mem, am_fv, am_tk, am_wt, am_bk, Option.toList, List.cons_append, List.nil_append, Nat.reduceAdd, Nat.reduceEqDiff, Nat.reduceLeDiff, reduceIte, Nat.reduceLT, or_self, true_or, or_true, if_true, if_false, and_self, and_true, true_and, not_false_eq_true, not_true_eq_false, fd_SR_mergeRuns_80, fd_SR_mergeRuns_81, fd_SR_mergeRuns_82, fd_SR_mergeRuns_85, fd_SR_mergeRuns_88, w5.1.all]
      refine wif ?_ ?_
      rotate_left
      · refine am_go [] 5 ?_
        simp only [am_wp, am_stp, am_en, am_as, am_pad, am_nth, am_set, am_st1, am_st2, am_kl, am_kill, am_mem, am_fv, am_tk, am_wt, am_bk, Option.toList, List.cons_append, List.nil_append, Nat.reduceAdd, Nat.reduceEqDiff, Nat.reduceLeDiff, reduceIte, Nat.reduceLT, or_self, true_or, or_true, if_true, if_false, and_self, and_true, true_and, not_false_eq_true, not_true_eq_false, fd_SR_mergeRuns_94, fd_SR_mergeRuns_95, fd_SR_mergeRuns_96, fd_SR_mergeRuns_97, fd_SR_mergeRuns_98, w5.1.all]
        refine am_call (ww_writeMerged w5.1 hn) (fun o g6 q => ?_)
        obtain ⟨⟨y3, rfl⟩, w6⟩ := q
        have w6 := (w5.trans w6).mono (l := 1) (by omega)
        simp only [am_wp, am_stp, am_en, am_as, am_pad, am_nth, am_set, am_st1, am_st2, am_kl, am_kill, am_mem, am_fv, am_tk, am_wt, am_bk, Option.toList, List.cons_append, List.nil_append, Nat.reduceAdd, Nat.reduceEqDiff, Nat.reduceLeDiff, reduceIte, Nat.reduceLT, or_self, true_or, or_true, if_true, if_false, and_self, and_true, true_and, not_false_eq_true, not_true_eq_false]
        refine am_go [] 1 ?_
        simp only [am_wp, am_stp, am_en, am_as, am_pad, am_nth, am_set, am_st1, am_st2, am_kl, am_kill, am_mem, am_fv, am_tk, am_wt, am_bk, Option.toList, List.cons_append, List.nil_append, Nat.reduceAdd, Nat.reduceEqDiff, Nat.reduceLeDiff, reduceIte, Nat.reduceLT, or_self, true_or, or_true, if_true, if_false, and_self, and_true, true_and, not_false_eq_true, not_true_eq_false, fd_SR_mergeRuns_101, w6.1.all]
        exact ⟨⟨_, rfl⟩, w6⟩
      · refine am_go [] 2 ?_
        simp only [am_wp, am_stp, am_en, am_as, am_pad, am_nth, am_set, am_st1, am_st2, am_kl, am_kill, am_mem, am_fv, am_tk, am_wt, am_bk, Option.toList, List.cons_append, List.nil_append, Nat.reduceAdd, Nat.reduceEqDiff, Nat.reduceLeDiff, reduceIte, Nat.reduceLT, or_self, true_or, or_true, if_true, if_false, and_self, and_true, true_and, not_false_eq_true, not_true_eq_false, fd_SR_mergeRuns_91, fd_SR_mergeRuns_93, w5.1.all]
        exact ⟨⟨_, rfl⟩, w5.mono (by omega)⟩
    cases m with
    | zero =>
      have e : L = 2 := by omega
      subst e
      have l1 : ¬ nI (2 + 1) < 3 := by decide
      refine am_go [72, 80] 4 ?_
      simp only [am_wp, am_stp, am_en, am_as, am_pad, am_nth, am_set, am_st1, am_st2, am_kl, am_kill, am_mem, am_fv, am_tk, am_wt, am_bk, Option.toList, List.cons_append, List.nil_append, Nat.reduceAdd, Nat.reduceEqDiff, Nat.reduceLeDiff, reduceIte, Nat.reduceLT, or_self, true_or, or_true, if_true, if_false, and_self, and_true, true_and, not_false_eq_true, not_true_eq_false, fd_SR_mergeRuns_66, fd_SR_mergeRuns_67, fd_SR_mergeRuns_68, fd_SR_mergeRuns_69, w5.1.all, l1]
      exact fin
    | succ m =>
      have l1 : nI (L + 1) < 3 := nI_lt (b := 3) (by omega) (by decide)
      refine am_go [72, 80] 4 ?_
      simp only [am_wp, am_stp, am_en, am_as, am_pad, am_nth, am_set, am_st1, am_st2, am_kl, am_kill, am_mem, am_fv, am_tk, am_wt, am_bk, Option.toList, List.cons_append, List.nil_append, Nat.reduceAdd, Nat.reduceEqDiff, Nat.reduceLeDiff, reduceIte, Nat.reduceLT, or_self, true_or, or_true, if_true, if_false, and_self, and_true, true_and, not_false_eq_true, not_true_eq_false, fd_SR_mergeRuns_66, fd_SR_mergeRuns_67, fd_SR_mergeRuns_68, fd_SR_mergeRuns_69, w5.1.all, l1]
      refine am_go [] 3 ?_
      simp only [am_wp, am_stp, am_en, am_as, am_pad, am_nth, am_set, am_st1, am_st2, am_kl, am_kill, am_mem, am_fv, am_tk, am_wt, am_bk, Option.toList, List.cons_append, List.nil_append, Nat.reduceAdd, Nat.reduceEqDiff, Nat.reduceLeDiff, reduceIte, Nat.reduceLT, or_self, true_or, or_true, if_true, if_false, and_self, and_true, true_and, not_false_eq_true, not_true_eq_false, fd_SR_mergeRuns_72, fd_SR_mergeRuns_73, fd_SR_mergeRuns_74, w5.1.all]
      refine am_call (ww_mostPages) (fun o g6 q => ?_)
      obtain ⟨⟨y4, rfl⟩, rfl⟩ := q
      simp only [am_wp, am_stp, am_en, am_as, am_pad, am_nth, am_set, am_st1, am_st2, am_kl, am_kill, am_mem, am_fv, am_tk, am_wt, am_bk, Option.toList, List.cons_append, List.nil_append, Nat.reduceAdd, Nat.reduceEqDiff, Nat.reduceLeDiff, reduceIte, Nat.reduceLT, or_self, true_or, or_true, if_true, if_false, and_self, and_true, true_and, not_false_eq_true, not_true_eq_false]
      refine am_go [80, 20] 1 ?_
      simp only [am_wp, am_stp, am_en, am_as, am_pad, am_nth, am_set, am_st1, am_st2, am_kl, am_kill, am_mem, am_fv, am_tk, am_wt, am_bk, Option.toList, List.cons_append, List.nil_append, Nat.reduceAdd, Nat.reduceEqDiff, Nat.reduceLeDiff, reduceIte, Nat.reduceLT, or_self, true_or, or_true, if_true, if_false, and_self, and_true, true_and, not_false_eq_true, not_true_eq_false, fd_SR_mergeRuns_77, w5.1.all]
      refine wif ?_ fin
      exact ww_mr_loop m (L + 1) n y2 _ _ (by omega) hn w5
theorem ww_mergeRuns {d P : Nat} {h : am_H} (w : wk P h) : am_Rt nm_pr (d + 7) mi_SR_mergeRuns [.ref 2] h (fun o h' => iany o ∧ wp P 1 h h') := by
  have w := wp.refl w
  refine am_in' (d := d + 6) mt_SR_mergeRuns 5 rfl rfl rfl ?_
  refine am_go [] 4 ?_
  simp only [am_wp, am_stp, am_en, am_as, am_pad, am_nth, am_set, am_st1, am_st2, am_kl, am_kill, am_mem, am_fv, am_tk, am_wt, am_bk, Option.toList, List.cons_append, List.nil_append, Nat.reduceAdd, Nat.reduceEqDiff, Nat.reduceLeDiff, reduceIte, Nat.reduceLT, or_self, true_or, or_true, if_true, if_false, and_self, and_true, true_and, not_false_eq_true, not_true_eq_false, fd_SR_mergeRuns_0, fd_SR_mergeRuns_1, fd_SR_mergeRuns_4, fd_SR_mergeRuns_5, w.1.all]
  refine am_call (ww_count w.1 (Or.inl rfl)) (fun o g1 q => ?_)
  obtain ⟨⟨n, hn, rfl⟩, rfl⟩ := q
  simp only [am_wp, am_stp, am_en, am_as, am_pad, am_nth, am_set, am_st1, am_st2, am_kl, am_kill, am_mem, am_fv, am_tk, am_wt, am_bk, Option.toList, List.cons_append, List.nil_append, Nat.reduceAdd, Nat.reduceEqDiff, Nat.reduceLeDiff, reduceIte, Nat.reduceLT, or_self, true_or, or_true, if_true, if_false, and_self, and_true, true_and, not_false_eq_true, not_true_eq_false]
  refine am_go [11, 14] 1 ?_
  simp only [am_wp, am_stp, am_en, am_as, am_pad, am_nth, am_set, am_st1, am_st2, am_kl, am_kill, am_mem, am_fv, am_tk, am_wt, am_bk, Option.toList, List.cons_append, List.nil_append, Nat.reduceAdd, Nat.reduceEqDiff, Nat.reduceLeDiff, reduceIte, Nat.reduceLT, or_self, true_or, or_true, if_true, if_false, and_self, and_true, true_and, not_false_eq_true, not_true_eq_false, fd_SR_mergeRuns_8, w.1.all]
  refine wif ?_ ?_
  · refine am_go [] 2 ?_
    simp only [am_wp, am_stp, am_en, am_as, am_pad, am_nth, am_set, am_st1, am_st2, am_kl, am_kill, am_mem, am_fv, am_tk, am_wt, am_bk, Option.toList, List.cons_append, List.nil_append, Nat.reduceAdd, Nat.reduceEqDiff, Nat.reduceLeDiff, reduceIte, Nat.reduceLT, or_self, true_or, or_true, if_true, if_false, and_self, and_true, true_and, not_false_eq_true, not_true_eq_false, fd_SR_mergeRuns_11, fd_SR_mergeRuns_13, w.1.all]
    exact ⟨⟨_, rfl⟩, w.mono (by omega)⟩
  · refine am_go [20] 6 ?_
    simp only [am_wp, am_stp, am_en, am_as, am_pad, am_nth, am_set, am_st1, am_st2, am_kl, am_kill, am_mem, am_fv, am_tk, am_wt, am_bk, Option.toList, List.cons_append, List.nil_append, Nat.reduceAdd, Nat.reduceEqDiff, Nat.reduceLeDiff, reduceIte, Nat.reduceLT, or_self, true_or, or_true, if_true, if_false, and_self, and_true, true_and, not_false_eq_true, not_true_eq_false, fd_SR_mergeRuns_14, fd_SR_mergeRuns_15, fd_SR_mergeRuns_16, fd_SR_mergeRuns_17, fd_SR_mergeRuns_18, fd_SR_mergeRuns_19, w.1.all]
    exact ww_mr_loop 2 0 0 0 _ g1 rfl (by omega) w
