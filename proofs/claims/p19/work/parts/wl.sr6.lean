/-! SortedRuns' OWN METHODS, WEAKLY, 6 -/
theorem ww_mostPages {d : Nat} {v : Int32} {h : am_H} : am_Rt nm_pr (d + 1) mi_SR_mostPages [.int v] h (fun o h' => iany o ∧ h' = h) := by
  refine am_in' mt_SR_mostPages 1 rfl rfl rfl ?_
  refine am_go [5, 10] 3 ?_
  simp only [am_wp, am_stp, am_en, am_as, am_pad, am_nth, am_set, am_st1, am_st2, am_kl, am_kill, am_mem, am_fv, am_tk, am_wt, am_bk, Option.toList, List.cons_append, List.nil_append, Nat.reduceAdd, Nat.reduceEqDiff, Nat.reduceLeDiff, reduceIte, Nat.reduceLT, or_self, true_or, or_true, if_true, if_false, and_self, and_true, true_and, not_false_eq_true, not_true_eq_false, fd_SR_mostPages_0, fd_SR_mostPages_1, fd_SR_mostPages_2]
  refine wif ?_ ?_
  · refine am_go [] 3 ?_
    simp only [am_wp, am_stp, am_en, am_as, am_pad, am_nth, am_set, am_st1, am_st2, am_kl, am_kill, am_mem, am_fv, am_tk, am_wt, am_bk, Option.toList, List.cons_append, List.nil_append, Nat.reduceAdd, Nat.reduceEqDiff, Nat.reduceLeDiff, reduceIte, Nat.reduceLT, or_self, true_or, or_true, if_true, if_false, and_self, and_true, true_and, not_false_eq_true, not_true_eq_false, fd_SR_mostPages_5, fd_SR_mostPages_7, fd_SR_mostPages_23]
    exact ⟨_, rfl⟩
  · refine am_go [15, 20] 3 ?_
    simp only [am_wp, am_stp, am_en, am_as, am_pad, am_nth, am_set, am_st1, am_st2, am_kl, am_kill, am_mem, am_fv, am_tk, am_wt, am_bk, Option.toList, List.cons_append, List.nil_append, Nat.reduceAdd, Nat.reduceEqDiff, Nat.reduceLeDiff, reduceIte, Nat.reduceLT, or_self, true_or, or_true, if_true, if_false, and_self, and_true, true_and, not_false_eq_true, not_true_eq_false, fd_SR_mostPages_10, fd_SR_mostPages_11, fd_SR_mostPages_12]
    refine wif ?_ ?_
    · refine am_go [] 3 ?_
      simp only [am_wp, am_stp, am_en, am_as, am_pad, am_nth, am_set, am_st1, am_st2, am_kl, am_kill, am_mem, am_fv, am_tk, am_wt, am_bk, Option.toList, List.cons_append, List.nil_append, Nat.reduceAdd, Nat.reduceEqDiff, Nat.reduceLeDiff, reduceIte, Nat.reduceLT, or_self, true_or, or_true, if_true, if_false, and_self, and_true, true_and, not_false_eq_true, not_true_eq_false, fd_SR_mostPages_15, fd_SR_mostPages_17, fd_SR_mostPages_23]
      exact ⟨_, rfl⟩
    · refine am_go [] 2 ?_
      simp only [am_wp, am_stp, am_en, am_as, am_pad, am_nth, am_set, am_st1, am_st2, am_kl, am_kill, am_mem, am_fv, am_tk, am_wt, am_bk, Option.toList, List.cons_append, List.nil_append, Nat.reduceAdd, Nat.reduceEqDiff, Nat.reduceLeDiff, reduceIte, Nat.reduceLT, or_self, true_or, or_true, if_true, if_false, and_self, and_true, true_and, not_false_eq_true, not_true_eq_false, fd_SR_mostPages_20, fd_SR_mostPages_23]
      exact ⟨_, rfl⟩
theorem ww_readRuns_in {d P t a : Nat} {f e : Int32} {i : Int32} {h : am_H} (hx : ∀ (p c : Int32) (g : am_H), wp P 0 h g → am_Ex nm_pr (d + 3) mt_SR_readRuns (76, [.ref 2, .ref t, .int f, .int e, .int i, .ref a, .int p, .int c], [], g) (fun o h' => b01 o ∧ wp P 0 h h')) : ∀ (m c : Nat) (p : Int32) (g : am_H), m + c = 2147483647 → ruh g a → wp P 0 h g →
    am_Ex nm_pr (d + 3) mt_SR_readRuns (35, [.ref 2, .ref t, .int f, .int e, .int i, .ref a, .int p, .int (nI c)], [], g) (fun o h' => b01 o ∧ wp P 0 h h')
  | m, c, p, g, hm, r, w => by
    have o0 : (0 : Int32) = 0 ∨ (0 : Int32) = 1 := by decide
    refine am_go [45, 76] 4 ?_
    simp only [am_wp, am_stp, am_en, am_as, am_pad, am_nth, am_set, am_st1, am_st2, am_kl, am_kill, am_mem, am_fv, am_tk, am_wt, am_bk, Option.toList, List.cons_append, List.nil_append, Nat.reduceAdd, Nat.reduceEqDiff, Nat.reduceLeDiff, reduceIte, Nat.reduceLT, or_self, true_or, or_true, if_true, if_false, and_self, and_true, true_and, not_false_eq_true, not_true_eq_false, fd_SR_readRuns_35, fd_SR_readRuns_37, fd_SR_readRuns_39, fd_SR_readRuns_42, r.1]
    cases m with
    | zero =>
      have l1 : ¬ nI c < am_I g a 4 := nmax (by omega)
      simp only [l1, am_wp, am_stp, am_en, am_as, am_pad, am_nth, am_set, am_st1, am_st2, am_kl, am_kill, am_mem, am_fv, am_tk, am_wt, am_bk, Option.toList, List.cons_append, List.nil_append, Nat.reduceAdd, Nat.reduceEqDiff, Nat.reduceLeDiff, reduceIte, Nat.reduceLT, or_self, true_or, or_true, if_true, if_false, and_self, and_true, true_and, not_false_eq_true, not_true_eq_false]
      exact hx _ _ _ w
    | succ m =>
      refine wif ?_ (hx _ _ _ w)
      refine am_go [] 4 ?_
      simp only [am_wp, am_stp, am_en, am_as, am_pad, am_nth, am_set, am_st1, am_st2, am_kl, am_kill, am_mem, am_fv, am_tk, am_wt, am_bk, Option.toList, List.cons_append, List.nil_append, Nat.reduceAdd, Nat.reduceEqDiff, Nat.reduceLeDiff, reduceIte, Nat.reduceLT, or_self, true_or, or_true, if_true, if_false, and_self, and_true, true_and, not_false_eq_true, not_true_eq_false, fd_SR_readRuns_45, fd_SR_readRuns_46, fd_SR_readRuns_49, fd_SR_readRuns_51, w.1.kd 2 1 (by decide), w.1.R 2 0 18 (by decide), w.1.kd 18 4 (by decide)]
      refine am_call (ww_readsRight w.1) (fun o g1 q => ?_)
      obtain ⟨b, w1⟩ := q
      have r1 := w1.2.ru r
      have w1 := (w.trans w1).mono (l := 0) (by omega)
      obtain ⟨v, rfl, -⟩ := b01_cases b
      simp only [am_wp, am_stp, am_en, am_as, am_pad, am_nth, am_set, am_st1, am_st2, am_kl, am_kill, am_mem, am_fv, am_tk, am_wt, am_bk, Option.toList, List.cons_append, List.nil_append, Nat.reduceAdd, Nat.reduceEqDiff, Nat.reduceLeDiff, reduceIte, Nat.reduceLT, or_self, true_or, or_true, if_true, if_false, and_self, and_true, true_and, not_false_eq_true, not_true_eq_false]
      refine am_go [57, 59] 1 ?_
      simp only [am_wp, am_stp, am_en, am_as, am_pad, am_nth, am_set, am_st1, am_st2, am_kl, am_kill, am_mem, am_fv, am_tk, am_wt, am_bk, Option.toList, List.cons_append, List.nil_append, Nat.reduceAdd, Nat.reduceEqDiff, Nat.reduceLeDiff, reduceIte, Nat.reduceLT, or_self, true_or, or_true, if_true, if_false, and_self, and_true, true_and, not_false_eq_true, not_true_eq_false, fd_SR_readRuns_54]
      refine wif ?_ ?_
      · refine am_go [] 2 ?_
        simp only [am_wp, am_stp, am_en, am_as, am_pad, am_nth, am_set, am_st1, am_st2, am_kl, am_kill, am_mem, am_fv, am_tk, am_wt, am_bk, Option.toList, List.cons_append, List.nil_append, Nat.reduceAdd, Nat.reduceEqDiff, Nat.reduceLeDiff, reduceIte, Nat.reduceLT, or_self, true_or, or_true, if_true, if_false, and_self, and_true, true_and, not_false_eq_true, not_true_eq_false, fd_SR_readRuns_57, fd_SR_readRuns_58, o0]
        exact ⟨Or.inl rfl, w1⟩
      · refine am_go [] 4 ?_
        simp only [am_wp, am_stp, am_en, am_as, am_pad, am_nth, am_set, am_st1, am_st2, am_kl, am_kill, am_mem, am_fv, am_tk, am_wt, am_bk, Option.toList, List.cons_append, List.nil_append, Nat.reduceAdd, Nat.reduceEqDiff, Nat.reduceLeDiff, reduceIte, Nat.reduceLT, or_self, true_or, or_true, if_true, if_false, and_self, and_true, true_and, not_false_eq_true, not_true_eq_false, fd_SR_readRuns_59, fd_SR_readRuns_60, fd_SR_readRuns_63, fd_SR_readRuns_65, w1.1.kd 2 1 (by decide), w1.1.R 2 1 21 (by decide), w1.1.kd 21 9 (by decide)]
        refine am_call (ww_after w1.1) (fun o g2 q => ?_)
        obtain ⟨⟨x, rfl⟩, rfl⟩ := q
        simp only [am_wp, am_stp, am_en, am_as, am_pad, am_nth, am_set, am_st1, am_st2, am_kl, am_kill, am_mem, am_fv, am_tk, am_wt, am_bk, Option.toList, List.cons_append, List.nil_append, Nat.reduceAdd, Nat.reduceEqDiff, Nat.reduceLeDiff, reduceIte, Nat.reduceLT, or_self, true_or, or_true, if_true, if_false, and_self, and_true, true_and, not_false_eq_true, not_true_eq_false]
        refine am_go [35] 3 ?_
        simp only [am_wp, am_stp, am_en, am_as, am_pad, am_nth, am_set, am_st1, am_st2, am_kl, am_kill, am_mem, am_fv, am_tk, am_wt, am_bk, Option.toList, List.cons_append, List.nil_append, Nat.reduceAdd, Nat.reduceEqDiff, Nat.reduceLeDiff, reduceIte, Nat.reduceLT, or_self, true_or, or_true, if_true, if_false, and_self, and_true, true_and, not_false_eq_true, not_true_eq_false, fd_SR_readRuns_68, fd_SR_readRuns_70, fd_SR_readRuns_73, nI_1]
        exact ww_readRuns_in hx m (c + 1) x g2 (by omega) r1 w1
theorem ww_readRuns_loop {d P t : Nat} {f e : Int32} {h : am_H} (ht : wl t) : ∀ (m i : Nat) (a p c : Value) (g : am_H), m + i = 9 → (∀ z, a ≠ .long z) → (∀ z, p ≠ .long z) → wp P 0 h g →
    am_Ex nm_pr (d + 3) mt_SR_readRuns (3, [.ref 2, .ref t, .int f, .int e, .int (nI i), a, p, c], [], g) (fun o h' => b01 o ∧ wp P 0 h h')
  | m, i, a, p, c, g, hm, ha, hp, w => by
    have o1 : (1 : Int32) = 0 ∨ (1 : Int32) = 1 := by decide
    obtain ⟨k1, k2, k3, k4, k5, k6, n, hn, k7⟩ := w.1.lst ht
    have fin : am_Ex nm_pr (d + 3) mt_SR_readRuns (82, [.ref 2, .ref t, .int f, .int e, .int (nI i), a, p, c], [], g) (fun o h' => b01 o ∧ wp P 0 h h') := by
      refine am_go [] 2 ?_
      simp only [am_wp, am_stp, am_en, am_as, am_pad, am_nth, am_set, am_st1, am_st2, am_kl, am_kill, am_mem, am_fv, am_tk, am_wt, am_bk, Option.toList, List.cons_append, List.nil_append, Nat.reduceAdd, Nat.reduceEqDiff, Nat.reduceLeDiff, reduceIte, Nat.reduceLT, or_self, true_or, or_true, if_true, if_false, and_self, and_true, true_and, not_false_eq_true, not_true_eq_false, fd_SR_readRuns_82, fd_SR_readRuns_83, o1]
      exact ⟨Or.inr rfl, w⟩
    refine am_go [9, 82] 3 ?_
    simp only [am_wp, am_stp, am_en, am_as, am_pad, am_nth, am_set, am_st1, am_st2, am_kl, am_kill, am_mem, am_fv, am_tk, am_wt, am_bk, Option.toList, List.cons_append, List.nil_append, Nat.reduceAdd, Nat.reduceEqDiff, Nat.reduceLeDiff, reduceIte, Nat.reduceLT, or_self, true_or, or_true, if_true, if_false, and_self, and_true, true_and, not_false_eq_true, not_true_eq_false, fd_SR_readRuns_3, fd_SR_readRuns_5, fd_SR_readRuns_6]
    refine wif ?_ fin
    cases m with
    | zero =>
      have e9 : i = 9 := by omega
      subst e9
      have l1 : ¬ nI 9 < 9 := by decide
      refine am_go [16, 82] 3 ?_
      simp only [am_wp, am_stp, am_en, am_as, am_pad, am_nth, am_set, am_st1, am_st2, am_kl, am_kill, am_mem, am_fv, am_tk, am_wt, am_bk, Option.toList, List.cons_append, List.nil_append, Nat.reduceAdd, Nat.reduceEqDiff, Nat.reduceLeDiff, reduceIte, Nat.reduceLT, or_self, true_or, or_true, if_true, if_false, and_self, and_true, true_and, not_false_eq_true, not_true_eq_false, fd_SR_readRuns_9, fd_SR_readRuns_11, fd_SR_readRuns_13, l1]
      exact fin
    | succ m =>
      have l1 : nI i < 9 := nI_lt (b := 9) (by omega) (by decide)
      have n1 : (200 ≤ 200 ∧ 200 < 204) := by decide
      have i1 := am_inb (c := i) (N := 9) (by omega) (by omega)
      have q1 : (nI i).toNatClampNeg = i := nI_clamp (by omega)
      have r := w.1.ru (t + 1) i k5 (by omega)
      refine am_go [16, 82] 3 ?_
      simp only [am_wp, am_stp, am_en, am_as, am_pad, am_nth, am_set, am_st1, am_st2, am_kl, am_kill, am_mem, am_fv, am_tk, am_wt, am_bk, Option.toList, List.cons_append, List.nil_append, Nat.reduceAdd, Nat.reduceEqDiff, Nat.reduceLeDiff, reduceIte, Nat.reduceLT, or_self, true_or, or_true, if_true, if_false, and_self, and_true, true_and, not_false_eq_true, not_true_eq_false, fd_SR_readRuns_9, fd_SR_readRuns_11, fd_SR_readRuns_13, l1]
      refine am_go [25] 5 ?_
      simp only [am_wp, am_stp, am_en, am_as, am_pad, am_nth, am_set, am_st1, am_st2, am_kl, am_kill, am_mem, am_fv, am_tk, am_wt, am_bk, Option.toList, List.cons_append, List.nil_append, Nat.reduceAdd, Nat.reduceEqDiff, Nat.reduceLeDiff, reduceIte, Nat.reduceLT, or_self, true_or, or_true, if_true, if_false, and_self, and_true, true_and, not_false_eq_true, not_true_eq_false, fd_SR_readRuns_16, fd_SR_readRuns_17, fd_SR_readRuns_20, fd_SR_readRuns_22, fd_SR_readRuns_23, k1, k2, k3, k4, n1, i1, q1]
      refine am_go [35] 5 ?_
      simp only [am_wp, am_stp, am_en, am_as, am_pad, am_nth, am_set, am_st1, am_st2, am_kl, am_kill, am_mem, am_fv, am_tk, am_wt, am_bk, Option.toList, List.cons_append, List.nil_append, Nat.reduceAdd, Nat.reduceEqDiff, Nat.reduceLeDiff, reduceIte, Nat.reduceLT, or_self, true_or, or_true, if_true, if_false, and_self, and_true, true_and, not_false_eq_true, not_true_eq_false, fd_SR_readRuns_25, fd_SR_readRuns_27, fd_SR_readRuns_30, fd_SR_readRuns_32, fd_SR_readRuns_33, r.1]
      refine ww_readRuns_in (fun p' c' g' w' => ?_) 2147483647 0 _ g (by omega) r w
      refine am_go [3] 2 ?_
      simp only [am_wp, am_stp, am_en, am_as, am_pad, am_nth, am_set, am_st1, am_st2, am_kl, am_kill, am_mem, am_fv, am_tk, am_wt, am_bk, Option.toList, List.cons_append, List.nil_append, Nat.reduceAdd, Nat.reduceEqDiff, Nat.reduceLeDiff, reduceIte, Nat.reduceLT, or_self, true_or, or_true, if_true, if_false, and_self, and_true, true_and, not_false_eq_true, not_true_eq_false, fd_SR_readRuns_76, fd_SR_readRuns_79, nI_1]
      exact ww_readRuns_loop ht m (i + 1) _ _ _ g' (by omega) (fun z e => by cases e) (fun z e => by cases e) w'
theorem ww_readRuns {d P t f : Nat} {e : Int32} {h : am_H} (w : wk P h) (ht : wl t) (hf : f ≤ 9) : am_Rt nm_pr (d + 4) mi_SR_readRuns [.ref 2, .ref t, .int (nI f), .int e] h (fun o h' => b01 o ∧ wp P 0 h h') := by
  refine am_in' (d := d + 3) mt_SR_readRuns 8 rfl rfl rfl ?_
  refine am_go [3] 2 ?_
  simp only [am_wp, am_stp, am_en, am_as, am_pad, am_nth, am_set, am_st1, am_st2, am_kl, am_kill, am_mem, am_fv, am_tk, am_wt, am_bk, Option.toList, List.cons_append, List.nil_append, Nat.reduceAdd, Nat.reduceEqDiff, Nat.reduceLeDiff, reduceIte, Nat.reduceLT, or_self, true_or, or_true, if_true, if_false, and_self, and_true, true_and, not_false_eq_true, not_true_eq_false, fd_SR_readRuns_0, fd_SR_readRuns_1]
  exact ww_readRuns_loop ht (9 - f) f _ _ _ h (by omega) (fun z e => by cases e) (fun z e => by cases e) (wp.refl w)
