/-! THE TAILS OF THE CALLS (written by wip/tools/genops.py) -/
theorem tl_put {d : Nat} {k : Int32} {b : Int32} {xs : Nat → Int32} {h h2 : am_H} (G : lw_G 8 xs h) (hm : am_kd h2 72 = 12) (hk : am_I h2 72 0 = k) (ho : am_kd h2 108 = 101) (hol : am_ln h2 108 = 1) (hv : k = 0 → am_L h2 108 0 = b.toInt64) (h1 : am_kd h2 1 = 99) (h1l : am_ln h2 1 = 8) (hc : am_ce h2 ≤ am_ce h + 500000) (hs : am_sl h2 ≤ am_sl h + 6000000) :
    am_Ex nm_pr (d + 12) mt_La_law (247, [.ref 1, .ref 2, .ref 72, .ref 108, .int 1, .int k, .retAddr 0, .retAddr 0], [.int b], h2) lw_Q1 := by
  refine am_go [] 3 ?_
  simp only [am_wp, am_stp, am_en, am_as, am_pad, am_nth, am_set, am_st1, am_st2, am_kl, am_kill, am_mem, am_fv, am_tk, am_wt, am_bk, Option.toList, List.cons_append, List.nil_append, Nat.reduceAdd, Nat.reduceEqDiff, Nat.reduceLeDiff, reduceIte, Nat.reduceLT, or_self, true_or, or_true, if_true, if_false, and_self, and_true, true_and, not_false_eq_true, not_true_eq_false, fd_La_law_247, fd_La_law_249, fd_La_law_250, hm]
  refine am_call (Q := fun o h' => o = .inl (some (.int k)) ∧ h' = h2) ?_ (fun o h3 q => ?_)
  · refine am_in' (d := d + 11) mt_Mo_thrown 1 rfl rfl rfl ?_
    refine am_go [] 10 ?_
    simp only [am_wp, am_stp, am_en, am_as, am_pad, am_nth, am_set, am_st1, am_st2, am_kl, am_kill, am_mem, am_fv, am_tk, am_wt, am_bk, Option.toList, List.cons_append, List.nil_append, Nat.reduceAdd, Nat.reduceEqDiff, Nat.reduceLeDiff, reduceIte, Nat.reduceLT, or_self, true_or, or_true, if_true, if_false, and_self, and_true, true_and, not_false_eq_true, not_true_eq_false, fd_Mo_thrown_0, fd_Mo_thrown_1, fd_Mo_thrown_4, hm, hk]
  · obtain ⟨rfl, rfl⟩ := q
    simp only [am_wp, am_stp, am_en, am_as, am_pad, am_nth, am_set, am_st1, am_st2, am_kl, am_kill, am_mem, am_fv, am_tk, am_wt, am_bk, Option.toList, List.cons_append, List.nil_append, Nat.reduceAdd, Nat.reduceEqDiff, Nat.reduceLeDiff, reduceIte, Nat.reduceLT, or_self, true_or, or_true, if_true, if_false, and_self, and_true, true_and, not_false_eq_true, not_true_eq_false]
    refine am_go [258, 260] 2 ?_
    simp only [am_wp, am_stp, am_en, am_as, am_pad, am_nth, am_set, am_st1, am_st2, am_kl, am_kill, am_mem, am_fv, am_tk, am_wt, am_bk, Option.toList, List.cons_append, List.nil_append, Nat.reduceAdd, Nat.reduceEqDiff, Nat.reduceLeDiff, reduceIte, Nat.reduceLT, or_self, true_or, or_true, if_true, if_false, and_self, and_true, true_and, not_false_eq_true, not_true_eq_false, fd_La_law_253, fd_La_law_255]
    by_cases e : k = 0
    · subst e
      have i0 : ¬ ((0 : Int32) < 0 ∨ 1 ≤ (0 : Int32).toNatClampNeg) := by decide
      have c0 : (0 : Int32).toNatClampNeg = 0 := by decide
      have hv0 := hv rfl
      refine am_go [275, 277] 9 ?_
      have nl : ∀ z : Int64, ¬ z < z := fun z hz => by rw [Int64.lt_iff_toInt_lt] at hz; omega
      simp only [am_wp, am_stp, am_en, am_as, am_pad, am_nth, am_set, am_st1, am_st2, am_kl, am_kill, am_mem, am_fv, am_tk, am_wt, am_bk, Option.toList, List.cons_append, List.nil_append, Nat.reduceAdd, Nat.reduceEqDiff, Nat.reduceLeDiff, reduceIte, Nat.reduceLT, or_self, true_or, or_true, if_true, if_false, and_self, and_true, true_and, not_false_eq_true, not_true_eq_false, fd_La_law_260, fd_La_law_262, fd_La_law_265, fd_La_law_266, fd_La_law_267, fd_La_law_268, fd_La_law_270, fd_La_law_271, fd_La_law_272, ho, hol, i0, c0, hv0, nl]
      refine am_go [1634] 2 ?_
      simp only [am_wp, am_stp, am_en, am_as, am_pad, am_nth, am_set, am_st1, am_st2, am_kl, am_kill, am_mem, am_fv, am_tk, am_wt, am_bk, Option.toList, List.cons_append, List.nil_append, Nat.reduceAdd, Nat.reduceEqDiff, Nat.reduceLeDiff, reduceIte, Nat.reduceLT, or_self, true_or, or_true, if_true, if_false, and_self, and_true, true_and, not_false_eq_true, not_true_eq_false, fd_La_law_277]
      exact lw_fin G h1 h1l hc hs
    · refine am_go [265, 277] 2 ?_
      simp only [am_wp, am_stp, am_en, am_as, am_pad, am_nth, am_set, am_st1, am_st2, am_kl, am_kill, am_mem, am_fv, am_tk, am_wt, am_bk, Option.toList, List.cons_append, List.nil_append, Nat.reduceAdd, Nat.reduceEqDiff, Nat.reduceLeDiff, reduceIte, Nat.reduceLT, or_self, true_or, or_true, if_true, if_false, and_self, and_true, true_and, not_false_eq_true, not_true_eq_false, fd_La_law_260, fd_La_law_262, e]
      refine am_go [1634] 2 ?_
      simp only [am_wp, am_stp, am_en, am_as, am_pad, am_nth, am_set, am_st1, am_st2, am_kl, am_kill, am_mem, am_fv, am_tk, am_wt, am_bk, Option.toList, List.cons_append, List.nil_append, Nat.reduceAdd, Nat.reduceEqDiff, Nat.reduceLeDiff, reduceIte, Nat.reduceLT, or_self, true_or, or_true, if_true, if_false, and_self, and_true, true_and, not_false_eq_true, not_true_eq_false, fd_La_law_277]
      exact lw_fin G h1 h1l hc hs
theorem tl_remove {d : Nat} {k : Int32} {b : Int32} {xs : Nat → Int32} {h h2 : am_H} (G : lw_G 8 xs h) (hm : am_kd h2 72 = 12) (hk : am_I h2 72 0 = k) (ho : am_kd h2 108 = 101) (hol : am_ln h2 108 = 1) (hv : k = 0 → am_L h2 108 0 = b.toInt64) (h1 : am_kd h2 1 = 99) (h1l : am_ln h2 1 = 8) (hc : am_ce h2 ≤ am_ce h + 500000) (hs : am_sl h2 ≤ am_sl h + 6000000) :
    am_Ex nm_pr (d + 12) mt_La_law (335, [.ref 1, .ref 2, .ref 72, .ref 108, .int 1, .int k, .retAddr 0, .retAddr 0], [.int b], h2) lw_Q1 := by
  refine am_go [] 3 ?_
  simp only [am_wp, am_stp, am_en, am_as, am_pad, am_nth, am_set, am_st1, am_st2, am_kl, am_kill, am_mem, am_fv, am_tk, am_wt, am_bk, Option.toList, List.cons_append, List.nil_append, Nat.reduceAdd, Nat.reduceEqDiff, Nat.reduceLeDiff, reduceIte, Nat.reduceLT, or_self, true_or, or_true, if_true, if_false, and_self, and_true, true_and, not_false_eq_true, not_true_eq_false, fd_La_law_335, fd_La_law_337, fd_La_law_338, hm]
  refine am_call (Q := fun o h' => o = .inl (some (.int k)) ∧ h' = h2) ?_ (fun o h3 q => ?_)
  · refine am_in' (d := d + 11) mt_Mo_thrown 1 rfl rfl rfl ?_
    refine am_go [] 10 ?_
    simp only [am_wp, am_stp, am_en, am_as, am_pad, am_nth, am_set, am_st1, am_st2, am_kl, am_kill, am_mem, am_fv, am_tk, am_wt, am_bk, Option.toList, List.cons_append, List.nil_append, Nat.reduceAdd, Nat.reduceEqDiff, Nat.reduceLeDiff, reduceIte, Nat.reduceLT, or_self, true_or, or_true, if_true, if_false, and_self, and_true, true_and, not_false_eq_true, not_true_eq_false, fd_Mo_thrown_0, fd_Mo_thrown_1, fd_Mo_thrown_4, hm, hk]
  · obtain ⟨rfl, rfl⟩ := q
    simp only [am_wp, am_stp, am_en, am_as, am_pad, am_nth, am_set, am_st1, am_st2, am_kl, am_kill, am_mem, am_fv, am_tk, am_wt, am_bk, Option.toList, List.cons_append, List.nil_append, Nat.reduceAdd, Nat.reduceEqDiff, Nat.reduceLeDiff, reduceIte, Nat.reduceLT, or_self, true_or, or_true, if_true, if_false, and_self, and_true, true_and, not_false_eq_true, not_true_eq_false]
    refine am_go [346, 348] 2 ?_
    simp only [am_wp, am_stp, am_en, am_as, am_pad, am_nth, am_set, am_st1, am_st2, am_kl, am_kill, am_mem, am_fv, am_tk, am_wt, am_bk, Option.toList, List.cons_append, List.nil_append, Nat.reduceAdd, Nat.reduceEqDiff, Nat.reduceLeDiff, reduceIte, Nat.reduceLT, or_self, true_or, or_true, if_true, if_false, and_self, and_true, true_and, not_false_eq_true, not_true_eq_false, fd_La_law_341, fd_La_law_343]
    by_cases e : k = 0
    · subst e
      have i0 : ¬ ((0 : Int32) < 0 ∨ 1 ≤ (0 : Int32).toNatClampNeg) := by decide
      have c0 : (0 : Int32).toNatClampNeg = 0 := by decide
      have hv0 := hv rfl
      refine am_go [363, 365] 9 ?_
      have nl : ∀ z : Int64, ¬ z < z := fun z hz => by rw [Int64.lt_iff_toInt_lt] at hz; omega
      simp only [am_wp, am_stp, am_en, am_as, am_pad, am_nth, am_set, am_st1, am_st2, am_kl, am_kill, am_mem, am_fv, am_tk, am_wt, am_bk, Option.toList, List.cons_append, List.nil_append, Nat.reduceAdd, Nat.reduceEqDiff, Nat.reduceLeDiff, reduceIte, Nat.reduceLT, or_self, true_or, or_true, if_true, if_false, and_self, and_true, true_and, not_false_eq_true, not_true_eq_false, fd_La_law_348, fd_La_law_350, fd_La_law_353, fd_La_law_354, fd_La_law_355, fd_La_law_356, fd_La_law_358, fd_La_law_359, fd_La_law_360, ho, hol, i0, c0, hv0, nl]
      refine am_go [1634] 2 ?_
      simp only [am_wp, am_stp, am_en, am_as, am_pad, am_nth, am_set, am_st1, am_st2, am_kl, am_kill, am_mem, am_fv, am_tk, am_wt, am_bk, Option.toList, List.cons_append, List.nil_append, Nat.reduceAdd, Nat.reduceEqDiff, Nat.reduceLeDiff, reduceIte, Nat.reduceLT, or_self, true_or, or_true, if_true, if_false, and_self, and_true, true_and, not_false_eq_true, not_true_eq_false, fd_La_law_365]
      exact lw_fin G h1 h1l hc hs
    · refine am_go [353, 365] 2 ?_
      simp only [am_wp, am_stp, am_en, am_as, am_pad, am_nth, am_set, am_st1, am_st2, am_kl, am_kill, am_mem, am_fv, am_tk, am_wt, am_bk, Option.toList, List.cons_append, List.nil_append, Nat.reduceAdd, Nat.reduceEqDiff, Nat.reduceLeDiff, reduceIte, Nat.reduceLT, or_self, true_or, or_true, if_true, if_false, and_self, and_true, true_and, not_false_eq_true, not_true_eq_false, fd_La_law_348, fd_La_law_350, e]
      refine am_go [1634] 2 ?_
      simp only [am_wp, am_stp, am_en, am_as, am_pad, am_nth, am_set, am_st1, am_st2, am_kl, am_kill, am_mem, am_fv, am_tk, am_wt, am_bk, Option.toList, List.cons_append, List.nil_append, Nat.reduceAdd, Nat.reduceEqDiff, Nat.reduceLeDiff, reduceIte, Nat.reduceLT, or_self, true_or, or_true, if_true, if_false, and_self, and_true, true_and, not_false_eq_true, not_true_eq_false, fd_La_law_365]
      exact lw_fin G h1 h1l hc hs
theorem tl_fold {d : Nat} {k : Int32} {b : Int32} {xs : Nat → Int32} {h h2 : am_H} (G : lw_G 8 xs h) (hm : am_kd h2 72 = 12) (hk : am_I h2 72 0 = k) (ho : am_kd h2 108 = 101) (hol : am_ln h2 108 = 1) (hv : k = 0 → am_L h2 108 0 = b.toInt64) (h1 : am_kd h2 1 = 99) (h1l : am_ln h2 1 = 8) (hc : am_ce h2 ≤ am_ce h + 500000) (hs : am_sl h2 ≤ am_sl h + 6000000) :
    am_Ex nm_pr (d + 12) mt_La_law (467, [.ref 1, .ref 2, .ref 72, .ref 108, .int 1, .int k, .retAddr 0, .retAddr 0], [.int b], h2) lw_Q1 := by
  refine am_go [] 3 ?_
  simp only [am_wp, am_stp, am_en, am_as, am_pad, am_nth, am_set, am_st1, am_st2, am_kl, am_kill, am_mem, am_fv, am_tk, am_wt, am_bk, Option.toList, List.cons_append, List.nil_append, Nat.reduceAdd, Nat.reduceEqDiff, Nat.reduceLeDiff, reduceIte, Nat.reduceLT, or_self, true_or, or_true, if_true, if_false, and_self, and_true, true_and, not_false_eq_true, not_true_eq_false, fd_La_law_467, fd_La_law_469, fd_La_law_470, hm]
  refine am_call (Q := fun o h' => o = .inl (some (.int k)) ∧ h' = h2) ?_ (fun o h3 q => ?_)
  · refine am_in' (d := d + 11) mt_Mo_thrown 1 rfl rfl rfl ?_
    refine am_go [] 10 ?_
    simp only [am_wp, am_stp, am_en, am_as, am_pad, am_nth, am_set, am_st1, am_st2, am_kl, am_kill, am_mem, am_fv, am_tk, am_wt, am_bk, Option.toList, List.cons_append, List.nil_append, Nat.reduceAdd, Nat.reduceEqDiff, Nat.reduceLeDiff, reduceIte, Nat.reduceLT, or_self, true_or, or_true, if_true, if_false, and_self, and_true, true_and, not_false_eq_true, not_true_eq_false, fd_Mo_thrown_0, fd_Mo_thrown_1, fd_Mo_thrown_4, hm, hk]
  · obtain ⟨rfl, rfl⟩ := q
    simp only [am_wp, am_stp, am_en, am_as, am_pad, am_nth, am_set, am_st1, am_st2, am_kl, am_kill, am_mem, am_fv, am_tk, am_wt, am_bk, Option.toList, List.cons_append, List.nil_append, Nat.reduceAdd, Nat.reduceEqDiff, Nat.reduceLeDiff, reduceIte, Nat.reduceLT, or_self, true_or, or_true, if_true, if_false, and_self, and_true, true_and, not_false_eq_true, not_true_eq_false]
    refine am_go [478, 480] 2 ?_
    simp only [am_wp, am_stp, am_en, am_as, am_pad, am_nth, am_set, am_st1, am_st2, am_kl, am_kill, am_mem, am_fv, am_tk, am_wt, am_bk, Option.toList, List.cons_append, List.nil_append, Nat.reduceAdd, Nat.reduceEqDiff, Nat.reduceLeDiff, reduceIte, Nat.reduceLT, or_self, true_or, or_true, if_true, if_false, and_self, and_true, true_and, not_false_eq_true, not_true_eq_false, fd_La_law_473, fd_La_law_475]
    by_cases e : k = 0
    · subst e
      have i0 : ¬ ((0 : Int32) < 0 ∨ 1 ≤ (0 : Int32).toNatClampNeg) := by decide
      have c0 : (0 : Int32).toNatClampNeg = 0 := by decide
      have hv0 := hv rfl
      refine am_go [495, 497] 9 ?_
      have nl : ∀ z : Int64, ¬ z < z := fun z hz => by rw [Int64.lt_iff_toInt_lt] at hz; omega
      simp only [am_wp, am_stp, am_en, am_as, am_pad, am_nth, am_set, am_st1, am_st2, am_kl, am_kill, am_mem, am_fv, am_tk, am_wt, am_bk, Option.toList, List.cons_append, List.nil_append, Nat.reduceAdd, Nat.reduceEqDiff, Nat.reduceLeDiff, reduceIte, Nat.reduceLT, or_self, true_or, or_true, if_true, if_false, and_self, and_true, true_and, not_false_eq_true, not_true_eq_false, fd_La_law_480, fd_La_law_482, fd_La_law_485, fd_La_law_486, fd_La_law_487, fd_La_law_488, fd_La_law_490, fd_La_law_491, fd_La_law_492, ho, hol, i0, c0, hv0, nl]
      refine am_go [1634] 2 ?_
      simp only [am_wp, am_stp, am_en, am_as, am_pad, am_nth, am_set, am_st1, am_st2, am_kl, am_kill, am_mem, am_fv, am_tk, am_wt, am_bk, Option.toList, List.cons_append, List.nil_append, Nat.reduceAdd, Nat.reduceEqDiff, Nat.reduceLeDiff, reduceIte, Nat.reduceLT, or_self, true_or, or_true, if_true, if_false, and_self, and_true, true_and, not_false_eq_true, not_true_eq_false, fd_La_law_497]
      exact lw_fin G h1 h1l hc hs
    · refine am_go [485, 497] 2 ?_
      simp only [am_wp, am_stp, am_en, am_as, am_pad, am_nth, am_set, am_st1, am_st2, am_kl, am_kill, am_mem, am_fv, am_tk, am_wt, am_bk, Option.toList, List.cons_append, List.nil_append, Nat.reduceAdd, Nat.reduceEqDiff, Nat.reduceLeDiff, reduceIte, Nat.reduceLT, or_self, true_or, or_true, if_true, if_false, and_self, and_true, true_and, not_false_eq_true, not_true_eq_false, fd_La_law_480, fd_La_law_482, e]
      refine am_go [1634] 2 ?_
      simp only [am_wp, am_stp, am_en, am_as, am_pad, am_nth, am_set, am_st1, am_st2, am_kl, am_kill, am_mem, am_fv, am_tk, am_wt, am_bk, Option.toList, List.cons_append, List.nil_append, Nat.reduceAdd, Nat.reduceEqDiff, Nat.reduceLeDiff, reduceIte, Nat.reduceLT, or_self, true_or, or_true, if_true, if_false, and_self, and_true, true_and, not_false_eq_true, not_true_eq_false, fd_La_law_497]
      exact lw_fin G h1 h1l hc hs
theorem tl_many {d : Nat} {k : Int32} {b : Int32} {xs : Nat → Int32} {h h2 : am_H} (G : lw_G 8 xs h) (hm : am_kd h2 72 = 12) (hk : am_I h2 72 0 = k) (ho : am_kd h2 108 = 101) (hol : am_ln h2 108 = 1) (hv : k = 0 → am_L h2 108 0 = b.toInt64) (h1 : am_kd h2 1 = 99) (h1l : am_ln h2 1 = 8) (hc : am_ce h2 ≤ am_ce h + 500000) (hs : am_sl h2 ≤ am_sl h + 6000000) :
    am_Ex nm_pr (d + 12) mt_La_law (625, [.ref 1, .ref 2, .ref 72, .ref 108, .int 1, .int k, .retAddr 0, .retAddr 0], [.int b], h2) lw_Q1 := by
  refine am_go [] 3 ?_
  simp only [am_wp, am_stp, am_en, am_as, am_pad, am_nth, am_set, am_st1, am_st2, am_kl, am_kill, am_mem, am_fv, am_tk, am_wt, am_bk, Option.toList, List.cons_append, List.nil_append, Nat.reduceAdd, Nat.reduceEqDiff, Nat.reduceLeDiff, reduceIte, Nat.reduceLT, or_self, true_or, or_true, if_true, if_false, and_self, and_true, true_and, not_false_eq_true, not_true_eq_false, fd_La_law_625, fd_La_law_627, fd_La_law_628, hm]
  refine am_call (Q := fun o h' => o = .inl (some (.int k)) ∧ h' = h2) ?_ (fun o h3 q => ?_)
  · refine am_in' (d := d + 11) mt_Mo_thrown 1 rfl rfl rfl ?_
    refine am_go [] 10 ?_
    simp only [am_wp, am_stp, am_en, am_as, am_pad, am_nth, am_set, am_st1, am_st2, am_kl, am_kill, am_mem, am_fv, am_tk, am_wt, am_bk, Option.toList, List.cons_append, List.nil_append, Nat.reduceAdd, Nat.reduceEqDiff, Nat.reduceLeDiff, reduceIte, Nat.reduceLT, or_self, true_or, or_true, if_true, if_false, and_self, and_true, true_and, not_false_eq_true, not_true_eq_false, fd_Mo_thrown_0, fd_Mo_thrown_1, fd_Mo_thrown_4, hm, hk]
  · obtain ⟨rfl, rfl⟩ := q
    simp only [am_wp, am_stp, am_en, am_as, am_pad, am_nth, am_set, am_st1, am_st2, am_kl, am_kill, am_mem, am_fv, am_tk, am_wt, am_bk, Option.toList, List.cons_append, List.nil_append, Nat.reduceAdd, Nat.reduceEqDiff, Nat.reduceLeDiff, reduceIte, Nat.reduceLT, or_self, true_or, or_true, if_true, if_false, and_self, and_true, true_and, not_false_eq_true, not_true_eq_false]
    refine am_go [636, 638] 2 ?_
    simp only [am_wp, am_stp, am_en, am_as, am_pad, am_nth, am_set, am_st1, am_st2, am_kl, am_kill, am_mem, am_fv, am_tk, am_wt, am_bk, Option.toList, List.cons_append, List.nil_append, Nat.reduceAdd, Nat.reduceEqDiff, Nat.reduceLeDiff, reduceIte, Nat.reduceLT, or_self, true_or, or_true, if_true, if_false, and_self, and_true, true_and, not_false_eq_true, not_true_eq_false, fd_La_law_631, fd_La_law_633]
    by_cases e : k = 0
    · subst e
      have i0 : ¬ ((0 : Int32) < 0 ∨ 1 ≤ (0 : Int32).toNatClampNeg) := by decide
      have c0 : (0 : Int32).toNatClampNeg = 0 := by decide
      have hv0 := hv rfl
      refine am_go [653, 655] 9 ?_
      have nl : ∀ z : Int64, ¬ z < z := fun z hz => by rw [Int64.lt_iff_toInt_lt] at hz; omega
      simp only [am_wp, am_stp, am_en, am_as, am_pad, am_nth, am_set, am_st1, am_st2, am_kl, am_kill, am_mem, am_fv, am_tk, am_wt, am_bk, Option.toList, List.cons_append, List.nil_append, Nat.reduceAdd, Nat.reduceEqDiff, Nat.reduceLeDiff, reduceIte, Nat.reduceLT, or_self, true_or, or_true, if_true, if_false, and_self, and_true, true_and, not_false_eq_true, not_true_eq_false, fd_La_law_638, fd_La_law_640, fd_La_law_643, fd_La_law_644, fd_La_law_645, fd_La_law_646, fd_La_law_648, fd_La_law_649, fd_La_law_650, ho, hol, i0, c0, hv0, nl]
      refine am_go [1634] 2 ?_
      simp only [am_wp, am_stp, am_en, am_as, am_pad, am_nth, am_set, am_st1, am_st2, am_kl, am_kill, am_mem, am_fv, am_tk, am_wt, am_bk, Option.toList, List.cons_append, List.nil_append, Nat.reduceAdd, Nat.reduceEqDiff, Nat.reduceLeDiff, reduceIte, Nat.reduceLT, or_self, true_or, or_true, if_true, if_false, and_self, and_true, true_and, not_false_eq_true, not_true_eq_false, fd_La_law_655]
      exact lw_fin G h1 h1l hc hs
    · refine am_go [643, 655] 2 ?_
      simp only [am_wp, am_stp, am_en, am_as, am_pad, am_nth, am_set, am_st1, am_st2, am_kl, am_kill, am_mem, am_fv, am_tk, am_wt, am_bk, Option.toList, List.cons_append, List.nil_append, Nat.reduceAdd, Nat.reduceEqDiff, Nat.reduceLeDiff, reduceIte, Nat.reduceLT, or_self, true_or, or_true, if_true, if_false, and_self, and_true, true_and, not_false_eq_true, not_true_eq_false, fd_La_law_638, fd_La_law_640, e]
      refine am_go [1634] 2 ?_
      simp only [am_wp, am_stp, am_en, am_as, am_pad, am_nth, am_set, am_st1, am_st2, am_kl, am_kill, am_mem, am_fv, am_tk, am_wt, am_bk, Option.toList, List.cons_append, List.nil_append, Nat.reduceAdd, Nat.reduceEqDiff, Nat.reduceLeDiff, reduceIte, Nat.reduceLT, or_self, true_or, or_true, if_true, if_false, and_self, and_true, true_and, not_false_eq_true, not_true_eq_false, fd_La_law_655]
      exact lw_fin G h1 h1l hc hs
theorem tl_flush {d : Nat} {k : Int32} {b : Int32} {xs : Nat → Int32} {h h2 : am_H} (G : lw_G 8 xs h) (hm : am_kd h2 72 = 12) (hk : am_I h2 72 0 = k) (ho : am_kd h2 108 = 101) (hol : am_ln h2 108 = 1) (hv : k = 0 → am_L h2 108 0 = b.toInt64) (h1 : am_kd h2 1 = 99) (h1l : am_ln h2 1 = 8) (hc : am_ce h2 ≤ am_ce h + 500000) (hs : am_sl h2 ≤ am_sl h + 6000000) :
    am_Ex nm_pr (d + 12) mt_La_law (669, [.ref 1, .ref 2, .ref 72, .ref 108, .int 1, .int k, .retAddr 0, .retAddr 0], [.int b], h2) lw_Q1 := by
  refine am_go [] 3 ?_
  simp only [am_wp, am_stp, am_en, am_as, am_pad, am_nth, am_set, am_st1, am_st2, am_kl, am_kill, am_mem, am_fv, am_tk, am_wt, am_bk, Option.toList, List.cons_append, List.nil_append, Nat.reduceAdd, Nat.reduceEqDiff, Nat.reduceLeDiff, reduceIte, Nat.reduceLT, or_self, true_or, or_true, if_true, if_false, and_self, and_true, true_and, not_false_eq_true, not_true_eq_false, fd_La_law_669, fd_La_law_671, fd_La_law_672, hm]
  refine am_call (Q := fun o h' => o = .inl (some (.int k)) ∧ h' = h2) ?_ (fun o h3 q => ?_)
  · refine am_in' (d := d + 11) mt_Mo_thrown 1 rfl rfl rfl ?_
    refine am_go [] 10 ?_
    simp only [am_wp, am_stp, am_en, am_as, am_pad, am_nth, am_set, am_st1, am_st2, am_kl, am_kill, am_mem, am_fv, am_tk, am_wt, am_bk, Option.toList, List.cons_append, List.nil_append, Nat.reduceAdd, Nat.reduceEqDiff, Nat.reduceLeDiff, reduceIte, Nat.reduceLT, or_self, true_or, or_true, if_true, if_false, and_self, and_true, true_and, not_false_eq_true, not_true_eq_false, fd_Mo_thrown_0, fd_Mo_thrown_1, fd_Mo_thrown_4, hm, hk]
  · obtain ⟨rfl, rfl⟩ := q
    simp only [am_wp, am_stp, am_en, am_as, am_pad, am_nth, am_set, am_st1, am_st2, am_kl, am_kill, am_mem, am_fv, am_tk, am_wt, am_bk, Option.toList, List.cons_append, List.nil_append, Nat.reduceAdd, Nat.reduceEqDiff, Nat.reduceLeDiff, reduceIte, Nat.reduceLT, or_self, true_or, or_true, if_true, if_false, and_self, and_true, true_and, not_false_eq_true, not_true_eq_false]
    refine am_go [680, 682] 2 ?_
    simp only [am_wp, am_stp, am_en, am_as, am_pad, am_nth, am_set, am_st1, am_st2, am_kl, am_kill, am_mem, am_fv, am_tk, am_wt, am_bk, Option.toList, List.cons_append, List.nil_append, Nat.reduceAdd, Nat.reduceEqDiff, Nat.reduceLeDiff, reduceIte, Nat.reduceLT, or_self, true_or, or_true, if_true, if_false, and_self, and_true, true_and, not_false_eq_true, not_true_eq_false, fd_La_law_675, fd_La_law_677]
    by_cases e : k = 0
    · subst e
      have i0 : ¬ ((0 : Int32) < 0 ∨ 1 ≤ (0 : Int32).toNatClampNeg) := by decide
      have c0 : (0 : Int32).toNatClampNeg = 0 := by decide
      have hv0 := hv rfl
      refine am_go [697, 699] 9 ?_
      have nl : ∀ z : Int64, ¬ z < z := fun z hz => by rw [Int64.lt_iff_toInt_lt] at hz; omega
      simp only [am_wp, am_stp, am_en, am_as, am_pad, am_nth, am_set, am_st1, am_st2, am_kl, am_kill, am_mem, am_fv, am_tk, am_wt, am_bk, Option.toList, List.cons_append, List.nil_append, Nat.reduceAdd, Nat.reduceEqDiff, Nat.reduceLeDiff, reduceIte, Nat.reduceLT, or_self, true_or, or_true, if_true, if_false, and_self, and_true, true_and, not_false_eq_true, not_true_eq_false, fd_La_law_682, fd_La_law_684, fd_La_law_687, fd_La_law_688, fd_La_law_689, fd_La_law_690, fd_La_law_692, fd_La_law_693, fd_La_law_694, ho, hol, i0, c0, hv0, nl]
      refine am_go [1634] 2 ?_
      simp only [am_wp, am_stp, am_en, am_as, am_pad, am_nth, am_set, am_st1, am_st2, am_kl, am_kill, am_mem, am_fv, am_tk, am_wt, am_bk, Option.toList, List.cons_append, List.nil_append, Nat.reduceAdd, Nat.reduceEqDiff, Nat.reduceLeDiff, reduceIte, Nat.reduceLT, or_self, true_or, or_true, if_true, if_false, and_self, and_true, true_and, not_false_eq_true, not_true_eq_false, fd_La_law_699]
      exact lw_fin G h1 h1l hc hs
    · refine am_go [687, 699] 2 ?_
      simp only [am_wp, am_stp, am_en, am_as, am_pad, am_nth, am_set, am_st1, am_st2, am_kl, am_kill, am_mem, am_fv, am_tk, am_wt, am_bk, Option.toList, List.cons_append, List.nil_append, Nat.reduceAdd, Nat.reduceEqDiff, Nat.reduceLeDiff, reduceIte, Nat.reduceLT, or_self, true_or, or_true, if_true, if_false, and_self, and_true, true_and, not_false_eq_true, not_true_eq_false, fd_La_law_682, fd_La_law_684, e]
      refine am_go [1634] 2 ?_
      simp only [am_wp, am_stp, am_en, am_as, am_pad, am_nth, am_set, am_st1, am_st2, am_kl, am_kill, am_mem, am_fv, am_tk, am_wt, am_bk, Option.toList, List.cons_append, List.nil_append, Nat.reduceAdd, Nat.reduceEqDiff, Nat.reduceLeDiff, reduceIte, Nat.reduceLT, or_self, true_or, or_true, if_true, if_false, and_self, and_true, true_and, not_false_eq_true, not_true_eq_false, fd_La_law_699]
      exact lw_fin G h1 h1l hc hs
theorem tl_merge {d : Nat} {k : Int32} {b : Int32} {xs : Nat → Int32} {h h2 : am_H} (G : lw_G 8 xs h) (hm : am_kd h2 72 = 12) (hk : am_I h2 72 0 = k) (ho : am_kd h2 108 = 101) (hol : am_ln h2 108 = 1) (hv : k = 0 → am_L h2 108 0 = b.toInt64) (h1 : am_kd h2 1 = 99) (h1l : am_ln h2 1 = 8) (hc : am_ce h2 ≤ am_ce h + 500000) (hs : am_sl h2 ≤ am_sl h + 6000000) :
    am_Ex nm_pr (d + 12) mt_La_law (713, [.ref 1, .ref 2, .ref 72, .ref 108, .int 1, .int k, .retAddr 0, .retAddr 0], [.int b], h2) lw_Q1 := by
  refine am_go [] 3 ?_
  simp only [am_wp, am_stp, am_en, am_as, am_pad, am_nth, am_set, am_st1, am_st2, am_kl, am_kill, am_mem, am_fv, am_tk, am_wt, am_bk, Option.toList, List.cons_append, List.nil_append, Nat.reduceAdd, Nat.reduceEqDiff, Nat.reduceLeDiff, reduceIte, Nat.reduceLT, or_self, true_or, or_true, if_true, if_false, and_self, and_true, true_and, not_false_eq_true, not_true_eq_false, fd_La_law_713, fd_La_law_715, fd_La_law_716, hm]
  refine am_call (Q := fun o h' => o = .inl (some (.int k)) ∧ h' = h2) ?_ (fun o h3 q => ?_)
  · refine am_in' (d := d + 11) mt_Mo_thrown 1 rfl rfl rfl ?_
    refine am_go [] 10 ?_
    simp only [am_wp, am_stp, am_en, am_as, am_pad, am_nth, am_set, am_st1, am_st2, am_kl, am_kill, am_mem, am_fv, am_tk, am_wt, am_bk, Option.toList, List.cons_append, List.nil_append, Nat.reduceAdd, Nat.reduceEqDiff, Nat.reduceLeDiff, reduceIte, Nat.reduceLT, or_self, true_or, or_true, if_true, if_false, and_self, and_true, true_and, not_false_eq_true, not_true_eq_false, fd_Mo_thrown_0, fd_Mo_thrown_1, fd_Mo_thrown_4, hm, hk]
  · obtain ⟨rfl, rfl⟩ := q
    simp only [am_wp, am_stp, am_en, am_as, am_pad, am_nth, am_set, am_st1, am_st2, am_kl, am_kill, am_mem, am_fv, am_tk, am_wt, am_bk, Option.toList, List.cons_append, List.nil_append, Nat.reduceAdd, Nat.reduceEqDiff, Nat.reduceLeDiff, reduceIte, Nat.reduceLT, or_self, true_or, or_true, if_true, if_false, and_self, and_true, true_and, not_false_eq_true, not_true_eq_false]
    refine am_go [724, 726] 2 ?_
    simp only [am_wp, am_stp, am_en, am_as, am_pad, am_nth, am_set, am_st1, am_st2, am_kl, am_kill, am_mem, am_fv, am_tk, am_wt, am_bk, Option.toList, List.cons_append, List.nil_append, Nat.reduceAdd, Nat.reduceEqDiff, Nat.reduceLeDiff, reduceIte, Nat.reduceLT, or_self, true_or, or_true, if_true, if_false, and_self, and_true, true_and, not_false_eq_true, not_true_eq_false, fd_La_law_719, fd_La_law_721]
    by_cases e : k = 0
    · subst e
      have i0 : ¬ ((0 : Int32) < 0 ∨ 1 ≤ (0 : Int32).toNatClampNeg) := by decide
      have c0 : (0 : Int32).toNatClampNeg = 0 := by decide
      have hv0 := hv rfl
      refine am_go [741, 743] 9 ?_
      have nl : ∀ z : Int64, ¬ z < z := fun z hz => by rw [Int64.lt_iff_toInt_lt] at hz; omega
      simp only [am_wp, am_stp, am_en, am_as, am_pad, am_nth, am_set, am_st1, am_st2, am_kl, am_kill, am_mem, am_fv, am_tk, am_wt, am_bk, Option.toList, List.cons_append, List.nil_append, Nat.reduceAdd, Nat.reduceEqDiff, Nat.reduceLeDiff, reduceIte, Nat.reduceLT, or_self, true_or, or_true, if_true, if_false, and_self, and_true, true_and, not_false_eq_true, not_true_eq_false, fd_La_law_726, fd_La_law_728, fd_La_law_731, fd_La_law_732, fd_La_law_733, fd_La_law_734, fd_La_law_736, fd_La_law_737, fd_La_law_738, ho, hol, i0, c0, hv0, nl]
      refine am_go [1634] 2 ?_
      simp only [am_wp, am_stp, am_en, am_as, am_pad, am_nth, am_set, am_st1, am_st2, am_kl, am_kill, am_mem, am_fv, am_tk, am_wt, am_bk, Option.toList, List.cons_append, List.nil_append, Nat.reduceAdd, Nat.reduceEqDiff, Nat.reduceLeDiff, reduceIte, Nat.reduceLT, or_self, true_or, or_true, if_true, if_false, and_self, and_true, true_and, not_false_eq_true, not_true_eq_false, fd_La_law_743]
      exact lw_fin G h1 h1l hc hs
    · refine am_go [731, 743] 2 ?_
      simp only [am_wp, am_stp, am_en, am_as, am_pad, am_nth, am_set, am_st1, am_st2, am_kl, am_kill, am_mem, am_fv, am_tk, am_wt, am_bk, Option.toList, List.cons_append, List.nil_append, Nat.reduceAdd, Nat.reduceEqDiff, Nat.reduceLeDiff, reduceIte, Nat.reduceLT, or_self, true_or, or_true, if_true, if_false, and_self, and_true, true_and, not_false_eq_true, not_true_eq_false, fd_La_law_726, fd_La_law_728, e]
      refine am_go [1634] 2 ?_
      simp only [am_wp, am_stp, am_en, am_as, am_pad, am_nth, am_set, am_st1, am_st2, am_kl, am_kill, am_mem, am_fv, am_tk, am_wt, am_bk, Option.toList, List.cons_append, List.nil_append, Nat.reduceAdd, Nat.reduceEqDiff, Nat.reduceLeDiff, reduceIte, Nat.reduceLT, or_self, true_or, or_true, if_true, if_false, and_self, and_true, true_and, not_false_eq_true, not_true_eq_false, fd_La_law_743]
      exact lw_fin G h1 h1l hc hs
theorem tl_mark {d : Nat} {k : Int32} {b : Int32} {xs : Nat → Int32} {h h2 : am_H} (G : lw_G 8 xs h) (hm : am_kd h2 72 = 12) (hk : am_I h2 72 0 = k) (ho : am_kd h2 108 = 101) (hol : am_ln h2 108 = 1) (hv : k = 0 → am_L h2 108 0 = b.toInt64) (h1 : am_kd h2 1 = 99) (h1l : am_ln h2 1 = 8) (hc : am_ce h2 ≤ am_ce h + 500000) (hs : am_sl h2 ≤ am_sl h + 6000000) :
    am_Ex nm_pr (d + 12) mt_La_law (757, [.ref 1, .ref 2, .ref 72, .ref 108, .int 1, .int k, .retAddr 0, .retAddr 0], [.int b], h2) lw_Q1 := by
  refine am_go [] 3 ?_
  simp only [am_wp, am_stp, am_en, am_as, am_pad, am_nth, am_set, am_st1, am_st2, am_kl, am_kill, am_mem, am_fv, am_tk, am_wt, am_bk, Option.toList, List.cons_append, List.nil_append, Nat.reduceAdd, Nat.reduceEqDiff, Nat.reduceLeDiff, reduceIte, Nat.reduceLT, or_self, true_or, or_true, if_true, if_false, and_self, and_true, true_and, not_false_eq_true, not_true_eq_false, fd_La_law_757, fd_La_law_759, fd_La_law_760, hm]
  refine am_call (Q := fun o h' => o = .inl (some (.int k)) ∧ h' = h2) ?_ (fun o h3 q => ?_)
  · refine am_in' (d := d + 11) mt_Mo_thrown 1 rfl rfl rfl ?_
    refine am_go [] 10 ?_
    simp only [am_wp, am_stp, am_en, am_as, am_pad, am_nth, am_set, am_st1, am_st2, am_kl, am_kill, am_mem, am_fv, am_tk, am_wt, am_bk, Option.toList, List.cons_append, List.nil_append, Nat.reduceAdd, Nat.reduceEqDiff, Nat.reduceLeDiff, reduceIte, Nat.reduceLT, or_self, true_or, or_true, if_true, if_false, and_self, and_true, true_and, not_false_eq_true, not_true_eq_false, fd_Mo_thrown_0, fd_Mo_thrown_1, fd_Mo_thrown_4, hm, hk]
  · obtain ⟨rfl, rfl⟩ := q
    simp only [am_wp, am_stp, am_en, am_as, am_pad, am_nth, am_set, am_st1, am_st2, am_kl, am_kill, am_mem, am_fv, am_tk, am_wt, am_bk, Option.toList, List.cons_append, List.nil_append, Nat.reduceAdd, Nat.reduceEqDiff, Nat.reduceLeDiff, reduceIte, Nat.reduceLT, or_self, true_or, or_true, if_true, if_false, and_self, and_true, true_and, not_false_eq_true, not_true_eq_false]
    refine am_go [768, 770] 2 ?_
    simp only [am_wp, am_stp, am_en, am_as, am_pad, am_nth, am_set, am_st1, am_st2, am_kl, am_kill, am_mem, am_fv, am_tk, am_wt, am_bk, Option.toList, List.cons_append, List.nil_append, Nat.reduceAdd, Nat.reduceEqDiff, Nat.reduceLeDiff, reduceIte, Nat.reduceLT, or_self, true_or, or_true, if_true, if_false, and_self, and_true, true_and, not_false_eq_true, not_true_eq_false, fd_La_law_763, fd_La_law_765]
    by_cases e : k = 0
    · subst e
      have i0 : ¬ ((0 : Int32) < 0 ∨ 1 ≤ (0 : Int32).toNatClampNeg) := by decide
      have c0 : (0 : Int32).toNatClampNeg = 0 := by decide
      have hv0 := hv rfl
      refine am_go [785, 787] 9 ?_
      have nl : ∀ z : Int64, ¬ z < z := fun z hz => by rw [Int64.lt_iff_toInt_lt] at hz; omega
      simp only [am_wp, am_stp, am_en, am_as, am_pad, am_nth, am_set, am_st1, am_st2, am_kl, am_kill, am_mem, am_fv, am_tk, am_wt, am_bk, Option.toList, List.cons_append, List.nil_append, Nat.reduceAdd, Nat.reduceEqDiff, Nat.reduceLeDiff, reduceIte, Nat.reduceLT, or_self, true_or, or_true, if_true, if_false, and_self, and_true, true_and, not_false_eq_true, not_true_eq_false, fd_La_law_770, fd_La_law_772, fd_La_law_775, fd_La_law_776, fd_La_law_777, fd_La_law_778, fd_La_law_780, fd_La_law_781, fd_La_law_782, ho, hol, i0, c0, hv0, nl]
      refine am_go [1634] 2 ?_
      simp only [am_wp, am_stp, am_en, am_as, am_pad, am_nth, am_set, am_st1, am_st2, am_kl, am_kill, am_mem, am_fv, am_tk, am_wt, am_bk, Option.toList, List.cons_append, List.nil_append, Nat.reduceAdd, Nat.reduceEqDiff, Nat.reduceLeDiff, reduceIte, Nat.reduceLT, or_self, true_or, or_true, if_true, if_false, and_self, and_true, true_and, not_false_eq_true, not_true_eq_false, fd_La_law_787]
      exact lw_fin G h1 h1l hc hs
    · refine am_go [775, 787] 2 ?_
      simp only [am_wp, am_stp, am_en, am_as, am_pad, am_nth, am_set, am_st1, am_st2, am_kl, am_kill, am_mem, am_fv, am_tk, am_wt, am_bk, Option.toList, List.cons_append, List.nil_append, Nat.reduceAdd, Nat.reduceEqDiff, Nat.reduceLeDiff, reduceIte, Nat.reduceLT, or_self, true_or, or_true, if_true, if_false, and_self, and_true, true_and, not_false_eq_true, not_true_eq_false, fd_La_law_770, fd_La_law_772, e]
      refine am_go [1634] 2 ?_
      simp only [am_wp, am_stp, am_en, am_as, am_pad, am_nth, am_set, am_st1, am_st2, am_kl, am_kill, am_mem, am_fv, am_tk, am_wt, am_bk, Option.toList, List.cons_append, List.nil_append, Nat.reduceAdd, Nat.reduceEqDiff, Nat.reduceLeDiff, reduceIte, Nat.reduceLT, or_self, true_or, or_true, if_true, if_false, and_self, and_true, true_and, not_false_eq_true, not_true_eq_false, fd_La_law_787]
      exact lw_fin G h1 h1l hc hs
theorem tl_release {d : Nat} {k : Int32} {b : Int32} {xs : Nat → Int32} {h h2 : am_H} (G : lw_G 8 xs h) (hm : am_kd h2 72 = 12) (hk : am_I h2 72 0 = k) (ho : am_kd h2 108 = 101) (hol : am_ln h2 108 = 1) (hv : k = 0 → am_L h2 108 0 = b.toInt64) (h1 : am_kd h2 1 = 99) (h1l : am_ln h2 1 = 8) (hc : am_ce h2 ≤ am_ce h + 500000) (hs : am_sl h2 ≤ am_sl h + 6000000) :
    am_Ex nm_pr (d + 12) mt_La_law (813, [.ref 1, .ref 2, .ref 72, .ref 108, .int 1, .int k, .retAddr 0, .retAddr 0], [.int b], h2) lw_Q1 := by
  refine am_go [] 3 ?_
  simp only [am_wp, am_stp, am_en, am_as, am_pad, am_nth, am_set, am_st1, am_st2, am_kl, am_kill, am_mem, am_fv, am_tk, am_wt, am_bk, Option.toList, List.cons_append, List.nil_append, Nat.reduceAdd, Nat.reduceEqDiff, Nat.reduceLeDiff, reduceIte, Nat.reduceLT, or_self, true_or, or_true, if_true, if_false, and_self, and_true, true_and, not_false_eq_true, not_true_eq_false, fd_La_law_813, fd_La_law_815, fd_La_law_816, hm]
  refine am_call (Q := fun o h' => o = .inl (some (.int k)) ∧ h' = h2) ?_ (fun o h3 q => ?_)
  · refine am_in' (d := d + 11) mt_Mo_thrown 1 rfl rfl rfl ?_
    refine am_go [] 10 ?_
    simp only [am_wp, am_stp, am_en, am_as, am_pad, am_nth, am_set, am_st1, am_st2, am_kl, am_kill, am_mem, am_fv, am_tk, am_wt, am_bk, Option.toList, List.cons_append, List.nil_append, Nat.reduceAdd, Nat.reduceEqDiff, Nat.reduceLeDiff, reduceIte, Nat.reduceLT, or_self, true_or, or_true, if_true, if_false, and_self, and_true, true_and, not_false_eq_true, not_true_eq_false, fd_Mo_thrown_0, fd_Mo_thrown_1, fd_Mo_thrown_4, hm, hk]
  · obtain ⟨rfl, rfl⟩ := q
    simp only [am_wp, am_stp, am_en, am_as, am_pad, am_nth, am_set, am_st1, am_st2, am_kl, am_kill, am_mem, am_fv, am_tk, am_wt, am_bk, Option.toList, List.cons_append, List.nil_append, Nat.reduceAdd, Nat.reduceEqDiff, Nat.reduceLeDiff, reduceIte, Nat.reduceLT, or_self, true_or, or_true, if_true, if_false, and_self, and_true, true_and, not_false_eq_true, not_true_eq_false]
    refine am_go [824, 826] 2 ?_
    simp only [am_wp, am_stp, am_en, am_as, am_pad, am_nth, am_set, am_st1, am_st2, am_kl, am_kill, am_mem, am_fv, am_tk, am_wt, am_bk, Option.toList, List.cons_append, List.nil_append, Nat.reduceAdd, Nat.reduceEqDiff, Nat.reduceLeDiff, reduceIte, Nat.reduceLT, or_self, true_or, or_true, if_true, if_false, and_self, and_true, true_and, not_false_eq_true, not_true_eq_false, fd_La_law_819, fd_La_law_821]
    by_cases e : k = 0
    · subst e
      have i0 : ¬ ((0 : Int32) < 0 ∨ 1 ≤ (0 : Int32).toNatClampNeg) := by decide
      have c0 : (0 : Int32).toNatClampNeg = 0 := by decide
      have hv0 := hv rfl
      refine am_go [841, 843] 9 ?_
      have nl : ∀ z : Int64, ¬ z < z := fun z hz => by rw [Int64.lt_iff_toInt_lt] at hz; omega
      simp only [am_wp, am_stp, am_en, am_as, am_pad, am_nth, am_set, am_st1, am_st2, am_kl, am_kill, am_mem, am_fv, am_tk, am_wt, am_bk, Option.toList, List.cons_append, List.nil_append, Nat.reduceAdd, Nat.reduceEqDiff, Nat.reduceLeDiff, reduceIte, Nat.reduceLT, or_self, true_or, or_true, if_true, if_false, and_self, and_true, true_and, not_false_eq_true, not_true_eq_false, fd_La_law_826, fd_La_law_828, fd_La_law_831, fd_La_law_832, fd_La_law_833, fd_La_law_834, fd_La_law_836, fd_La_law_837, fd_La_law_838, ho, hol, i0, c0, hv0, nl]
      refine am_go [1634] 2 ?_
      simp only [am_wp, am_stp, am_en, am_as, am_pad, am_nth, am_set, am_st1, am_st2, am_kl, am_kill, am_mem, am_fv, am_tk, am_wt, am_bk, Option.toList, List.cons_append, List.nil_append, Nat.reduceAdd, Nat.reduceEqDiff, Nat.reduceLeDiff, reduceIte, Nat.reduceLT, or_self, true_or, or_true, if_true, if_false, and_self, and_true, true_and, not_false_eq_true, not_true_eq_false, fd_La_law_843]
      exact lw_fin G h1 h1l hc hs
    · refine am_go [831, 843] 2 ?_
      simp only [am_wp, am_stp, am_en, am_as, am_pad, am_nth, am_set, am_st1, am_st2, am_kl, am_kill, am_mem, am_fv, am_tk, am_wt, am_bk, Option.toList, List.cons_append, List.nil_append, Nat.reduceAdd, Nat.reduceEqDiff, Nat.reduceLeDiff, reduceIte, Nat.reduceLT, or_self, true_or, or_true, if_true, if_false, and_self, and_true, true_and, not_false_eq_true, not_true_eq_false, fd_La_law_826, fd_La_law_828, e]
      refine am_go [1634] 2 ?_
      simp only [am_wp, am_stp, am_en, am_as, am_pad, am_nth, am_set, am_st1, am_st2, am_kl, am_kill, am_mem, am_fv, am_tk, am_wt, am_bk, Option.toList, List.cons_append, List.nil_append, Nat.reduceAdd, Nat.reduceEqDiff, Nat.reduceLeDiff, reduceIte, Nat.reduceLT, or_self, true_or, or_true, if_true, if_false, and_self, and_true, true_and, not_false_eq_true, not_true_eq_false, fd_La_law_843]
      exact lw_fin G h1 h1l hc hs
theorem tl_get {d : Nat} {k : Int32} {b : Int64} {xs : Nat → Int32} {h h2 : am_H} (G : lw_G 8 xs h) (hm : am_kd h2 72 = 12) (hk : am_I h2 72 0 = k) (ho : am_kd h2 108 = 101) (hol : am_ln h2 108 = 1) (hv : k = 0 → am_L h2 108 0 = b) (h1 : am_kd h2 1 = 99) (h1l : am_ln h2 1 = 8) (hc : am_ce h2 ≤ am_ce h + 500000) (hs : am_sl h2 ≤ am_sl h + 6000000) :
    am_Ex nm_pr (d + 12) mt_La_law (913, [.ref 1, .ref 2, .ref 72, .ref 108, .int 1, .int k, .retAddr 0, .retAddr 0], [.long b], h2) lw_Q1 := by
  refine am_go [] 3 ?_
  simp only [am_wp, am_stp, am_en, am_as, am_pad, am_nth, am_set, am_st1, am_st2, am_kl, am_kill, am_mem, am_fv, am_tk, am_wt, am_bk, Option.toList, List.cons_append, List.nil_append, Nat.reduceAdd, Nat.reduceEqDiff, Nat.reduceLeDiff, reduceIte, Nat.reduceLT, or_self, true_or, or_true, if_true, if_false, and_self, and_true, true_and, not_false_eq_true, not_true_eq_false, fd_La_law_913, fd_La_law_915, fd_La_law_916, hm]
  refine am_call (Q := fun o h' => o = .inl (some (.int k)) ∧ h' = h2) ?_ (fun o h3 q => ?_)
  · refine am_in' (d := d + 11) mt_Mo_thrown 1 rfl rfl rfl ?_
    refine am_go [] 10 ?_
    simp only [am_wp, am_stp, am_en, am_as, am_pad, am_nth, am_set, am_st1, am_st2, am_kl, am_kill, am_mem, am_fv, am_tk, am_wt, am_bk, Option.toList, List.cons_append, List.nil_append, Nat.reduceAdd, Nat.reduceEqDiff, Nat.reduceLeDiff, reduceIte, Nat.reduceLT, or_self, true_or, or_true, if_true, if_false, and_self, and_true, true_and, not_false_eq_true, not_true_eq_false, fd_Mo_thrown_0, fd_Mo_thrown_1, fd_Mo_thrown_4, hm, hk]
  · obtain ⟨rfl, rfl⟩ := q
    simp only [am_wp, am_stp, am_en, am_as, am_pad, am_nth, am_set, am_st1, am_st2, am_kl, am_kill, am_mem, am_fv, am_tk, am_wt, am_bk, Option.toList, List.cons_append, List.nil_append, Nat.reduceAdd, Nat.reduceEqDiff, Nat.reduceLeDiff, reduceIte, Nat.reduceLT, or_self, true_or, or_true, if_true, if_false, and_self, and_true, true_and, not_false_eq_true, not_true_eq_false]
    refine am_go [924, 926] 2 ?_
    simp only [am_wp, am_stp, am_en, am_as, am_pad, am_nth, am_set, am_st1, am_st2, am_kl, am_kill, am_mem, am_fv, am_tk, am_wt, am_bk, Option.toList, List.cons_append, List.nil_append, Nat.reduceAdd, Nat.reduceEqDiff, Nat.reduceLeDiff, reduceIte, Nat.reduceLT, or_self, true_or, or_true, if_true, if_false, and_self, and_true, true_and, not_false_eq_true, not_true_eq_false, fd_La_law_919, fd_La_law_921]
    by_cases e : k = 0
    · subst e
      have i0 : ¬ ((0 : Int32) < 0 ∨ 1 ≤ (0 : Int32).toNatClampNeg) := by decide
      have c0 : (0 : Int32).toNatClampNeg = 0 := by decide
      have hv0 := hv rfl
      refine am_go [940, 942] 8 ?_
      have nl : ∀ z : Int64, ¬ z < z := fun z hz => by rw [Int64.lt_iff_toInt_lt] at hz; omega
      simp only [am_wp, am_stp, am_en, am_as, am_pad, am_nth, am_set, am_st1, am_st2, am_kl, am_kill, am_mem, am_fv, am_tk, am_wt, am_bk, Option.toList, List.cons_append, List.nil_append, Nat.reduceAdd, Nat.reduceEqDiff, Nat.reduceLeDiff, reduceIte, Nat.reduceLT, or_self, true_or, or_true, if_true, if_false, and_self, and_true, true_and, not_false_eq_true, not_true_eq_false, fd_La_law_926, fd_La_law_928, fd_La_law_931, fd_La_law_932, fd_La_law_933, fd_La_law_934, fd_La_law_936, fd_La_law_937, ho, hol, i0, c0, hv0, nl]
      refine am_go [1634] 2 ?_
      simp only [am_wp, am_stp, am_en, am_as, am_pad, am_nth, am_set, am_st1, am_st2, am_kl, am_kill, am_mem, am_fv, am_tk, am_wt, am_bk, Option.toList, List.cons_append, List.nil_append, Nat.reduceAdd, Nat.reduceEqDiff, Nat.reduceLeDiff, reduceIte, Nat.reduceLT, or_self, true_or, or_true, if_true, if_false, and_self, and_true, true_and, not_false_eq_true, not_true_eq_false, fd_La_law_942]
      exact lw_fin G h1 h1l hc hs
    · refine am_go [931, 942] 2 ?_
      simp only [am_wp, am_stp, am_en, am_as, am_pad, am_nth, am_set, am_st1, am_st2, am_kl, am_kill, am_mem, am_fv, am_tk, am_wt, am_bk, Option.toList, List.cons_append, List.nil_append, Nat.reduceAdd, Nat.reduceEqDiff, Nat.reduceLeDiff, reduceIte, Nat.reduceLT, or_self, true_or, or_true, if_true, if_false, and_self, and_true, true_and, not_false_eq_true, not_true_eq_false, fd_La_law_926, fd_La_law_928, e]
      refine am_go [1634] 2 ?_
      simp only [am_wp, am_stp, am_en, am_as, am_pad, am_nth, am_set, am_st1, am_st2, am_kl, am_kill, am_mem, am_fv, am_tk, am_wt, am_bk, Option.toList, List.cons_append, List.nil_append, Nat.reduceAdd, Nat.reduceEqDiff, Nat.reduceLeDiff, reduceIte, Nat.reduceLT, or_self, true_or, or_true, if_true, if_false, and_self, and_true, true_and, not_false_eq_true, not_true_eq_false, fd_La_law_942]
      exact lw_fin G h1 h1l hc hs
theorem tl_range {d : Nat} {k : Int32} {b : Int32} {xs : Nat → Int32} {h h2 : am_H} (G : lw_G 8 xs h) (hm : am_kd h2 72 = 12) (hk : am_I h2 72 0 = k) (ho : am_kd h2 108 = 101) (hol : am_ln h2 108 = 1) (hv : k = 0 → am_L h2 108 0 = b.toInt64) (h1 : am_kd h2 1 = 99) (h1l : am_ln h2 1 = 8) (hc : am_ce h2 ≤ am_ce h + 500000) (hs : am_sl h2 ≤ am_sl h + 6000000) :
    am_Ex nm_pr (d + 12) mt_La_law (1069, [.ref 1, .ref 2, .ref 72, .ref 108, .int 1, .int k, .retAddr 0, .retAddr 0], [.int b], h2) lw_Q1 := by
  refine am_go [] 3 ?_
  simp only [am_wp, am_stp, am_en, am_as, am_pad, am_nth, am_set, am_st1, am_st2, am_kl, am_kill, am_mem, am_fv, am_tk, am_wt, am_bk, Option.toList, List.cons_append, List.nil_append, Nat.reduceAdd, Nat.reduceEqDiff, Nat.reduceLeDiff, reduceIte, Nat.reduceLT, or_self, true_or, or_true, if_true, if_false, and_self, and_true, true_and, not_false_eq_true, not_true_eq_false, fd_La_law_1069, fd_La_law_1071, fd_La_law_1072, hm]
  refine am_call (Q := fun o h' => o = .inl (some (.int k)) ∧ h' = h2) ?_ (fun o h3 q => ?_)
  · refine am_in' (d := d + 11) mt_Mo_thrown 1 rfl rfl rfl ?_
    refine am_go [] 10 ?_
    simp only [am_wp, am_stp, am_en, am_as, am_pad, am_nth, am_set, am_st1, am_st2, am_kl, am_kill, am_mem, am_fv, am_tk, am_wt, am_bk, Option.toList, List.cons_append, List.nil_append, Nat.reduceAdd, Nat.reduceEqDiff, Nat.reduceLeDiff, reduceIte, Nat.reduceLT, or_self, true_or, or_true, if_true, if_false, and_self, and_true, true_and, not_false_eq_true, not_true_eq_false, fd_Mo_thrown_0, fd_Mo_thrown_1, fd_Mo_thrown_4, hm, hk]
  · obtain ⟨rfl, rfl⟩ := q
    simp only [am_wp, am_stp, am_en, am_as, am_pad, am_nth, am_set, am_st1, am_st2, am_kl, am_kill, am_mem, am_fv, am_tk, am_wt, am_bk, Option.toList, List.cons_append, List.nil_append, Nat.reduceAdd, Nat.reduceEqDiff, Nat.reduceLeDiff, reduceIte, Nat.reduceLT, or_self, true_or, or_true, if_true, if_false, and_self, and_true, true_and, not_false_eq_true, not_true_eq_false]
    refine am_go [1080, 1082] 2 ?_
    simp only [am_wp, am_stp, am_en, am_as, am_pad, am_nth, am_set, am_st1, am_st2, am_kl, am_kill, am_mem, am_fv, am_tk, am_wt, am_bk, Option.toList, List.cons_append, List.nil_append, Nat.reduceAdd, Nat.reduceEqDiff, Nat.reduceLeDiff, reduceIte, Nat.reduceLT, or_self, true_or, or_true, if_true, if_false, and_self, and_true, true_and, not_false_eq_true, not_true_eq_false, fd_La_law_1075, fd_La_law_1077]
    by_cases e : k = 0
    · subst e
      have i0 : ¬ ((0 : Int32) < 0 ∨ 1 ≤ (0 : Int32).toNatClampNeg) := by decide
      have c0 : (0 : Int32).toNatClampNeg = 0 := by decide
      have hv0 := hv rfl
      refine am_go [1097, 1099] 9 ?_
      have nl : ∀ z : Int64, ¬ z < z := fun z hz => by rw [Int64.lt_iff_toInt_lt] at hz; omega
      simp only [am_wp, am_stp, am_en, am_as, am_pad, am_nth, am_set, am_st1, am_st2, am_kl, am_kill, am_mem, am_fv, am_tk, am_wt, am_bk, Option.toList, List.cons_append, List.nil_append, Nat.reduceAdd, Nat.reduceEqDiff, Nat.reduceLeDiff, reduceIte, Nat.reduceLT, or_self, true_or, or_true, if_true, if_false, and_self, and_true, true_and, not_false_eq_true, not_true_eq_false, fd_La_law_1082, fd_La_law_1084, fd_La_law_1087, fd_La_law_1088, fd_La_law_1089, fd_La_law_1090, fd_La_law_1092, fd_La_law_1093, fd_La_law_1094, ho, hol, i0, c0, hv0, nl]
      refine am_go [1634] 2 ?_
      simp only [am_wp, am_stp, am_en, am_as, am_pad, am_nth, am_set, am_st1, am_st2, am_kl, am_kill, am_mem, am_fv, am_tk, am_wt, am_bk, Option.toList, List.cons_append, List.nil_append, Nat.reduceAdd, Nat.reduceEqDiff, Nat.reduceLeDiff, reduceIte, Nat.reduceLT, or_self, true_or, or_true, if_true, if_false, and_self, and_true, true_and, not_false_eq_true, not_true_eq_false, fd_La_law_1099]
      exact lw_fin G h1 h1l hc hs
    · refine am_go [1087, 1099] 2 ?_
      simp only [am_wp, am_stp, am_en, am_as, am_pad, am_nth, am_set, am_st1, am_st2, am_kl, am_kill, am_mem, am_fv, am_tk, am_wt, am_bk, Option.toList, List.cons_append, List.nil_append, Nat.reduceAdd, Nat.reduceEqDiff, Nat.reduceLeDiff, reduceIte, Nat.reduceLT, or_self, true_or, or_true, if_true, if_false, and_self, and_true, true_and, not_false_eq_true, not_true_eq_false, fd_La_law_1082, fd_La_law_1084, e]
      refine am_go [1634] 2 ?_
      simp only [am_wp, am_stp, am_en, am_as, am_pad, am_nth, am_set, am_st1, am_st2, am_kl, am_kill, am_mem, am_fv, am_tk, am_wt, am_bk, Option.toList, List.cons_append, List.nil_append, Nat.reduceAdd, Nat.reduceEqDiff, Nat.reduceLeDiff, reduceIte, Nat.reduceLT, or_self, true_or, or_true, if_true, if_false, and_self, and_true, true_and, not_false_eq_true, not_true_eq_false, fd_La_law_1099]
      exact lw_fin G h1 h1l hc hs
theorem tl_at {d : Nat} {k : Int32} {b : Int64} {xs : Nat → Int32} {h h2 : am_H} (G : lw_G 8 xs h) (hm : am_kd h2 72 = 12) (hk : am_I h2 72 0 = k) (ho : am_kd h2 108 = 101) (hol : am_ln h2 108 = 1) (hv : k = 0 → am_L h2 108 0 = b) (h1 : am_kd h2 1 = 99) (h1l : am_ln h2 1 = 8) (hc : am_ce h2 ≤ am_ce h + 500000) (hs : am_sl h2 ≤ am_sl h + 6000000) :
    am_Ex nm_pr (d + 12) mt_La_law (1137, [.ref 1, .ref 2, .ref 72, .ref 108, .int 1, .int k, .retAddr 0, .retAddr 0], [.long b], h2) lw_Q1 := by
  refine am_go [] 3 ?_
  simp only [am_wp, am_stp, am_en, am_as, am_pad, am_nth, am_set, am_st1, am_st2, am_kl, am_kill, am_mem, am_fv, am_tk, am_wt, am_bk, Option.toList, List.cons_append, List.nil_append, Nat.reduceAdd, Nat.reduceEqDiff, Nat.reduceLeDiff, reduceIte, Nat.reduceLT, or_self, true_or, or_true, if_true, if_false, and_self, and_true, true_and, not_false_eq_true, not_true_eq_false, fd_La_law_1137, fd_La_law_1139, fd_La_law_1140, hm]
  refine am_call (Q := fun o h' => o = .inl (some (.int k)) ∧ h' = h2) ?_ (fun o h3 q => ?_)
  · refine am_in' (d := d + 11) mt_Mo_thrown 1 rfl rfl rfl ?_
    refine am_go [] 10 ?_
    simp only [am_wp, am_stp, am_en, am_as, am_pad, am_nth, am_set, am_st1, am_st2, am_kl, am_kill, am_mem, am_fv, am_tk, am_wt, am_bk, Option.toList, List.cons_append, List.nil_append, Nat.reduceAdd, Nat.reduceEqDiff, Nat.reduceLeDiff, reduceIte, Nat.reduceLT, or_self, true_or, or_true, if_true, if_false, and_self, and_true, true_and, not_false_eq_true, not_true_eq_false, fd_Mo_thrown_0, fd_Mo_thrown_1, fd_Mo_thrown_4, hm, hk]
  · obtain ⟨rfl, rfl⟩ := q
    simp only [am_wp, am_stp, am_en, am_as, am_pad, am_nth, am_set, am_st1, am_st2, am_kl, am_kill, am_mem, am_fv, am_tk, am_wt, am_bk, Option.toList, List.cons_append, List.nil_append, Nat.reduceAdd, Nat.reduceEqDiff, Nat.reduceLeDiff, reduceIte, Nat.reduceLT, or_self, true_or, or_true, if_true, if_false, and_self, and_true, true_and, not_false_eq_true, not_true_eq_false]
    refine am_go [1148, 1150] 2 ?_
    simp only [am_wp, am_stp, am_en, am_as, am_pad, am_nth, am_set, am_st1, am_st2, am_kl, am_kill, am_mem, am_fv, am_tk, am_wt, am_bk, Option.toList, List.cons_append, List.nil_append, Nat.reduceAdd, Nat.reduceEqDiff, Nat.reduceLeDiff, reduceIte, Nat.reduceLT, or_self, true_or, or_true, if_true, if_false, and_self, and_true, true_and, not_false_eq_true, not_true_eq_false, fd_La_law_1143, fd_La_law_1145]
    by_cases e : k = 0
    · subst e
      have i0 : ¬ ((0 : Int32) < 0 ∨ 1 ≤ (0 : Int32).toNatClampNeg) := by decide
      have c0 : (0 : Int32).toNatClampNeg = 0 := by decide
      have hv0 := hv rfl
      refine am_go [1164, 1166] 8 ?_
      have nl : ∀ z : Int64, ¬ z < z := fun z hz => by rw [Int64.lt_iff_toInt_lt] at hz; omega
      simp only [am_wp, am_stp, am_en, am_as, am_pad, am_nth, am_set, am_st1, am_st2, am_kl, am_kill, am_mem, am_fv, am_tk, am_wt, am_bk, Option.toList, List.cons_append, List.nil_append, Nat.reduceAdd, Nat.reduceEqDiff, Nat.reduceLeDiff, reduceIte, Nat.reduceLT, or_self, true_or, or_true, if_true, if_false, and_self, and_true, true_and, not_false_eq_true, not_true_eq_false, fd_La_law_1150, fd_La_law_1152, fd_La_law_1155, fd_La_law_1156, fd_La_law_1157, fd_La_law_1158, fd_La_law_1160, fd_La_law_1161, ho, hol, i0, c0, hv0, nl]
      refine am_go [1634] 2 ?_
      simp only [am_wp, am_stp, am_en, am_as, am_pad, am_nth, am_set, am_st1, am_st2, am_kl, am_kill, am_mem, am_fv, am_tk, am_wt, am_bk, Option.toList, List.cons_append, List.nil_append, Nat.reduceAdd, Nat.reduceEqDiff, Nat.reduceLeDiff, reduceIte, Nat.reduceLT, or_self, true_or, or_true, if_true, if_false, and_self, and_true, true_and, not_false_eq_true, not_true_eq_false, fd_La_law_1166]
      exact lw_fin G h1 h1l hc hs
    · refine am_go [1155, 1166] 2 ?_
      simp only [am_wp, am_stp, am_en, am_as, am_pad, am_nth, am_set, am_st1, am_st2, am_kl, am_kill, am_mem, am_fv, am_tk, am_wt, am_bk, Option.toList, List.cons_append, List.nil_append, Nat.reduceAdd, Nat.reduceEqDiff, Nat.reduceLeDiff, reduceIte, Nat.reduceLT, or_self, true_or, or_true, if_true, if_false, and_self, and_true, true_and, not_false_eq_true, not_true_eq_false, fd_La_law_1150, fd_La_law_1152, e]
      refine am_go [1634] 2 ?_
      simp only [am_wp, am_stp, am_en, am_as, am_pad, am_nth, am_set, am_st1, am_st2, am_kl, am_kill, am_mem, am_fv, am_tk, am_wt, am_bk, Option.toList, List.cons_append, List.nil_append, Nat.reduceAdd, Nat.reduceEqDiff, Nat.reduceLeDiff, reduceIte, Nat.reduceLT, or_self, true_or, or_true, if_true, if_false, and_self, and_true, true_and, not_false_eq_true, not_true_eq_false, fd_La_law_1166]
      exact lw_fin G h1 h1l hc hs
theorem tl_run {d : Nat} {k : Int32} {b : Int32} {xs : Nat → Int32} {h h2 : am_H} (G : lw_G 8 xs h) (hm : am_kd h2 72 = 12) (hk : am_I h2 72 0 = k) (ho : am_kd h2 108 = 101) (hol : am_ln h2 108 = 1) (hv : k = 0 → am_L h2 108 0 = b.toInt64) (h1 : am_kd h2 1 = 99) (h1l : am_ln h2 1 = 8) (hc : am_ce h2 ≤ am_ce h + 500000) (hs : am_sl h2 ≤ am_sl h + 6000000) :
    am_Ex nm_pr (d + 12) mt_La_law (1204, [.ref 1, .ref 2, .ref 72, .ref 108, .int 1, .int k, .retAddr 0, .retAddr 0], [.int b], h2) lw_Q1 := by
  refine am_go [] 3 ?_
  simp only [am_wp, am_stp, am_en, am_as, am_pad, am_nth, am_set, am_st1, am_st2, am_kl, am_kill, am_mem, am_fv, am_tk, am_wt, am_bk, Option.toList, List.cons_append, List.nil_append, Nat.reduceAdd, Nat.reduceEqDiff, Nat.reduceLeDiff, reduceIte, Nat.reduceLT, or_self, true_or, or_true, if_true, if_false, and_self, and_true, true_and, not_false_eq_true, not_true_eq_false, fd_La_law_1204, fd_La_law_1206, fd_La_law_1207, hm]
  refine am_call (Q := fun o h' => o = .inl (some (.int k)) ∧ h' = h2) ?_ (fun o h3 q => ?_)
  · refine am_in' (d := d + 11) mt_Mo_thrown 1 rfl rfl rfl ?_
    refine am_go [] 10 ?_
    simp only [am_wp, am_stp, am_en, am_as, am_pad, am_nth, am_set, am_st1, am_st2, am_kl, am_kill, am_mem, am_fv, am_tk, am_wt, am_bk, Option.toList, List.cons_append, List.nil_append, Nat.reduceAdd, Nat.reduceEqDiff, Nat.reduceLeDiff, reduceIte, Nat.reduceLT, or_self, true_or, or_true, if_true, if_false, and_self, and_true, true_and, not_false_eq_true, not_true_eq_false, fd_Mo_thrown_0, fd_Mo_thrown_1, fd_Mo_thrown_4, hm, hk]
  · obtain ⟨rfl, rfl⟩ := q
    simp only [am_wp, am_stp, am_en, am_as, am_pad, am_nth, am_set, am_st1, am_st2, am_kl, am_kill, am_mem, am_fv, am_tk, am_wt, am_bk, Option.toList, List.cons_append, List.nil_append, Nat.reduceAdd, Nat.reduceEqDiff, Nat.reduceLeDiff, reduceIte, Nat.reduceLT, or_self, true_or, or_true, if_true, if_false, and_self, and_true, true_and, not_false_eq_true, not_true_eq_false]
    refine am_go [1215, 1217] 2 ?_
    simp only [am_wp, am_stp, am_en, am_as, am_pad, am_nth, am_set, am_st1, am_st2, am_kl, am_kill, am_mem, am_fv, am_tk, am_wt, am_bk, Option.toList, List.cons_append, List.nil_append, Nat.reduceAdd, Nat.reduceEqDiff, Nat.reduceLeDiff, reduceIte, Nat.reduceLT, or_self, true_or, or_true, if_true, if_false, and_self, and_true, true_and, not_false_eq_true, not_true_eq_false, fd_La_law_1210, fd_La_law_1212]
    by_cases e : k = 0
    · subst e
      have i0 : ¬ ((0 : Int32) < 0 ∨ 1 ≤ (0 : Int32).toNatClampNeg) := by decide
      have c0 : (0 : Int32).toNatClampNeg = 0 := by decide
      have hv0 := hv rfl
      refine am_go [1232, 1234] 9 ?_
      have nl : ∀ z : Int64, ¬ z < z := fun z hz => by rw [Int64.lt_iff_toInt_lt] at hz; omega
      simp only [am_wp, am_stp, am_en, am_as, am_pad, am_nth, am_set, am_st1, am_st2, am_kl, am_kill, am_mem, am_fv, am_tk, am_wt, am_bk, Option.toList, List.cons_append, List.nil_append, Nat.reduceAdd, Nat.reduceEqDiff, Nat.reduceLeDiff, reduceIte, Nat.reduceLT, or_self, true_or, or_true, if_true, if_false, and_self, and_true, true_and, not_false_eq_true, not_true_eq_false, fd_La_law_1217, fd_La_law_1219, fd_La_law_1222, fd_La_law_1223, fd_La_law_1224, fd_La_law_1225, fd_La_law_1227, fd_La_law_1228, fd_La_law_1229, ho, hol, i0, c0, hv0, nl]
      refine am_go [1634] 2 ?_
      simp only [am_wp, am_stp, am_en, am_as, am_pad, am_nth, am_set, am_st1, am_st2, am_kl, am_kill, am_mem, am_fv, am_tk, am_wt, am_bk, Option.toList, List.cons_append, List.nil_append, Nat.reduceAdd, Nat.reduceEqDiff, Nat.reduceLeDiff, reduceIte, Nat.reduceLT, or_self, true_or, or_true, if_true, if_false, and_self, and_true, true_and, not_false_eq_true, not_true_eq_false, fd_La_law_1234]
      exact lw_fin G h1 h1l hc hs
    · refine am_go [1222, 1234] 2 ?_
      simp only [am_wp, am_stp, am_en, am_as, am_pad, am_nth, am_set, am_st1, am_st2, am_kl, am_kill, am_mem, am_fv, am_tk, am_wt, am_bk, Option.toList, List.cons_append, List.nil_append, Nat.reduceAdd, Nat.reduceEqDiff, Nat.reduceLeDiff, reduceIte, Nat.reduceLT, or_self, true_or, or_true, if_true, if_false, and_self, and_true, true_and, not_false_eq_true, not_true_eq_false, fd_La_law_1217, fd_La_law_1219, e]
      refine am_go [1634] 2 ?_
      simp only [am_wp, am_stp, am_en, am_as, am_pad, am_nth, am_set, am_st1, am_st2, am_kl, am_kill, am_mem, am_fv, am_tk, am_wt, am_bk, Option.toList, List.cons_append, List.nil_append, Nat.reduceAdd, Nat.reduceEqDiff, Nat.reduceLeDiff, reduceIte, Nat.reduceLT, or_self, true_or, or_true, if_true, if_false, and_self, and_true, true_and, not_false_eq_true, not_true_eq_false, fd_La_law_1234]
      exact lw_fin G h1 h1l hc hs
theorem tl_octet {d : Nat} {k : Int32} {b : Int32} {xs : Nat → Int32} {h h2 : am_H} (G : lw_G 8 xs h) (hm : am_kd h2 72 = 12) (hk : am_I h2 72 0 = k) (ho : am_kd h2 108 = 101) (hol : am_ln h2 108 = 1) (hv : k = 0 → am_L h2 108 0 = b.toInt64) (h1 : am_kd h2 1 = 99) (h1l : am_ln h2 1 = 8) (hc : am_ce h2 ≤ am_ce h + 500000) (hs : am_sl h2 ≤ am_sl h + 6000000) :
    am_Ex nm_pr (d + 12) mt_La_law (1367, [.ref 1, .ref 2, .ref 72, .ref 108, .int 1, .int k, .retAddr 0, .retAddr 0], [.int b], h2) lw_Q1 := by
  refine am_go [] 3 ?_
  simp only [am_wp, am_stp, am_en, am_as, am_pad, am_nth, am_set, am_st1, am_st2, am_kl, am_kill, am_mem, am_fv, am_tk, am_wt, am_bk, Option.toList, List.cons_append, List.nil_append, Nat.reduceAdd, Nat.reduceEqDiff, Nat.reduceLeDiff, reduceIte, Nat.reduceLT, or_self, true_or, or_true, if_true, if_false, and_self, and_true, true_and, not_false_eq_true, not_true_eq_false, fd_La_law_1367, fd_La_law_1369, fd_La_law_1370, hm]
  refine am_call (Q := fun o h' => o = .inl (some (.int k)) ∧ h' = h2) ?_ (fun o h3 q => ?_)
  · refine am_in' (d := d + 11) mt_Mo_thrown 1 rfl rfl rfl ?_
    refine am_go [] 10 ?_
    simp only [am_wp, am_stp, am_en, am_as, am_pad, am_nth, am_set, am_st1, am_st2, am_kl, am_kill, am_mem, am_fv, am_tk, am_wt, am_bk, Option.toList, List.cons_append, List.nil_append, Nat.reduceAdd, Nat.reduceEqDiff, Nat.reduceLeDiff, reduceIte, Nat.reduceLT, or_self, true_or, or_true, if_true, if_false, and_self, and_true, true_and, not_false_eq_true, not_true_eq_false, fd_Mo_thrown_0, fd_Mo_thrown_1, fd_Mo_thrown_4, hm, hk]
  · obtain ⟨rfl, rfl⟩ := q
    simp only [am_wp, am_stp, am_en, am_as, am_pad, am_nth, am_set, am_st1, am_st2, am_kl, am_kill, am_mem, am_fv, am_tk, am_wt, am_bk, Option.toList, List.cons_append, List.nil_append, Nat.reduceAdd, Nat.reduceEqDiff, Nat.reduceLeDiff, reduceIte, Nat.reduceLT, or_self, true_or, or_true, if_true, if_false, and_self, and_true, true_and, not_false_eq_true, not_true_eq_false]
    refine am_go [1378, 1380] 2 ?_
    simp only [am_wp, am_stp, am_en, am_as, am_pad, am_nth, am_set, am_st1, am_st2, am_kl, am_kill, am_mem, am_fv, am_tk, am_wt, am_bk, Option.toList, List.cons_append, List.nil_append, Nat.reduceAdd, Nat.reduceEqDiff, Nat.reduceLeDiff, reduceIte, Nat.reduceLT, or_self, true_or, or_true, if_true, if_false, and_self, and_true, true_and, not_false_eq_true, not_true_eq_false, fd_La_law_1373, fd_La_law_1375]
    by_cases e : k = 0
    · subst e
      have i0 : ¬ ((0 : Int32) < 0 ∨ 1 ≤ (0 : Int32).toNatClampNeg) := by decide
      have c0 : (0 : Int32).toNatClampNeg = 0 := by decide
      have hv0 := hv rfl
      refine am_go [1395, 1397] 9 ?_
      have nl : ∀ z : Int64, ¬ z < z := fun z hz => by rw [Int64.lt_iff_toInt_lt] at hz; omega
      simp only [am_wp, am_stp, am_en, am_as, am_pad, am_nth, am_set, am_st1, am_st2, am_kl, am_kill, am_mem, am_fv, am_tk, am_wt, am_bk, Option.toList, List.cons_append, List.nil_append, Nat.reduceAdd, Nat.reduceEqDiff, Nat.reduceLeDiff, reduceIte, Nat.reduceLT, or_self, true_or, or_true, if_true, if_false, and_self, and_true, true_and, not_false_eq_true, not_true_eq_false, fd_La_law_1380, fd_La_law_1382, fd_La_law_1385, fd_La_law_1386, fd_La_law_1387, fd_La_law_1388, fd_La_law_1390, fd_La_law_1391, fd_La_law_1392, ho, hol, i0, c0, hv0, nl]
      refine am_go [1634] 2 ?_
      simp only [am_wp, am_stp, am_en, am_as, am_pad, am_nth, am_set, am_st1, am_st2, am_kl, am_kill, am_mem, am_fv, am_tk, am_wt, am_bk, Option.toList, List.cons_append, List.nil_append, Nat.reduceAdd, Nat.reduceEqDiff, Nat.reduceLeDiff, reduceIte, Nat.reduceLT, or_self, true_or, or_true, if_true, if_false, and_self, and_true, true_and, not_false_eq_true, not_true_eq_false, fd_La_law_1397]
      exact lw_fin G h1 h1l hc hs
    · refine am_go [1385, 1397] 2 ?_
      simp only [am_wp, am_stp, am_en, am_as, am_pad, am_nth, am_set, am_st1, am_st2, am_kl, am_kill, am_mem, am_fv, am_tk, am_wt, am_bk, Option.toList, List.cons_append, List.nil_append, Nat.reduceAdd, Nat.reduceEqDiff, Nat.reduceLeDiff, reduceIte, Nat.reduceLT, or_self, true_or, or_true, if_true, if_false, and_self, and_true, true_and, not_false_eq_true, not_true_eq_false, fd_La_law_1380, fd_La_law_1382, e]
      refine am_go [1634] 2 ?_
      simp only [am_wp, am_stp, am_en, am_as, am_pad, am_nth, am_set, am_st1, am_st2, am_kl, am_kill, am_mem, am_fv, am_tk, am_wt, am_bk, Option.toList, List.cons_append, List.nil_append, Nat.reduceAdd, Nat.reduceEqDiff, Nat.reduceLeDiff, reduceIte, Nat.reduceLT, or_self, true_or, or_true, if_true, if_false, and_self, and_true, true_and, not_false_eq_true, not_true_eq_false, fd_La_law_1397]
      exact lw_fin G h1 h1l hc hs
theorem tl_open {d : Nat} {k : Int32} {b : Int32} {xs : Nat → Int32} {h h2 : am_H} (G : lw_G 8 xs h) (hm : am_kd h2 72 = 12) (hk : am_I h2 72 0 = k) (ho : am_kd h2 108 = 101) (hol : am_ln h2 108 = 1) (hv : k = 0 → am_L h2 108 0 = b.toInt64) (h1 : am_kd h2 1 = 99) (h1l : am_ln h2 1 = 8) (hc : am_ce h2 ≤ am_ce h + 500000) (hs : am_sl h2 ≤ am_sl h + 6000000) :
    am_Ex nm_pr (d + 12) mt_La_law (1545, [.ref 1, .ref 2, .ref 72, .ref 108, .int 1, .int k, .retAddr 0, .retAddr 0], [.int b], h2) lw_Q1 := by
  refine am_go [] 3 ?_
  simp only [am_wp, am_stp, am_en, am_as, am_pad, am_nth, am_set, am_st1, am_st2, am_kl, am_kill, am_mem, am_fv, am_tk, am_wt, am_bk, Option.toList, List.cons_append, List.nil_append, Nat.reduceAdd, Nat.reduceEqDiff, Nat.reduceLeDiff, reduceIte, Nat.reduceLT, or_self, true_or, or_true, if_true, if_false, and_self, and_true, true_and, not_false_eq_true, not_true_eq_false, fd_La_law_1545, fd_La_law_1547, fd_La_law_1548, hm]
  refine am_call (Q := fun o h' => o = .inl (some (.int k)) ∧ h' = h2) ?_ (fun o h3 q => ?_)
  · refine am_in' (d := d + 11) mt_Mo_thrown 1 rfl rfl rfl ?_
    refine am_go [] 10 ?_
    simp only [am_wp, am_stp, am_en, am_as, am_pad, am_nth, am_set, am_st1, am_st2, am_kl, am_kill, am_mem, am_fv, am_tk, am_wt, am_bk, Option.toList, List.cons_append, List.nil_append, Nat.reduceAdd, Nat.reduceEqDiff, Nat.reduceLeDiff, reduceIte, Nat.reduceLT, or_self, true_or, or_true, if_true, if_false, and_self, and_true, true_and, not_false_eq_true, not_true_eq_false, fd_Mo_thrown_0, fd_Mo_thrown_1, fd_Mo_thrown_4, hm, hk]
  · obtain ⟨rfl, rfl⟩ := q
    simp only [am_wp, am_stp, am_en, am_as, am_pad, am_nth, am_set, am_st1, am_st2, am_kl, am_kill, am_mem, am_fv, am_tk, am_wt, am_bk, Option.toList, List.cons_append, List.nil_append, Nat.reduceAdd, Nat.reduceEqDiff, Nat.reduceLeDiff, reduceIte, Nat.reduceLT, or_self, true_or, or_true, if_true, if_false, and_self, and_true, true_and, not_false_eq_true, not_true_eq_false]
    refine am_go [1556, 1558] 2 ?_
    simp only [am_wp, am_stp, am_en, am_as, am_pad, am_nth, am_set, am_st1, am_st2, am_kl, am_kill, am_mem, am_fv, am_tk, am_wt, am_bk, Option.toList, List.cons_append, List.nil_append, Nat.reduceAdd, Nat.reduceEqDiff, Nat.reduceLeDiff, reduceIte, Nat.reduceLT, or_self, true_or, or_true, if_true, if_false, and_self, and_true, true_and, not_false_eq_true, not_true_eq_false, fd_La_law_1551, fd_La_law_1553]
    by_cases e : k = 0
    · subst e
      have i0 : ¬ ((0 : Int32) < 0 ∨ 1 ≤ (0 : Int32).toNatClampNeg) := by decide
      have c0 : (0 : Int32).toNatClampNeg = 0 := by decide
      have hv0 := hv rfl
      refine am_go [1573, 1575] 9 ?_
      have nl : ∀ z : Int64, ¬ z < z := fun z hz => by rw [Int64.lt_iff_toInt_lt] at hz; omega
      simp only [am_wp, am_stp, am_en, am_as, am_pad, am_nth, am_set, am_st1, am_st2, am_kl, am_kill, am_mem, am_fv, am_tk, am_wt, am_bk, Option.toList, List.cons_append, List.nil_append, Nat.reduceAdd, Nat.reduceEqDiff, Nat.reduceLeDiff, reduceIte, Nat.reduceLT, or_self, true_or, or_true, if_true, if_false, and_self, and_true, true_and, not_false_eq_true, not_true_eq_false, fd_La_law_1558, fd_La_law_1560, fd_La_law_1563, fd_La_law_1564, fd_La_law_1565, fd_La_law_1566, fd_La_law_1568, fd_La_law_1569, fd_La_law_1570, ho, hol, i0, c0, hv0, nl]
      refine am_go [1634] 2 ?_
      simp only [am_wp, am_stp, am_en, am_as, am_pad, am_nth, am_set, am_st1, am_st2, am_kl, am_kill, am_mem, am_fv, am_tk, am_wt, am_bk, Option.toList, List.cons_append, List.nil_append, Nat.reduceAdd, Nat.reduceEqDiff, Nat.reduceLeDiff, reduceIte, Nat.reduceLT, or_self, true_or, or_true, if_true, if_false, and_self, and_true, true_and, not_false_eq_true, not_true_eq_false, fd_La_law_1575]
      exact lw_fin G h1 h1l hc hs
    · refine am_go [1563, 1575] 2 ?_
      simp only [am_wp, am_stp, am_en, am_as, am_pad, am_nth, am_set, am_st1, am_st2, am_kl, am_kill, am_mem, am_fv, am_tk, am_wt, am_bk, Option.toList, List.cons_append, List.nil_append, Nat.reduceAdd, Nat.reduceEqDiff, Nat.reduceLeDiff, reduceIte, Nat.reduceLT, or_self, true_or, or_true, if_true, if_false, and_self, and_true, true_and, not_false_eq_true, not_true_eq_false, fd_La_law_1558, fd_La_law_1560, e]
      refine am_go [1634] 2 ?_
      simp only [am_wp, am_stp, am_en, am_as, am_pad, am_nth, am_set, am_st1, am_st2, am_kl, am_kill, am_mem, am_fv, am_tk, am_wt, am_bk, Option.toList, List.cons_append, List.nil_append, Nat.reduceAdd, Nat.reduceEqDiff, Nat.reduceLeDiff, reduceIte, Nat.reduceLT, or_self, true_or, or_true, if_true, if_false, and_self, and_true, true_and, not_false_eq_true, not_true_eq_false, fd_La_law_1575]
      exact lw_fin G h1 h1l hc hs
theorem tl_told {d : Nat} {k : Int32} {b : Int32} {xs : Nat → Int32} {h h2 : am_H} (G : lw_G 8 xs h) (hm : am_kd h2 72 = 12) (hk : am_I h2 72 0 = k) (ho : am_kd h2 108 = 101) (hol : am_ln h2 108 = 1) (hv : k = 0 → am_L h2 108 0 = b.toInt64) (h1 : am_kd h2 1 = 99) (h1l : am_ln h2 1 = 8) (hc : am_ce h2 ≤ am_ce h + 500000) (hs : am_sl h2 ≤ am_sl h + 6000000) :
    am_Ex nm_pr (d + 12) mt_La_law (1601, [.ref 1, .ref 2, .ref 72, .ref 108, .int 1, .int k, .retAddr 0, .retAddr 0], [.int b], h2) lw_Q1 := by
  refine am_go [] 3 ?_
  simp only [am_wp, am_stp, am_en, am_as, am_pad, am_nth, am_set, am_st1, am_st2, am_kl, am_kill, am_mem, am_fv, am_tk, am_wt, am_bk, Option.toList, List.cons_append, List.nil_append, Nat.reduceAdd, Nat.reduceEqDiff, Nat.reduceLeDiff, reduceIte, Nat.reduceLT, or_self, true_or, or_true, if_true, if_false, and_self, and_true, true_and, not_false_eq_true, not_true_eq_false, fd_La_law_1601, fd_La_law_1603, fd_La_law_1604, hm]
  refine am_call (Q := fun o h' => o = .inl (some (.int k)) ∧ h' = h2) ?_ (fun o h3 q => ?_)
  · refine am_in' (d := d + 11) mt_Mo_thrown 1 rfl rfl rfl ?_
    refine am_go [] 10 ?_
    simp only [am_wp, am_stp, am_en, am_as, am_pad, am_nth, am_set, am_st1, am_st2, am_kl, am_kill, am_mem, am_fv, am_tk, am_wt, am_bk, Option.toList, List.cons_append, List.nil_append, Nat.reduceAdd, Nat.reduceEqDiff, Nat.reduceLeDiff, reduceIte, Nat.reduceLT, or_self, true_or, or_true, if_true, if_false, and_self, and_true, true_and, not_false_eq_true, not_true_eq_false, fd_Mo_thrown_0, fd_Mo_thrown_1, fd_Mo_thrown_4, hm, hk]
  · obtain ⟨rfl, rfl⟩ := q
    simp only [am_wp, am_stp, am_en, am_as, am_pad, am_nth, am_set, am_st1, am_st2, am_kl, am_kill, am_mem, am_fv, am_tk, am_wt, am_bk, Option.toList, List.cons_append, List.nil_append, Nat.reduceAdd, Nat.reduceEqDiff, Nat.reduceLeDiff, reduceIte, Nat.reduceLT, or_self, true_or, or_true, if_true, if_false, and_self, and_true, true_and, not_false_eq_true, not_true_eq_false]
    refine am_go [1612, 1614] 2 ?_
    simp only [am_wp, am_stp, am_en, am_as, am_pad, am_nth, am_set, am_st1, am_st2, am_kl, am_kill, am_mem, am_fv, am_tk, am_wt, am_bk, Option.toList, List.cons_append, List.nil_append, Nat.reduceAdd, Nat.reduceEqDiff, Nat.reduceLeDiff, reduceIte, Nat.reduceLT, or_self, true_or, or_true, if_true, if_false, and_self, and_true, true_and, not_false_eq_true, not_true_eq_false, fd_La_law_1607, fd_La_law_1609]
    by_cases e : k = 0
    · subst e
      have i0 : ¬ ((0 : Int32) < 0 ∨ 1 ≤ (0 : Int32).toNatClampNeg) := by decide
      have c0 : (0 : Int32).toNatClampNeg = 0 := by decide
      have hv0 := hv rfl
      refine am_go [1629, 1631] 9 ?_
      have nl : ∀ z : Int64, ¬ z < z := fun z hz => by rw [Int64.lt_iff_toInt_lt] at hz; omega
      simp only [am_wp, am_stp, am_en, am_as, am_pad, am_nth, am_set, am_st1, am_st2, am_kl, am_kill, am_mem, am_fv, am_tk, am_wt, am_bk, Option.toList, List.cons_append, List.nil_append, Nat.reduceAdd, Nat.reduceEqDiff, Nat.reduceLeDiff, reduceIte, Nat.reduceLT, or_self, true_or, or_true, if_true, if_false, and_self, and_true, true_and, not_false_eq_true, not_true_eq_false, fd_La_law_1614, fd_La_law_1616, fd_La_law_1619, fd_La_law_1620, fd_La_law_1621, fd_La_law_1622, fd_La_law_1624, fd_La_law_1625, fd_La_law_1626, ho, hol, i0, c0, hv0, nl]
      refine am_go [1634] 2 ?_
      simp only [am_wp, am_stp, am_en, am_as, am_pad, am_nth, am_set, am_st1, am_st2, am_kl, am_kill, am_mem, am_fv, am_tk, am_wt, am_bk, Option.toList, List.cons_append, List.nil_append, Nat.reduceAdd, Nat.reduceEqDiff, Nat.reduceLeDiff, reduceIte, Nat.reduceLT, or_self, true_or, or_true, if_true, if_false, and_self, and_true, true_and, not_false_eq_true, not_true_eq_false, fd_La_law_1631]
      exact lw_fin G h1 h1l hc hs
    · refine am_go [1619, 1631] 2 ?_
      simp only [am_wp, am_stp, am_en, am_as, am_pad, am_nth, am_set, am_st1, am_st2, am_kl, am_kill, am_mem, am_fv, am_tk, am_wt, am_bk, Option.toList, List.cons_append, List.nil_append, Nat.reduceAdd, Nat.reduceEqDiff, Nat.reduceLeDiff, reduceIte, Nat.reduceLT, or_self, true_or, or_true, if_true, if_false, and_self, and_true, true_and, not_false_eq_true, not_true_eq_false, fd_La_law_1614, fd_La_law_1616, e]
      refine am_go [1634] 2 ?_
      simp only [am_wp, am_stp, am_en, am_as, am_pad, am_nth, am_set, am_st1, am_st2, am_kl, am_kill, am_mem, am_fv, am_tk, am_wt, am_bk, Option.toList, List.cons_append, List.nil_append, Nat.reduceAdd, Nat.reduceEqDiff, Nat.reduceLeDiff, reduceIte, Nat.reduceLT, or_self, true_or, or_true, if_true, if_false, and_self, and_true, true_and, not_false_eq_true, not_true_eq_false, fd_La_law_1631]
      exact lw_fin G h1 h1l hc hs
