/-! SortedRuns' OWN METHODS, WEAKLY, 9: release, the table -/
theorem ww_rel_loop {d P t : Nat} {v x3 : Int32} {h : am_H} {Q : am_O → am_H → Prop} (ht : wl t) (hx : ∀ (i : Int32) (g : am_H), wp P 1 h g → am_Ex nm_pr (d + 3) mt_SR_release (50, [.ref 2, .int v, .ref t, .int x3, .int i], [], g) Q) : ∀ (m i : Nat) (g : am_H), m + i = 9 → wp P 1 h g →
    am_Ex nm_pr (d + 3) mt_SR_release (17, [.ref 2, .int v, .ref t, .int x3, .int (nI i)], [], g) Q
  | m, i, g, hm, w => by
    obtain ⟨k1, k2, k3, k4, k5, k6, -⟩ := w.1.lst ht
    refine am_go [26, 50] 4 ?_
    simp only [am_wp, am_stp, am_en, am_as, am_pad, am_nth, am_set, am_st1, am_st2, am_kl, am_kill, am_mem, am_fv, am_tk, am_wt, am_bk, Option.toList, List.cons_append, List.nil_append, Nat.reduceAdd, Nat.reduceEqDiff, Nat.reduceLeDiff, reduceIte, Nat.reduceLT, or_self, true_or, or_true, if_true, if_false, and_self, and_true, true_and, not_false_eq_true, not_true_eq_false, fd_SR_release_17, fd_SR_release_19, fd_SR_release_20, fd_SR_release_23, w.1.all, k1]
    refine wif ?_ (hx _ _ w)
    cases m with
    | zero =>
      have e : i = 9 := by omega
      subst e
      have l1 : ¬ nI 9 < 9 := by decide
      refine am_go [33, 50] 3 ?_
      simp only [am_wp, am_stp, am_en, am_as, am_pad, am_nth, am_set, am_st1, am_st2, am_kl, am_kill, am_mem, am_fv, am_tk, am_wt, am_bk, Option.toList, List.cons_append, List.nil_append, Nat.reduceAdd, Nat.reduceEqDiff, Nat.reduceLeDiff, reduceIte, Nat.reduceLT, or_self, true_or, or_true, if_true, if_false, and_self, and_true, true_and, not_false_eq_true, not_true_eq_false, fd_SR_release_26, fd_SR_release_28, fd_SR_release_30, w.1.all, l1]
      exact hx _ _ w
    | succ m =>
      have l1 : nI i < 9 := nI_lt (b := 9) (by omega) (by decide)
      have i1 := am_inb (c := i) (N := 9) (by omega) (by omega)
      have q1 : (nI i).toNatClampNeg = i := nI_clamp (by omega)
      have r := w.1.pl ht (i := i) (by omega)
      refine am_go [33, 50] 3 ?_
      simp only [am_wp, am_stp, am_en, am_as, am_pad, am_nth, am_set, am_st1, am_st2, am_kl, am_kill, am_mem, am_fv, am_tk, am_wt, am_bk, Option.toList, List.cons_append, List.nil_append, Nat.reduceAdd, Nat.reduceEqDiff, Nat.reduceLeDiff, reduceIte, Nat.reduceLT, or_self, true_or, or_true, if_true, if_false, and_self, and_true, true_and, not_false_eq_true, not_true_eq_false, fd_SR_release_26, fd_SR_release_28, fd_SR_release_30, w.1.all, l1]
      refine am_go [] 6 ?_
      simp only [am_wp, am_stp, am_en, am_as, am_pad, am_nth, am_set, am_st1, am_st2, am_kl, am_kill, am_mem, am_fv, am_tk, am_wt, am_bk, Option.toList, List.cons_append, List.nil_append, Nat.reduceAdd, Nat.reduceEqDiff, Nat.reduceLeDiff, reduceIte, Nat.reduceLT, or_self, true_or, or_true, if_true, if_false, and_self, and_true, true_and, not_false_eq_true, not_true_eq_false, fd_SR_release_33, fd_SR_release_34, fd_SR_release_35, fd_SR_release_38, fd_SR_release_40, fd_SR_release_41, w.1.all, k1, k2, k3, k4, i1, q1]
      refine am_call (ww_letGo w.1 r) (fun o g1 q => ?_)
      obtain ⟨rfl, w1⟩ := q
      have w1 := (w.trans w1).mono (l := 1) (by omega)
      simp only [am_wp, am_stp, am_en, am_as, am_pad, am_nth, am_set, am_st1, am_st2, am_kl, am_kill, am_mem, am_fv, am_tk, am_wt, am_bk, Option.toList, List.cons_append, List.nil_append, Nat.reduceAdd, Nat.reduceEqDiff, Nat.reduceLeDiff, reduceIte, Nat.reduceLT, or_self, true_or, or_true, if_true, if_false, and_self, and_true, true_and, not_false_eq_true, not_true_eq_false]
      refine am_go [17] 2 ?_
      simp only [am_wp, am_stp, am_en, am_as, am_pad, am_nth, am_set, am_st1, am_st2, am_kl, am_kill, am_mem, am_fv, am_tk, am_wt, am_bk, Option.toList, List.cons_append, List.nil_append, Nat.reduceAdd, Nat.reduceEqDiff, Nat.reduceLeDiff, reduceIte, Nat.reduceLT, or_self, true_or, or_true, if_true, if_false, and_self, and_true, true_and, not_false_eq_true, not_true_eq_false, fd_SR_release_44, fd_SR_release_47, w1.1.all, nI_1]
      exact ww_rel_loop ht hx m (i + 1) g1 (by omega) w1
theorem ww_release {d P : Nat} {v : Int32} {h : am_H} (w : wk P h) : am_Rt nm_pr (d + 4) mi_SR_release [.ref 2, .int v] h (wx iany [0, 2] P 1 h) := by
  have w := wp.refl w
  refine am_in' (d := d + 3) mt_SR_release 5 rfl rfl rfl ?_
  refine am_go [] 3 ?_
  simp only [am_wp, am_stp, am_en, am_as, am_pad, am_nth, am_set, am_st1, am_st2, am_kl, am_kill, am_mem, am_fv, am_tk, am_wt, am_bk, Option.toList, List.cons_append, List.nil_append, Nat.reduceAdd, Nat.reduceEqDiff, Nat.reduceLeDiff, reduceIte, Nat.reduceLT, or_self, true_or, or_true, if_true, if_false, and_self, and_true, true_and, not_false_eq_true, not_true_eq_false, fd_SR_release_0, fd_SR_release_1, fd_SR_release_2, w.1.all]
  refine am_call (ww_runsOfMark w.1) (fun o g2 q => ?_)
  obtain ⟨⟨t, ht, rfl⟩ | ⟨c, a, hc, rfl⟩, w2⟩ := q
  rotate_left
  · simp only [am_wp, am_stp, am_en, am_as, am_pad, am_nth, am_set, am_st1, am_st2, am_kl, am_kill, am_mem, am_fv, am_tk, am_wt, am_bk, Option.toList, List.cons_append, List.nil_append, Nat.reduceAdd, Nat.reduceEqDiff, Nat.reduceLeDiff, reduceIte, Nat.reduceLT, or_self, true_or, or_true, if_true, if_false, and_self, and_true, true_and, not_false_eq_true, not_true_eq_false, show mt_SR_release.2.2 = [] from rfl, am_hd]
    exact ⟨Or.inr ⟨c, a, hc, rfl⟩, w2⟩
  simp only [am_wp, am_stp, am_en, am_as, am_pad, am_nth, am_set, am_st1, am_st2, am_kl, am_kill, am_mem, am_fv, am_tk, am_wt, am_bk, Option.toList, List.cons_append, List.nil_append, Nat.reduceAdd, Nat.reduceEqDiff, Nat.reduceLeDiff, reduceIte, Nat.reduceLT, or_self, true_or, or_true, if_true, if_false, and_self, and_true, true_and, not_false_eq_true, not_true_eq_false]
  refine am_go [17] 7 ?_
  simp only [am_wp, am_stp, am_en, am_as, am_pad, am_nth, am_set, am_st1, am_st2, am_kl, am_kill, am_mem, am_fv, am_tk, am_wt, am_bk, Option.toList, List.cons_append, List.nil_append, Nat.reduceAdd, Nat.reduceEqDiff, Nat.reduceLeDiff, reduceIte, Nat.reduceLT, or_self, true_or, or_true, if_true, if_false, and_self, and_true, true_and, not_false_eq_true, not_true_eq_false, fd_SR_release_5, fd_SR_release_6, fd_SR_release_7, fd_SR_release_10, fd_SR_release_13, fd_SR_release_14, fd_SR_release_15, w2.1.all]
  refine ww_rel_loop (d := d) (P := P) (h := h) ht (fun i g w => ?_) 9 0 g2 rfl w2
  obtain ⟨k1, k2, k3, k4, k5, k6, -⟩ := w.1.lst ht
  refine am_go [] 2 ?_
  simp only [am_wp, am_stp, am_en, am_as, am_pad, am_nth, am_set, am_st1, am_st2, am_kl, am_kill, am_mem, am_fv, am_tk, am_wt, am_bk, Option.toList, List.cons_append, List.nil_append, Nat.reduceAdd, Nat.reduceEqDiff, Nat.reduceLeDiff, reduceIte, Nat.reduceLT, or_self, true_or, or_true, if_true, if_false, and_self, and_true, true_and, not_false_eq_true, not_true_eq_false, fd_SR_release_50, fd_SR_release_51, w.1.all, k1]
  refine am_call (ww_forget w.1 ht) (fun o g1 q => ?_)
  obtain ⟨rfl, w1⟩ := q
  have w1 := (w.trans w1).mono (l := 1) (by omega)
  simp only [am_wp, am_stp, am_en, am_as, am_pad, am_nth, am_set, am_st1, am_st2, am_kl, am_kill, am_mem, am_fv, am_tk, am_wt, am_bk, Option.toList, List.cons_append, List.nil_append, Nat.reduceAdd, Nat.reduceEqDiff, Nat.reduceLeDiff, reduceIte, Nat.reduceLT, or_self, true_or, or_true, if_true, if_false, and_self, and_true, true_and, not_false_eq_true, not_true_eq_false]
  refine am_go [] 6 ?_
  simp only [am_wp, am_stp, am_en, am_as, am_pad, am_nth, am_set, am_st1, am_st2, am_kl, am_kill, am_mem, am_fv, am_tk, am_wt, am_bk, Option.toList, List.cons_append, List.nil_append, Nat.reduceAdd, Nat.reduceEqDiff, Nat.reduceLeDiff, reduceIte, Nat.reduceLT, or_self, true_or, or_true, if_true, if_false, and_self, and_true, true_and, not_false_eq_true, not_true_eq_false, fd_SR_release_54, fd_SR_release_55, fd_SR_release_58, fd_SR_release_61, fd_SR_release_62, fd_SR_release_63, w1.1.all]
  exact ⟨Or.inl ⟨_, rfl⟩, w1⟩
theorem ww_wantsOlder {d P : Nat} {h : am_H} (w : wk P h) : am_Rt nm_pr (d + 1) mi_Fate_wantsOlder [.ref 13] h (fun o h' => b01 o ∧ h' = h) := by
  have w := wp.refl w
  have one : am_Ex nm_pr d mt_Fate_wantsOlder (15, [.ref 13], [], h) (fun o h' => b01 o ∧ h' = h) := by
    refine am_go [] 3 ?_
    simp only [am_wp, am_stp, am_en, am_as, am_pad, am_nth, am_set, am_st1, am_st2, am_kl, am_kill, am_mem, am_fv, am_tk, am_wt, am_bk, Option.toList, List.cons_append, List.nil_append, Nat.reduceAdd, Nat.reduceEqDiff, Nat.reduceLeDiff, reduceIte, Nat.reduceLT, or_self, true_or, or_true, if_true, if_false, and_self, and_true, true_and, not_false_eq_true, not_true_eq_false, fd_Fate_wantsOlder_15, fd_Fate_wantsOlder_16, fd_Fate_wantsOlder_20, w.1.all]
    exact Or.inr rfl
  refine am_in' (d := d) mt_Fate_wantsOlder 1 rfl rfl rfl ?_
  refine am_go [7, 15] 3 ?_
  simp only [am_wp, am_stp, am_en, am_as, am_pad, am_nth, am_set, am_st1, am_st2, am_kl, am_kill, am_mem, am_fv, am_tk, am_wt, am_bk, Option.toList, List.cons_append, List.nil_append, Nat.reduceAdd, Nat.reduceEqDiff, Nat.reduceLeDiff, reduceIte, Nat.reduceLT, or_self, true_or, or_true, if_true, if_false, and_self, and_true, true_and, not_false_eq_true, not_true_eq_false, fd_Fate_wantsOlder_0, fd_Fate_wantsOlder_1, fd_Fate_wantsOlder_4, w.1.all]
  refine wif one ?_
  refine am_go [15, 19] 4 ?_
  simp only [am_wp, am_stp, am_en, am_as, am_pad, am_nth, am_set, am_st1, am_st2, am_kl, am_kill, am_mem, am_fv, am_tk, am_wt, am_bk, Option.toList, List.cons_append, List.nil_append, Nat.reduceAdd, Nat.reduceEqDiff, Nat.reduceLeDiff, reduceIte, Nat.reduceLT, or_self, true_or, or_true, if_true, if_false, and_self, and_true, true_and, not_false_eq_true, not_true_eq_false, fd_Fate_wantsOlder_7, fd_Fate_wantsOlder_8, fd_Fate_wantsOlder_11, fd_Fate_wantsOlder_12, w.1.all]
  refine wif one ?_
  refine am_go [] 2 ?_
  simp only [am_wp, am_stp, am_en, am_as, am_pad, am_nth, am_set, am_st1, am_st2, am_kl, am_kill, am_mem, am_fv, am_tk, am_wt, am_bk, Option.toList, List.cons_append, List.nil_append, Nat.reduceAdd, Nat.reduceEqDiff, Nat.reduceLeDiff, reduceIte, Nat.reduceLT, or_self, true_or, or_true, if_true, if_false, and_self, and_true, true_and, not_false_eq_true, not_true_eq_false, fd_Fate_wantsOlder_19, fd_Fate_wantsOlder_20, w.1.all]
  exact Or.inl rfl
theorem ww_lookUp {d P : Nat} {z : Int64} {h : am_H} (w : wk P h) : am_Rt nm_pr (d + 2) mi_Table_lookUp [.ref 3, .long z, .ref 13] h (fun o h' => o = .inl none ∧ wp P 0 h h') := by
  obtain ⟨n, T, O⟩ := w.tb
  have w := wp.refl w
  obtain ⟨t1, t2, t3, t4, t5, t6, t7, t8, t9, t10, t11, t12, t13, t14⟩ := id T
  refine am_in' (d := d + 1) mt_Table_lookUp 5 rfl rfl rfl ?_
  refine am_go [] 3 ?_
  simp only [am_wp, am_stp, am_en, am_as, am_pad, am_nth, am_set, am_st1, am_st2, am_kl, am_kill, am_mem, am_fv, am_tk, am_wt, am_bk, Option.toList, List.cons_append, List.nil_append, Nat.reduceAdd, Nat.reduceEqDiff, Nat.reduceLeDiff, reduceIte, Nat.reduceLT, or_self, true_or, or_true, if_true, if_false, and_self, and_true, true_and, not_false_eq_true, not_true_eq_false, fd_Table_lookUp_0, fd_Table_lookUp_1, fd_Table_lookUp_2, w.1.all]
  refine am_call (l2_placeOf T O) (fun o g1 q => ?_)
  obtain ⟨p, ⟨p1, -, -⟩, rfl, rfl⟩ := q
  simp only [am_wp, am_stp, am_en, am_as, am_pad, am_nth, am_set, am_st1, am_st2, am_kl, am_kill, am_mem, am_fv, am_tk, am_wt, am_bk, Option.toList, List.cons_append, List.nil_append, Nat.reduceAdd, Nat.reduceEqDiff, Nat.reduceLeDiff, reduceIte, Nat.reduceLT, or_self, true_or, or_true, if_true, if_false, and_self, and_true, true_and, not_false_eq_true, not_true_eq_false]
  refine am_go [] 5 ?_
  simp only [am_wp, am_stp, am_en, am_as, am_pad, am_nth, am_set, am_st1, am_st2, am_kl, am_kill, am_mem, am_fv, am_tk, am_wt, am_bk, Option.toList, List.cons_append, List.nil_append, Nat.reduceAdd, Nat.reduceEqDiff, Nat.reduceLeDiff, reduceIte, Nat.reduceLT, or_self, true_or, or_true, if_true, if_false, and_self, and_true, true_and, not_false_eq_true, not_true_eq_false, fd_Table_lookUp_5, fd_Table_lookUp_7, fd_Table_lookUp_8, fd_Table_lookUp_10, fd_Table_lookUp_11, w.1.all]
  refine am_call (l2_holds T (p := p) (by omega)) (fun o g2 q => ?_)
  obtain ⟨rfl, rfl⟩ := q
  have fin : ∀ g, wp P 0 g2 g → am_Ex nm_pr (d + 1) mt_Table_lookUp (35, [.ref 3, .long z, .retAddr 0, .ref 13, .int (nI p)], [], g) (fun o h' => o = .inl none ∧ wp P 0 g2 h') := fun g w => by
    refine am_go [] 1 ?_
    simp only [am_wp, am_stp, am_en, am_as, am_pad, am_nth, am_set, am_st1, am_st2, am_kl, am_kill, am_mem, am_fv, am_tk, am_wt, am_bk, Option.toList, List.cons_append, List.nil_append, Nat.reduceAdd, Nat.reduceEqDiff, Nat.reduceLeDiff, reduceIte, Nat.reduceLT, or_self, true_or, or_true, if_true, if_false, and_self, and_true, true_and, not_false_eq_true, not_true_eq_false, fd_Table_lookUp_35, w.1.all]
    exact w
  have one0 : ¬ ((1 : Int32) = 0) := by decide
  cases hH : tb_H (am_L g2 4) n p z with
  | false =>
    simp only [am_wp, am_stp, am_en, am_as, am_pad, am_nth, am_set, am_st1, am_st2, am_kl, am_kill, am_mem, am_fv, am_tk, am_wt, am_bk, Option.toList, List.cons_append, List.nil_append, Nat.reduceAdd, Nat.reduceEqDiff, Nat.reduceLeDiff, reduceIte, Nat.reduceLT, or_self, true_or, or_true, if_true, if_false, and_self, and_true, true_and, not_false_eq_true, not_true_eq_false]
    refine am_go [17, 35] 1 ?_
    simp only [am_wp, am_stp, am_en, am_as, am_pad, am_nth, am_set, am_st1, am_st2, am_kl, am_kill, am_mem, am_fv, am_tk, am_wt, am_bk, Option.toList, List.cons_append, List.nil_append, Nat.reduceAdd, Nat.reduceEqDiff, Nat.reduceLeDiff, reduceIte, Nat.reduceLT, or_self, true_or, or_true, if_true, if_false, and_self, and_true, true_and, not_false_eq_true, not_true_eq_false, fd_Table_lookUp_14, w.1.all]
    exact fin _ w
  | true =>
    obtain ⟨h1, h2⟩ := tb_H_t hH
    have i1 := am_inb (c := p) (N := 64) (by omega) (by omega)
    have q1 : (nI p).toNatClampNeg = p := nI_clamp (by omega)
    simp only [am_wp, am_stp, am_en, am_as, am_pad, am_nth, am_set, am_st1, am_st2, am_kl, am_kill, am_mem, am_fv, am_tk, am_wt, am_bk, Option.toList, List.cons_append, List.nil_append, Nat.reduceAdd, Nat.reduceEqDiff, Nat.reduceLeDiff, reduceIte, Nat.reduceLT, or_self, true_or, or_true, if_true, if_false, and_self, and_true, true_and, not_false_eq_true, not_true_eq_false]
    refine am_go [17, 35] 1 ?_
    simp only [am_wp, am_stp, am_en, am_as, am_pad, am_nth, am_set, am_st1, am_st2, am_kl, am_kill, am_mem, am_fv, am_tk, am_wt, am_bk, Option.toList, List.cons_append, List.nil_append, Nat.reduceAdd, Nat.reduceEqDiff, Nat.reduceLeDiff, reduceIte, Nat.reduceLT, or_self, true_or, or_true, if_true, if_false, and_self, and_true, true_and, not_false_eq_true, not_true_eq_false, fd_Table_lookUp_14, w.1.all, one0]
    refine am_go [] 10 ?_
    simp only [am_wp, am_stp, am_en, am_as, am_pad, am_nth, am_set, am_st1, am_st2, am_kl, am_kill, am_mem, am_fv, am_tk, am_wt, am_bk, Option.toList, List.cons_append, List.nil_append, Nat.reduceAdd, Nat.reduceEqDiff, Nat.reduceLeDiff, reduceIte, Nat.reduceLT, or_self, true_or, or_true, if_true, if_false, and_self, and_true, true_and, not_false_eq_true, not_true_eq_false, fd_Table_lookUp_17, fd_Table_lookUp_18, fd_Table_lookUp_19, fd_Table_lookUp_22, fd_Table_lookUp_24, fd_Table_lookUp_25, fd_Table_lookUp_26, fd_Table_lookUp_29, fd_Table_lookUp_31, fd_Table_lookUp_32, w.1.all, i1, q1, t1, t3, t4, t8, t9, t10, t11]
    refine am_call (ww_fate w.1 (Or.inr (Or.inl rfl))) (fun o g3 q => ?_)
    obtain ⟨rfl, w3⟩ := q
    have w3 := (w.trans w3).mono (l := 0) (by omega)
    simp only [am_wp, am_stp, am_en, am_as, am_pad, am_nth, am_set, am_st1, am_st2, am_kl, am_kill, am_mem, am_fv, am_tk, am_wt, am_bk, Option.toList, List.cons_append, List.nil_append, Nat.reduceAdd, Nat.reduceEqDiff, Nat.reduceLeDiff, reduceIte, Nat.reduceLT, or_self, true_or, or_true, if_true, if_false, and_self, and_true, true_and, not_false_eq_true, not_true_eq_false]
    exact fin _ w3
theorem wnI_inj {a b : Nat} (ha : a < 2 ^ 31) (hb : b < 2 ^ 31) (e : nI a = nI b) : a = b := by
  have := congrArg Int32.toNatClampNeg e
  rw [nI_clamp ha, nI_clamp hb] at this
  exact this
/-- a key comes into the sorted keys -/
theorem tb_O_step {n p : Nat} {K : Nat → Int64} {key : Int64} (hn : n ≤ 64) (O : tb_O K n) (hp : tb_P K n key p) (hpl : n < 64 ∨ tb_H K n p key = true) : ta_n n K p key ≤ 64 ∧ tb_O (ta_K n K p key) (ta_n n K p key) ∧ ta_n n K p key ≤ n + 1 := by
  have S := ta_step (n := n) (K := K) (N := fun _ => 2) (V := fun _ => 0) (key := key) (kd := 1) (vl := 0) ⟨hn, O, fun i _ => ⟨Or.inr (Or.inl rfl), fun _ => rfl⟩⟩ (Or.inl rfl) hp hpl
  exact ⟨S.1.1, S.1.2.1, S.2⟩
theorem ww_enter {d P n : Nat} {key : Int64} {kd : Int32} {vl : Int64} {h : am_H} (w : wk P h) (T : tb_S h n) (O : tb_O (am_L h 4) n) (hpl : ∀ p, tb_P (am_L h 4) n key p → n < 64 ∨ tb_H (am_L h 4) n p key = true) : am_Rt nm_pr (d + 2) mi_Table_enter [.ref 3, .long key, .int kd, .long vl] h (fun o h' => o = .inl none ∧ (∃ s, am_I h' 3 4 = nI s ∧ s ≤ n + 1) ∧ wp P 0 h h') := by
  refine am_call (l2_enter T O hpl) (fun o h' q => ?_)
  obtain ⟨p, hp, rfl, f, hQ⟩ := q
  have S := tb_O_step T.2.2.2.2.2.2.2.2.2.2.2.2.2 O hp (hpl p hp)
  have key2 : am_I h' 3 4 = nI (ta_n n (am_L h 4) p key) ∧ am_L h' 4 = ta_K n (am_L h 4) p key := by
    unfold ta_n ta_K
    unfold en_Q at hQ
    cases hH : tb_H (am_L h 4) n p key with
    | true => rw [hH] at hQ; exact ⟨hQ.1.2.2.2.2.2.2.2.2.2.2.2.2.1, hQ.2.1⟩
    | false => rw [hH] at hQ; exact ⟨hQ.1.2.2.2.2.2.2.2.2.2.2.2.2.1, hQ.2.1⟩
  refine ⟨rfl, ⟨_, key2.1, S.2.2⟩, wp.fi w f (fun q hq => ?_) (fun q hq j => ?_) ⟨_, key2.1, S.1, by rw [key2.2]; exact S.2.1⟩⟩
  · simp only [List.mem_cons, List.not_mem_nil, or_false] at hq
    exact Or.inl (by omega)
  · simp only [List.mem_cons, List.not_mem_nil, or_false] at hq
    exact wcell_free (by simp only [List.mem_cons, List.not_mem_nil, or_false]; omega) (by omega)
theorem ww_enterOne {d P : Nat} {key : Int64} {kd : Int32} {vl : Int64} {h : am_H} (w : wk P h) : am_Rt nm_pr (d + 3) mi_SR_enterOne [.ref 2, .long key, .int kd, .long vl] h (wx iany [0] P 1 h) := by
  have w := wp.refl w
  have one0 : ¬ ((1 : Int32) = 0) := by decide
  refine am_in' (d := d + 2) mt_SR_enterOne 6 rfl rfl rfl ?_
  refine am_go [] 2 ?_
  simp only [am_wp, am_stp, am_en, am_as, am_pad, am_nth, am_set, am_st1, am_st2, am_kl, am_kill, am_mem, am_fv, am_tk, am_wt, am_bk, Option.toList, List.cons_append, List.nil_append, Nat.reduceAdd, Nat.reduceEqDiff, Nat.reduceLeDiff, reduceIte, Nat.reduceLT, or_self, true_or, or_true, if_true, if_false, and_self, and_true, true_and, not_false_eq_true, not_true_eq_false, fd_SR_enterOne_0, fd_SR_enterOne_1, w.1.all]
  refine am_call (ww_requireUp w.1) (fun o g1 q => ?_)
  rcases q with ⟨rfl, rfl⟩ | ⟨⟨a, rfl⟩, w1⟩
  rotate_left
  · have w1 := (w.trans w1).mono (l := 1) (by omega)
    simp only [am_wp, am_stp, am_en, am_as, am_pad, am_nth, am_set, am_st1, am_st2, am_kl, am_kill, am_mem, am_fv, am_tk, am_wt, am_bk, Option.toList, List.cons_append, List.nil_append, Nat.reduceAdd, Nat.reduceEqDiff, Nat.reduceLeDiff, reduceIte, Nat.reduceLT, or_self, true_or, or_true, if_true, if_false, and_self, and_true, true_and, not_false_eq_true, not_true_eq_false, show mt_SR_enterOne.2.2 = [] from rfl, am_hd]
    exact ⟨Or.inr ⟨0, a, by simp, rfl⟩, w1⟩
  simp only [am_wp, am_stp, am_en, am_as, am_pad, am_nth, am_set, am_st1, am_st2, am_kl, am_kill, am_mem, am_fv, am_tk, am_wt, am_bk, Option.toList, List.cons_append, List.nil_append, Nat.reduceAdd, Nat.reduceEqDiff, Nat.reduceLeDiff, reduceIte, Nat.reduceLT, or_self, true_or, or_true, if_true, if_false, and_self, and_true, true_and, not_false_eq_true, not_true_eq_false]
  obtain ⟨n, T, O⟩ := w.1.tb
  refine am_go [] 4 ?_
  simp only [am_wp, am_stp, am_en, am_as, am_pad, am_nth, am_set, am_st1, am_st2, am_kl, am_kill, am_mem, am_fv, am_tk, am_wt, am_bk, Option.toList, List.cons_append, List.nil_append, Nat.reduceAdd, Nat.reduceEqDiff, Nat.reduceLeDiff, reduceIte, Nat.reduceLT, or_self, true_or, or_true, if_true, if_false, and_self, and_true, true_and, not_false_eq_true, not_true_eq_false, fd_SR_enterOne_4, fd_SR_enterOne_5, fd_SR_enterOne_8, fd_SR_enterOne_9, w.1.all]
  refine am_call (l2_hasPlaceFor T O) (fun o g2 q => ?_)
  obtain ⟨p, hp, rfl, rfl⟩ := q
  by_cases e : n < 64 ∨ tb_H (am_L g2 4) n p key = true
  · rw [if_pos e]
    simp only [am_wp, am_stp, am_en, am_as, am_pad, am_nth, am_set, am_st1, am_st2, am_kl, am_kill, am_mem, am_fv, am_tk, am_wt, am_bk, Option.toList, List.cons_append, List.nil_append, Nat.reduceAdd, Nat.reduceEqDiff, Nat.reduceLeDiff, reduceIte, Nat.reduceLT, or_self, true_or, or_true, if_true, if_false, and_self, and_true, true_and, not_false_eq_true, not_true_eq_false]
    refine am_go [15, 25] 1 ?_
    simp only [am_wp, am_stp, am_en, am_as, am_pad, am_nth, am_set, am_st1, am_st2, am_kl, am_kill, am_mem, am_fv, am_tk, am_wt, am_bk, Option.toList, List.cons_append, List.nil_append, Nat.reduceAdd, Nat.reduceEqDiff, Nat.reduceLeDiff, reduceIte, Nat.reduceLT, or_self, true_or, or_true, if_true, if_false, and_self, and_true, true_and, not_false_eq_true, not_true_eq_false, fd_SR_enterOne_12, w.1.all, one0]
    refine am_go [] 6 ?_
    simp only [am_wp, am_stp, am_en, am_as, am_pad, am_nth, am_set, am_st1, am_st2, am_kl, am_kill, am_mem, am_fv, am_tk, am_wt, am_bk, Option.toList, List.cons_append, List.nil_append, Nat.reduceAdd, Nat.reduceEqDiff, Nat.reduceLeDiff, reduceIte, Nat.reduceLT, or_self, true_or, or_true, if_true, if_false, and_self, and_true, true_and, not_false_eq_true, not_true_eq_false, fd_SR_enterOne_25, fd_SR_enterOne_26, fd_SR_enterOne_29, fd_SR_enterOne_30, fd_SR_enterOne_31, fd_SR_enterOne_33, w.1.all]
    refine am_call (ww_enter w.1 T O (fun p' hp' => by rw [hp'.uniq hp]; exact e)) (fun o g3 q => ?_)
    obtain ⟨rfl, -, w3⟩ := q
    simp only [am_wp, am_stp, am_en, am_as, am_pad, am_nth, am_set, am_st1, am_st2, am_kl, am_kill, am_mem, am_fv, am_tk, am_wt, am_bk, Option.toList, List.cons_append, List.nil_append, Nat.reduceAdd, Nat.reduceEqDiff, Nat.reduceLeDiff, reduceIte, Nat.reduceLT, or_self, true_or, or_true, if_true, if_false, and_self, and_true, true_and, not_false_eq_true, not_true_eq_false]
    refine am_go [] 4 ?_
    simp only [am_wp, am_stp, am_en, am_as, am_pad, am_nth, am_set, am_st1, am_st2, am_kl, am_kill, am_mem, am_fv, am_tk, am_wt, am_bk, Option.toList, List.cons_append, List.nil_append, Nat.reduceAdd, Nat.reduceEqDiff, Nat.reduceLeDiff, reduceIte, Nat.reduceLT, or_self, true_or, or_true, if_true, if_false, and_self, and_true, true_and, not_false_eq_true, not_true_eq_false, fd_SR_enterOne_36, fd_SR_enterOne_37, fd_SR_enterOne_40, fd_SR_enterOne_43, w3.1.all]
    exact ⟨Or.inl ⟨_, rfl⟩, w3.mono (by omega)⟩
  · rw [if_neg e]
    simp only [am_wp, am_stp, am_en, am_as, am_pad, am_nth, am_set, am_st1, am_st2, am_kl, am_kill, am_mem, am_fv, am_tk, am_wt, am_bk, Option.toList, List.cons_append, List.nil_append, Nat.reduceAdd, Nat.reduceEqDiff, Nat.reduceLeDiff, reduceIte, Nat.reduceLT, or_self, true_or, or_true, if_true, if_false, and_self, and_true, true_and, not_false_eq_true, not_true_eq_false]
    refine am_go [15, 25] 1 ?_
    simp only [am_wp, am_stp, am_en, am_as, am_pad, am_nth, am_set, am_st1, am_st2, am_kl, am_kill, am_mem, am_fv, am_tk, am_wt, am_bk, Option.toList, List.cons_append, List.nil_append, Nat.reduceAdd, Nat.reduceEqDiff, Nat.reduceLeDiff, reduceIte, Nat.reduceLT, or_self, true_or, or_true, if_true, if_false, and_self, and_true, true_and, not_false_eq_true, not_true_eq_false, fd_SR_enterOne_12, w.1.all]
    refine am_go [] 1 ?_
    simp only [am_wp, am_stp, am_en, am_as, am_pad, am_nth, am_set, am_st1, am_st2, am_kl, am_kill, am_mem, am_fv, am_tk, am_wt, am_bk, Option.toList, List.cons_append, List.nil_append, Nat.reduceAdd, Nat.reduceEqDiff, Nat.reduceLeDiff, reduceIte, Nat.reduceLT, or_self, true_or, or_true, if_true, if_false, and_self, and_true, true_and, not_false_eq_true, not_true_eq_false, fd_SR_enterOne_15, w.1.all]
    exact ⟨Or.inr ⟨0, _, by simp, rfl⟩, wp.ex w.1⟩
theorem ww_put {d P : Nat} {key vl : Int64} {h : am_H} (w : wk P h) : am_Rt nm_pr (d + 4) mi_SR_put [.ref 2, .long key, .long vl] h (wx iany [0] P 1 h) := by
  have w := wp.refl w
  refine am_in' (d := d + 3) mt_SR_put 5 rfl rfl rfl ?_
  refine am_go [] 5 ?_
  simp only [am_wp, am_stp, am_en, am_as, am_pad, am_nth, am_set, am_st1, am_st2, am_kl, am_kill, am_mem, am_fv, am_tk, am_wt, am_bk, Option.toList, List.cons_append, List.nil_append, Nat.reduceAdd, Nat.reduceEqDiff, Nat.reduceLeDiff, reduceIte, Nat.reduceLT, or_self, true_or, or_true, if_true, if_false, and_self, and_true, true_and, not_false_eq_true, not_true_eq_false, fd_SR_put_0, fd_SR_put_1, fd_SR_put_2, fd_SR_put_3, fd_SR_put_4, w.1.all]
  refine am_call (ww_enterOne w.1) (fun o g2 q => ?_)
  obtain ⟨⟨t, rfl⟩ | ⟨c, a, hc, rfl⟩, w2⟩ := q
  · simp only [am_wp, am_stp, am_en, am_as, am_pad, am_nth, am_set, am_st1, am_st2, am_kl, am_kill, am_mem, am_fv, am_tk, am_wt, am_bk, Option.toList, List.cons_append, List.nil_append, Nat.reduceAdd, Nat.reduceEqDiff, Nat.reduceLeDiff, reduceIte, Nat.reduceLT, or_self, true_or, or_true, if_true, if_false, and_self, and_true, true_and, not_false_eq_true, not_true_eq_false]
    refine am_go [] 1 ?_
    simp only [am_wp, am_stp, am_en, am_as, am_pad, am_nth, am_set, am_st1, am_st2, am_kl, am_kill, am_mem, am_fv, am_tk, am_wt, am_bk, Option.toList, List.cons_append, List.nil_append, Nat.reduceAdd, Nat.reduceEqDiff, Nat.reduceLeDiff, reduceIte, Nat.reduceLT, or_self, true_or, or_true, if_true, if_false, and_self, and_true, true_and, not_false_eq_true, not_true_eq_false, fd_SR_put_7, w2.1.all]
    exact ⟨Or.inl ⟨_, rfl⟩, w2⟩
  · simp only [am_wp, am_stp, am_en, am_as, am_pad, am_nth, am_set, am_st1, am_st2, am_kl, am_kill, am_mem, am_fv, am_tk, am_wt, am_bk, Option.toList, List.cons_append, List.nil_append, Nat.reduceAdd, Nat.reduceEqDiff, Nat.reduceLeDiff, reduceIte, Nat.reduceLT, or_self, true_or, or_true, if_true, if_false, and_self, and_true, true_and, not_false_eq_true, not_true_eq_false, show mt_SR_put.2.2 = [] from rfl, am_hd]
    exact ⟨Or.inr ⟨c, a, hc, rfl⟩, w2⟩
theorem ww_fold {d P : Nat} {key vl : Int64} {h : am_H} (w : wk P h) : am_Rt nm_pr (d + 4) mi_SR_fold [.ref 2, .long key, .long vl] h (wx iany [0] P 1 h) := by
  have w := wp.refl w
  refine am_in' (d := d + 3) mt_SR_fold 5 rfl rfl rfl ?_
  refine am_go [] 5 ?_
  simp only [am_wp, am_stp, am_en, am_as, am_pad, am_nth, am_set, am_st1, am_st2, am_kl, am_kill, am_mem, am_fv, am_tk, am_wt, am_bk, Option.toList, List.cons_append, List.nil_append, Nat.reduceAdd, Nat.reduceEqDiff, Nat.reduceLeDiff, reduceIte, Nat.reduceLT, or_self, true_or, or_true, if_true, if_false, and_self, and_true, true_and, not_false_eq_true, not_true_eq_false, fd_SR_fold_0, fd_SR_fold_1, fd_SR_fold_2, fd_SR_fold_3, fd_SR_fold_4, w.1.all]
  refine am_call (ww_enterOne w.1) (fun o g2 q => ?_)
  obtain ⟨⟨t, rfl⟩ | ⟨c, a, hc, rfl⟩, w2⟩ := q
  · simp only [am_wp, am_stp, am_en, am_as, am_pad, am_nth, am_set, am_st1, am_st2, am_kl, am_kill, am_mem, am_fv, am_tk, am_wt, am_bk, Option.toList, List.cons_append, List.nil_append, Nat.reduceAdd, Nat.reduceEqDiff, Nat.reduceLeDiff, reduceIte, Nat.reduceLT, or_self, true_or, or_true, if_true, if_false, and_self, and_true, true_and, not_false_eq_true, not_true_eq_false]
    refine am_go [] 1 ?_
    simp only [am_wp, am_stp, am_en, am_as, am_pad, am_nth, am_set, am_st1, am_st2, am_kl, am_kill, am_mem, am_fv, am_tk, am_wt, am_bk, Option.toList, List.cons_append, List.nil_append, Nat.reduceAdd, Nat.reduceEqDiff, Nat.reduceLeDiff, reduceIte, Nat.reduceLT, or_self, true_or, or_true, if_true, if_false, and_self, and_true, true_and, not_false_eq_true, not_true_eq_false, fd_SR_fold_7, w2.1.all]
    exact ⟨Or.inl ⟨_, rfl⟩, w2⟩
  · simp only [am_wp, am_stp, am_en, am_as, am_pad, am_nth, am_set, am_st1, am_st2, am_kl, am_kill, am_mem, am_fv, am_tk, am_wt, am_bk, Option.toList, List.cons_append, List.nil_append, Nat.reduceAdd, Nat.reduceEqDiff, Nat.reduceLeDiff, reduceIte, Nat.reduceLT, or_self, true_or, or_true, if_true, if_false, and_self, and_true, true_and, not_false_eq_true, not_true_eq_false, show mt_SR_fold.2.2 = [] from rfl, am_hd]
    exact ⟨Or.inr ⟨c, a, hc, rfl⟩, w2⟩
theorem ww_remove {d P : Nat} {key : Int64} {h : am_H} (w : wk P h) : am_Rt nm_pr (d + 4) mi_SR_remove [.ref 2, .long key] h (wx iany [0] P 1 h) := by
  have w := wp.refl w
  refine am_in' (d := d + 3) mt_SR_remove 3 rfl rfl rfl ?_
  refine am_go [] 5 ?_
  simp only [am_wp, am_stp, am_en, am_as, am_pad, am_nth, am_set, am_st1, am_st2, am_kl, am_kill, am_mem, am_fv, am_tk, am_wt, am_bk, Option.toList, List.cons_append, List.nil_append, Nat.reduceAdd, Nat.reduceEqDiff, Nat.reduceLeDiff, reduceIte, Nat.reduceLT, or_self, true_or, or_true, if_true, if_false, and_self, and_true, true_and, not_false_eq_true, not_true_eq_false, fd_SR_remove_0, fd_SR_remove_1, fd_SR_remove_2, fd_SR_remove_3, fd_SR_remove_4, w.1.all]
  refine am_call (ww_enterOne w.1) (fun o g2 q => ?_)
  obtain ⟨⟨t, rfl⟩ | ⟨c, a, hc, rfl⟩, w2⟩ := q
  · simp only [am_wp, am_stp, am_en, am_as, am_pad, am_nth, am_set, am_st1, am_st2, am_kl, am_kill, am_mem, am_fv, am_tk, am_wt, am_bk, Option.toList, List.cons_append, List.nil_append, Nat.reduceAdd, Nat.reduceEqDiff, Nat.reduceLeDiff, reduceIte, Nat.reduceLT, or_self, true_or, or_true, if_true, if_false, and_self, and_true, true_and, not_false_eq_true, not_true_eq_false]
    refine am_go [] 1 ?_
    simp only [am_wp, am_stp, am_en, am_as, am_pad, am_nth, am_set, am_st1, am_st2, am_kl, am_kill, am_mem, am_fv, am_tk, am_wt, am_bk, Option.toList, List.cons_append, List.nil_append, Nat.reduceAdd, Nat.reduceEqDiff, Nat.reduceLeDiff, reduceIte, Nat.reduceLT, or_self, true_or, or_true, if_true, if_false, and_self, and_true, true_and, not_false_eq_true, not_true_eq_false, fd_SR_remove_7, w2.1.all]
    exact ⟨Or.inl ⟨_, rfl⟩, w2⟩
  · simp only [am_wp, am_stp, am_en, am_as, am_pad, am_nth, am_set, am_st1, am_st2, am_kl, am_kill, am_mem, am_fv, am_tk, am_wt, am_bk, Option.toList, List.cons_append, List.nil_append, Nat.reduceAdd, Nat.reduceEqDiff, Nat.reduceLeDiff, reduceIte, Nat.reduceLT, or_self, true_or, or_true, if_true, if_false, and_self, and_true, true_and, not_false_eq_true, not_true_eq_false, show mt_SR_remove.2.2 = [] from rfl, am_hd]
    exact ⟨Or.inr ⟨c, a, hc, rfl⟩, w2⟩
/-! many: a flush empties the table, 64 keys fill it again -/
theorem ww_many_loop {d P N : Nat} {kd : Int32} {fr st : Int64} {h : am_H} (hN : N ≤ 1000) : ∀ (m i F : Nat) (key : Int64) (g : am_H), m + i = N → wp P (2 * F) h g → (∃ s, am_I g 3 4 = nI s ∧ s ≤ 64 ∧ 64 * F + s ≤ i + 64) →
    am_Ex nm_pr (d + 8) mt_SR_many (39, [.ref 2, .int kd, .int (nI N), .long fr, .retAddr 0, .long st, .retAddr 0, .long key, .retAddr 0, .int (nI i)], [], g) (wx iany [0, 1] P 40 h)
  | 0, i, F, key, g, hm, w, ⟨s, hs, s64, hF⟩ => by
    have l1 : ¬ nI i < nI N := nI_nlt (by omega) (by omega)
    refine am_go [45, 119] 3 ?_
    simp only [am_wp, am_stp, am_en, am_as, am_pad, am_nth, am_set, am_st1, am_st2, am_kl, am_kill, am_mem, am_fv, am_tk, am_wt, am_bk, Option.toList, List.cons_append, List.nil_append, Nat.reduceAdd, Nat.reduceEqDiff, Nat.reduceLeDiff, reduceIte, Nat.reduceLT, or_self, true_or, or_true, if_true, if_false, and_self, and_true, true_and, not_false_eq_true, not_true_eq_false, fd_SR_many_39, fd_SR_many_41, fd_SR_many_42, w.1.all, l1]
    refine am_go [] 2 ?_
    simp only [am_wp, am_stp, am_en, am_as, am_pad, am_nth, am_set, am_st1, am_st2, am_kl, am_kill, am_mem, am_fv, am_tk, am_wt, am_bk, Option.toList, List.cons_append, List.nil_append, Nat.reduceAdd, Nat.reduceEqDiff, Nat.reduceLeDiff, reduceIte, Nat.reduceLT, or_self, true_or, or_true, if_true, if_false, and_self, and_true, true_and, not_false_eq_true, not_true_eq_false, fd_SR_many_119, fd_SR_many_120, w.1.all]
    exact ⟨Or.inl ⟨_, rfl⟩, w.mono (by omega)⟩
  | m + 1, i, F, key, g, hm, w, ⟨s, hs, s64, hF⟩ => by
    have l1 : nI i < nI N := nI_lt (by omega) (by omega)
    have one0 : ¬ ((1 : Int32) = 0) := by decide
    have ent : ∀ (F n : Nat) (g : am_H), wp P (2 * F) h g → tb_S g n → tb_O (am_L g 4) n → (∀ p, tb_P (am_L g 4) n key p → n < 64 ∨ tb_H (am_L g 4) n p key = true) → 64 * F + n ≤ i + 64 →
        am_Ex nm_pr (d + 8) mt_SR_many (93, [.ref 2, .int kd, .int (nI N), .long fr, .retAddr 0, .long st, .retAddr 0, .long key, .retAddr 0, .int (nI i)], [], g) (wx iany [0, 1] P 40 h) := by
      intro F n g w T O hpl hF
      refine am_go [] 7 ?_
      simp only [am_wp, am_stp, am_en, am_as, am_pad, am_nth, am_set, am_st1, am_st2, am_kl, am_kill, am_mem, am_fv, am_tk, am_wt, am_bk, Option.toList, List.cons_append, List.nil_append, Nat.reduceAdd, Nat.reduceEqDiff, Nat.reduceLeDiff, reduceIte, Nat.reduceLT, or_self, true_or, or_true, if_true, if_false, and_self, and_true, true_and, not_false_eq_true, not_true_eq_false, fd_SR_many_93, fd_SR_many_94, fd_SR_many_97, fd_SR_many_99, fd_SR_many_100, fd_SR_many_102, fd_SR_many_103, w.1.all]
      refine am_call (ww_enter w.1 T O hpl) (fun o g3 q => ?_)
      obtain ⟨rfl, ⟨s', hs', h1'⟩, w3⟩ := q
      have w3 := (w.trans w3).mono (l := 2 * F) (by omega)
      simp only [am_wp, am_stp, am_en, am_as, am_pad, am_nth, am_set, am_st1, am_st2, am_kl, am_kill, am_mem, am_fv, am_tk, am_wt, am_bk, Option.toList, List.cons_append, List.nil_append, Nat.reduceAdd, Nat.reduceEqDiff, Nat.reduceLeDiff, reduceIte, Nat.reduceLT, or_self, true_or, or_true, if_true, if_false, and_self, and_true, true_and, not_false_eq_true, not_true_eq_false]
      refine am_go [39] 6 ?_
      simp only [am_wp, am_stp, am_en, am_as, am_pad, am_nth, am_set, am_st1, am_st2, am_kl, am_kill, am_mem, am_fv, am_tk, am_wt, am_bk, Option.toList, List.cons_append, List.nil_append, Nat.reduceAdd, Nat.reduceEqDiff, Nat.reduceLeDiff, reduceIte, Nat.reduceLT, or_self, true_or, or_true, if_true, if_false, and_self, and_true, true_and, not_false_eq_true, not_true_eq_false, fd_SR_many_106, fd_SR_many_108, fd_SR_many_110, fd_SR_many_111, fd_SR_many_113, fd_SR_many_116, w3.1.all, nI_1]
      obtain ⟨n3, t1, t2, t3⟩ := w3.1.2.2
      have e3 : s' = n3 := wnI_inj (by have := T.2.2.2.2.2.2.2.2.2.2.2.2.2; omega) (by omega) (hs'.symm.trans t1)
      exact ww_many_loop hN m (i + 1) F (key + st) g3 (by omega) w3 ⟨s', hs', by omega, by omega⟩
    obtain ⟨n, T, O⟩ := w.1.tb
    have en : n = s := wnI_inj (by have := T.2.2.2.2.2.2.2.2.2.2.2.2.2; omega) (by omega) (T.2.2.2.2.2.2.2.2.2.2.2.2.1.symm.trans hs)
    subst en
    refine am_go [45, 119] 3 ?_
    simp only [am_wp, am_stp, am_en, am_as, am_pad, am_nth, am_set, am_st1, am_st2, am_kl, am_kill, am_mem, am_fv, am_tk, am_wt, am_bk, Option.toList, List.cons_append, List.nil_append, Nat.reduceAdd, Nat.reduceEqDiff, Nat.reduceLeDiff, reduceIte, Nat.reduceLT, or_self, true_or, or_true, if_true, if_false, and_self, and_true, true_and, not_false_eq_true, not_true_eq_false, fd_SR_many_39, fd_SR_many_41, fd_SR_many_42, w.1.all, l1]
    refine am_go [] 4 ?_
    simp only [am_wp, am_stp, am_en, am_as, am_pad, am_nth, am_set, am_st1, am_st2, am_kl, am_kill, am_mem, am_fv, am_tk, am_wt, am_bk, Option.toList, List.cons_append, List.nil_append, Nat.reduceAdd, Nat.reduceEqDiff, Nat.reduceLeDiff, reduceIte, Nat.reduceLT, or_self, true_or, or_true, if_true, if_false, and_self, and_true, true_and, not_false_eq_true, not_true_eq_false, fd_SR_many_45, fd_SR_many_46, fd_SR_many_49, fd_SR_many_51, w.1.all]
    refine am_call (l2_hasPlaceFor T O) (fun o g2 q => ?_)
    obtain ⟨p, hp, rfl, rfl⟩ := q
    by_cases e : n < 64 ∨ tb_H (am_L g2 4) n p key = true
    · rw [if_pos e]
      simp only [am_wp, am_stp, am_en, am_as, am_pad, am_nth, am_set, am_st1, am_st2, am_kl, am_kill, am_mem, am_fv, am_tk, am_wt, am_bk, Option.toList, List.cons_append, List.nil_append, Nat.reduceAdd, Nat.reduceEqDiff, Nat.reduceLeDiff, reduceIte, Nat.reduceLT, or_self, true_or, or_true, if_true, if_false, and_self, and_true, true_and, not_false_eq_true, not_true_eq_false]
      refine am_go [57, 93] 1 ?_
      simp only [am_wp, am_stp, am_en, am_as, am_pad, am_nth, am_set, am_st1, am_st2, am_kl, am_kill, am_mem, am_fv, am_tk, am_wt, am_bk, Option.toList, List.cons_append, List.nil_append, Nat.reduceAdd, Nat.reduceEqDiff, Nat.reduceLeDiff, reduceIte, Nat.reduceLT, or_self, true_or, or_true, if_true, if_false, and_self, and_true, true_and, not_false_eq_true, not_true_eq_false, fd_SR_many_54, w.1.all, one0]
      exact ent F n g2 w T O (fun p' hp' => by rw [hp'.uniq hp]; exact e) hF
    · rw [if_neg e]
      simp only [am_wp, am_stp, am_en, am_as, am_pad, am_nth, am_set, am_st1, am_st2, am_kl, am_kill, am_mem, am_fv, am_tk, am_wt, am_bk, Option.toList, List.cons_append, List.nil_append, Nat.reduceAdd, Nat.reduceEqDiff, Nat.reduceLeDiff, reduceIte, Nat.reduceLT, or_self, true_or, or_true, if_true, if_false, and_self, and_true, true_and, not_false_eq_true, not_true_eq_false]
      refine am_go [57, 93] 1 ?_
      simp only [am_wp, am_stp, am_en, am_as, am_pad, am_nth, am_set, am_st1, am_st2, am_kl, am_kill, am_mem, am_fv, am_tk, am_wt, am_bk, Option.toList, List.cons_append, List.nil_append, Nat.reduceAdd, Nat.reduceEqDiff, Nat.reduceLeDiff, reduceIte, Nat.reduceLT, or_self, true_or, or_true, if_true, if_false, and_self, and_true, true_and, not_false_eq_true, not_true_eq_false, fd_SR_many_54, w.1.all]
      refine am_go [] 4 ?_
      simp only [am_wp, am_stp, am_en, am_as, am_pad, am_nth, am_set, am_st1, am_st2, am_kl, am_kill, am_mem, am_fv, am_tk, am_wt, am_bk, Option.toList, List.cons_append, List.nil_append, Nat.reduceAdd, Nat.reduceEqDiff, Nat.reduceLeDiff, reduceIte, Nat.reduceLT, or_self, true_or, or_true, if_true, if_false, and_self, and_true, true_and, not_false_eq_true, not_true_eq_false, fd_SR_many_57, fd_SR_many_58, fd_SR_many_61, fd_SR_many_62, w.1.all]
      refine am_call (ww_count w.1 (Or.inl rfl)) (fun o g3 q => ?_)
      obtain ⟨⟨c, hc, rfl⟩, rfl⟩ := q
      simp only [am_wp, am_stp, am_en, am_as, am_pad, am_nth, am_set, am_st1, am_st2, am_kl, am_kill, am_mem, am_fv, am_tk, am_wt, am_bk, Option.toList, List.cons_append, List.nil_append, Nat.reduceAdd, Nat.reduceEqDiff, Nat.reduceLeDiff, reduceIte, Nat.reduceLT, or_self, true_or, or_true, if_true, if_false, and_self, and_true, true_and, not_false_eq_true, not_true_eq_false]
      have out : ∀ g, wp P (2 * F + 2) h g → am_Ex nm_pr (d + 8) mt_SR_many (90, [.ref 2, .int kd, .int (nI N), .long fr, .retAddr 0, .long st, .retAddr 0, .long key, .retAddr 0, .int (nI i)], [], g) (wx iany [0, 1] P 40 h) := by
        intro g w
        refine am_go [] 2 ?_
        simp only [am_wp, am_stp, am_en, am_as, am_pad, am_nth, am_set, am_st1, am_st2, am_kl, am_kill, am_mem, am_fv, am_tk, am_wt, am_bk, Option.toList, List.cons_append, List.nil_append, Nat.reduceAdd, Nat.reduceEqDiff, Nat.reduceLeDiff, reduceIte, Nat.reduceLT, or_self, true_or, or_true, if_true, if_false, and_self, and_true, true_and, not_false_eq_true, not_true_eq_false, fd_SR_many_90, fd_SR_many_92, w.1.all]
        exact ⟨Or.inl ⟨_, rfl⟩, w.mono (by omega)⟩
      have fl : ∀ g, wp P (2 * F + 1) h g → am_Ex nm_pr (d + 8) mt_SR_many (75, [.ref 2, .int kd, .int (nI N), .long fr, .retAddr 0, .long st, .retAddr 0, .long key, .retAddr 0, .int (nI i)], [], g) (wx iany [0, 1] P 40 h) := by
        intro g w
        refine am_go [82, 90] 3 ?_
        simp only [am_wp, am_stp, am_en, am_as, am_pad, am_nth, am_set, am_st1, am_st2, am_kl, am_kill, am_mem, am_fv, am_tk, am_wt, am_bk, Option.toList, List.cons_append, List.nil_append, Nat.reduceAdd, Nat.reduceEqDiff, Nat.reduceLeDiff, reduceIte, Nat.reduceLT, or_self, true_or, or_true, if_true, if_false, and_self, and_true, true_and, not_false_eq_true, not_true_eq_false, fd_SR_many_75, fd_SR_many_76, fd_SR_many_79, w.1.all]
        refine wif ?_ (out _ (w.mono (by omega)))
        refine am_go [] 2 ?_
        simp only [am_wp, am_stp, am_en, am_as, am_pad, am_nth, am_set, am_st1, am_st2, am_kl, am_kill, am_mem, am_fv, am_tk, am_wt, am_bk, Option.toList, List.cons_append, List.nil_append, Nat.reduceAdd, Nat.reduceEqDiff, Nat.reduceLeDiff, reduceIte, Nat.reduceLT, or_self, true_or, or_true, if_true, if_false, and_self, and_true, true_and, not_false_eq_true, not_true_eq_false, fd_SR_many_82, fd_SR_many_83, w.1.all]
        refine am_call (ww_flushTable1 w.1) (fun o g4 q => ?_)
        obtain ⟨⟨x, rfl, hx⟩, w4⟩ := q
        have w4 := (w.trans w4).mono (l := 2 * F + 2) (by omega)
        simp only [am_wp, am_stp, am_en, am_as, am_pad, am_nth, am_set, am_st1, am_st2, am_kl, am_kill, am_mem, am_fv, am_tk, am_wt, am_bk, Option.toList, List.cons_append, List.nil_append, Nat.reduceAdd, Nat.reduceEqDiff, Nat.reduceLeDiff, reduceIte, Nat.reduceLT, or_self, true_or, or_true, if_true, if_false, and_self, and_true, true_and, not_false_eq_true, not_true_eq_false]
        by_cases ex : x = 1
        · refine am_go [90, 93] 2 ?_
          simp only [am_wp, am_stp, am_en, am_as, am_pad, am_nth, am_set, am_st1, am_st2, am_kl, am_kill, am_mem, am_fv, am_tk, am_wt, am_bk, Option.toList, List.cons_append, List.nil_append, Nat.reduceAdd, Nat.reduceEqDiff, Nat.reduceLeDiff, reduceIte, Nat.reduceLT, or_self, true_or, or_true, if_true, if_false, and_self, and_true, true_and, not_false_eq_true, not_true_eq_false, fd_SR_many_86, fd_SR_many_87, w4.1.all, ex]
          obtain ⟨n4, T4, O4⟩ := w4.1.tb
          have e4 : n4 = 0 := wnI_inj (by have := T4.2.2.2.2.2.2.2.2.2.2.2.2.2; omega) (by omega) (T4.2.2.2.2.2.2.2.2.2.2.2.2.1.symm.trans (hx ex))
          subst e4
          exact ent (F + 1) 0 g4 (w4.mono (by omega)) T4 O4 (fun _ _ => Or.inl (by omega)) (by omega)
        · refine am_go [90, 93] 2 ?_
          simp only [am_wp, am_stp, am_en, am_as, am_pad, am_nth, am_set, am_st1, am_st2, am_kl, am_kill, am_mem, am_fv, am_tk, am_wt, am_bk, Option.toList, List.cons_append, List.nil_append, Nat.reduceAdd, Nat.reduceEqDiff, Nat.reduceLeDiff, reduceIte, Nat.reduceLT, or_self, true_or, or_true, if_true, if_false, and_self, and_true, true_and, not_false_eq_true, not_true_eq_false, fd_SR_many_86, fd_SR_many_87, w4.1.all, ex]
          exact out _ w4
      refine am_go [70, 75] 2 ?_
      simp only [am_wp, am_stp, am_en, am_as, am_pad, am_nth, am_set, am_st1, am_st2, am_kl, am_kill, am_mem, am_fv, am_tk, am_wt, am_bk, Option.toList, List.cons_append, List.nil_append, Nat.reduceAdd, Nat.reduceEqDiff, Nat.reduceLeDiff, reduceIte, Nat.reduceLT, or_self, true_or, or_true, if_true, if_false, and_self, and_true, true_and, not_false_eq_true, not_true_eq_false, fd_SR_many_65, fd_SR_many_67, w.1.all]
      refine wif ?_ (fl _ (w.mono (by omega)))
      refine am_go [] 2 ?_
      simp only [am_wp, am_stp, am_en, am_as, am_pad, am_nth, am_set, am_st1, am_st2, am_kl, am_kill, am_mem, am_fv, am_tk, am_wt, am_bk, Option.toList, List.cons_append, List.nil_append, Nat.reduceAdd, Nat.reduceEqDiff, Nat.reduceLeDiff, reduceIte, Nat.reduceLT, or_self, true_or, or_true, if_true, if_false, and_self, and_true, true_and, not_false_eq_true, not_true_eq_false, fd_SR_many_70, fd_SR_many_71, w.1.all]
      refine am_call (ww_mergeRuns w.1) (fun o g5 q => ?_)
      obtain ⟨⟨x, rfl⟩, w5⟩ := q
      have w5 := (w.trans w5).mono (l := 2 * F + 1) (by omega)
      simp only [am_wp, am_stp, am_en, am_as, am_pad, am_nth, am_set, am_st1, am_st2, am_kl, am_kill, am_mem, am_fv, am_tk, am_wt, am_bk, Option.toList, List.cons_append, List.nil_append, Nat.reduceAdd, Nat.reduceEqDiff, Nat.reduceLeDiff, reduceIte, Nat.reduceLT, or_self, true_or, or_true, if_true, if_false, and_self, and_true, true_and, not_false_eq_true, not_true_eq_false]
      refine am_go [75] 1 ?_
      simp only [am_wp, am_stp, am_en, am_as, am_pad, am_nth, am_set, am_st1, am_st2, am_kl, am_kill, am_mem, am_fv, am_tk, am_wt, am_bk, Option.toList, List.cons_append, List.nil_append, Nat.reduceAdd, Nat.reduceEqDiff, Nat.reduceLeDiff, reduceIte, Nat.reduceLT, or_self, true_or, or_true, if_true, if_false, and_self, and_true, true_and, not_false_eq_true, not_true_eq_false, fd_SR_many_74, w5.1.all]
      exact fl _ w5
theorem ww_many {d P : Nat} {kd n : Int32} {fr st : Int64} {h : am_H} (w : wk P h) : am_Rt nm_pr (d + 9) mi_SR_many [.ref 2, .int kd, .int n, .long fr, .long st] h (wx iany [0, 1] P 40 h) := by
  have w := wp.refl w
  refine am_in' (d := d + 8) mt_SR_many 10 rfl rfl rfl ?_
  refine am_go [] 2 ?_
  simp only [am_wp, am_stp, am_en, am_as, am_pad, am_nth, am_set, am_st1, am_st2, am_kl, am_kill, am_mem, am_fv, am_tk, am_wt, am_bk, Option.toList, List.cons_append, List.nil_append, Nat.reduceAdd, Nat.reduceEqDiff, Nat.reduceLeDiff, reduceIte, Nat.reduceLT, or_self, true_or, or_true, if_true, if_false, and_self, and_true, true_and, not_false_eq_true, not_true_eq_false, fd_SR_many_0, fd_SR_many_1, w.1.all]
  refine am_call (ww_requireUp w.1) (fun o g1 q => ?_)
  rcases q with ⟨rfl, rfl⟩ | ⟨⟨a, rfl⟩, w1⟩
  rotate_left
  · have w1 := (w.trans w1).mono (l := 40) (by omega)
    simp only [am_wp, am_stp, am_en, am_as, am_pad, am_nth, am_set, am_st1, am_st2, am_kl, am_kill, am_mem, am_fv, am_tk, am_wt, am_bk, Option.toList, List.cons_append, List.nil_append, Nat.reduceAdd, Nat.reduceEqDiff, Nat.reduceLeDiff, reduceIte, Nat.reduceLT, or_self, true_or, or_true, if_true, if_false, and_self, and_true, true_and, not_false_eq_true, not_true_eq_false, show mt_SR_many.2.2 = [] from rfl, am_hd]
    exact ⟨Or.inr ⟨0, a, by simp, rfl⟩, w1⟩
  simp only [am_wp, am_stp, am_en, am_as, am_pad, am_nth, am_set, am_st1, am_st2, am_kl, am_kill, am_mem, am_fv, am_tk, am_wt, am_bk, Option.toList, List.cons_append, List.nil_append, Nat.reduceAdd, Nat.reduceEqDiff, Nat.reduceLeDiff, reduceIte, Nat.reduceLT, or_self, true_or, or_true, if_true, if_false, and_self, and_true, true_and, not_false_eq_true, not_true_eq_false]
  have bad : am_Ex nm_pr (d + 8) mt_SR_many (23, [.ref 2, .int kd, .int n, .long fr, .retAddr 0, .long st, .retAddr 0, .retAddr 0, .retAddr 0, .retAddr 0], [], g1) (wx iany [0, 1] P 40 g1) := by
    refine am_go [] 1 ?_
    simp only [am_wp, am_stp, am_en, am_as, am_pad, am_nth, am_set, am_st1, am_st2, am_kl, am_kill, am_mem, am_fv, am_tk, am_wt, am_bk, Option.toList, List.cons_append, List.nil_append, Nat.reduceAdd, Nat.reduceEqDiff, Nat.reduceLeDiff, reduceIte, Nat.reduceLT, or_self, true_or, or_true, if_true, if_false, and_self, and_true, true_and, not_false_eq_true, not_true_eq_false, fd_SR_many_23, w.1.all]
    exact ⟨Or.inr ⟨1, _, by simp, rfl⟩, (wp.ex w.1).mono (by omega)⟩
  refine am_go [] 2 ?_
  simp only [am_wp, am_stp, am_en, am_as, am_pad, am_nth, am_set, am_st1, am_st2, am_kl, am_kill, am_mem, am_fv, am_tk, am_wt, am_bk, Option.toList, List.cons_append, List.nil_append, Nat.reduceAdd, Nat.reduceEqDiff, Nat.reduceLeDiff, reduceIte, Nat.reduceLT, or_self, true_or, or_true, if_true, if_false, and_self, and_true, true_and, not_false_eq_true, not_true_eq_false, fd_SR_many_4, fd_SR_many_5, w.1.all]
  refine am_call l2_isKind (fun o g2 q => ?_)
  obtain ⟨rfl, rfl⟩ := q
  simp only [am_wp, am_stp, am_en, am_as, am_pad, am_nth, am_set, am_st1, am_st2, am_kl, am_kill, am_mem, am_fv, am_tk, am_wt, am_bk, Option.toList, List.cons_append, List.nil_append, Nat.reduceAdd, Nat.reduceEqDiff, Nat.reduceLeDiff, reduceIte, Nat.reduceLT, or_self, true_or, or_true, if_true, if_false, and_self, and_true, true_and, not_false_eq_true, not_true_eq_false]
  refine am_go [11, 23] 1 ?_
  simp only [am_wp, am_stp, am_en, am_as, am_pad, am_nth, am_set, am_st1, am_st2, am_kl, am_kill, am_mem, am_fv, am_tk, am_wt, am_bk, Option.toList, List.cons_append, List.nil_append, Nat.reduceAdd, Nat.reduceEqDiff, Nat.reduceLeDiff, reduceIte, Nat.reduceLT, or_self, true_or, or_true, if_true, if_false, and_self, and_true, true_and, not_false_eq_true, not_true_eq_false, fd_SR_many_8, w.1.all]
  refine wif bad ?_
  by_cases e1 : n < 1
  · refine am_go [16, 23] 3 ?_
    simp only [am_wp, am_stp, am_en, am_as, am_pad, am_nth, am_set, am_st1, am_st2, am_kl, am_kill, am_mem, am_fv, am_tk, am_wt, am_bk, Option.toList, List.cons_append, List.nil_append, Nat.reduceAdd, Nat.reduceEqDiff, Nat.reduceLeDiff, reduceIte, Nat.reduceLT, or_self, true_or, or_true, if_true, if_false, and_self, and_true, true_and, not_false_eq_true, not_true_eq_false, fd_SR_many_11, fd_SR_many_12, fd_SR_many_13, w.1.all, e1]
    exact bad
  refine am_go [16, 23] 3 ?_
  simp only [am_wp, am_stp, am_en, am_as, am_pad, am_nth, am_set, am_st1, am_st2, am_kl, am_kill, am_mem, am_fv, am_tk, am_wt, am_bk, Option.toList, List.cons_append, List.nil_append, Nat.reduceAdd, Nat.reduceEqDiff, Nat.reduceLeDiff, reduceIte, Nat.reduceLT, or_self, true_or, or_true, if_true, if_false, and_self, and_true, true_and, not_false_eq_true, not_true_eq_false, fd_SR_many_11, fd_SR_many_12, fd_SR_many_13, w.1.all, e1]
  by_cases e2 : 1000 < n
  · refine am_go [23, 33] 3 ?_
    simp only [am_wp, am_stp, am_en, am_as, am_pad, am_nth, am_set, am_st1, am_st2, am_kl, am_kill, am_mem, am_fv, am_tk, am_wt, am_bk, Option.toList, List.cons_append, List.nil_append, Nat.reduceAdd, Nat.reduceEqDiff, Nat.reduceLeDiff, reduceIte, Nat.reduceLT, or_self, true_or, or_true, if_true, if_false, and_self, and_true, true_and, not_false_eq_true, not_true_eq_false, fd_SR_many_16, fd_SR_many_17, fd_SR_many_20, w.1.all, e2]
    exact bad
  refine am_go [23, 33] 3 ?_
  simp only [am_wp, am_stp, am_en, am_as, am_pad, am_nth, am_set, am_st1, am_st2, am_kl, am_kill, am_mem, am_fv, am_tk, am_wt, am_bk, Option.toList, List.cons_append, List.nil_append, Nat.reduceAdd, Nat.reduceEqDiff, Nat.reduceLeDiff, reduceIte, Nat.reduceLT, or_self, true_or, or_true, if_true, if_false, and_self, and_true, true_and, not_false_eq_true, not_true_eq_false, fd_SR_many_16, fd_SR_many_17, fd_SR_many_20, w.1.all, e2]
  obtain ⟨N, rfl, n1, n2⟩ := nn_1000 e1 e2
  refine am_go [39] 4 ?_
  simp only [am_wp, am_stp, am_en, am_as, am_pad, am_nth, am_set, am_st1, am_st2, am_kl, am_kill, am_mem, am_fv, am_tk, am_wt, am_bk, Option.toList, List.cons_append, List.nil_append, Nat.reduceAdd, Nat.reduceEqDiff, Nat.reduceLeDiff, reduceIte, Nat.reduceLT, or_self, true_or, or_true, if_true, if_false, and_self, and_true, true_and, not_false_eq_true, not_true_eq_false, fd_SR_many_33, fd_SR_many_34, fd_SR_many_36, fd_SR_many_37, w.1.all]
  obtain ⟨s, t1, t2, t3⟩ := w.1.2.2
  exact ww_many_loop n2 N 0 0 fr g2 (by omega) w ⟨s, t1, t2, by omega⟩
