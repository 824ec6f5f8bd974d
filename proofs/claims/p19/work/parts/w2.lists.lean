/-! LISTS OF RUNS, WEAKLY -/
theorem ww_hashOf {d a : Nat} {z : Int64} {h : am_H} (r : ruh h a) : am_Rt nm_pr (d + 1) mi_Run_hashOf [.ref a, .long z] h (fun o h' => (∃ v, o = .inl (some (.long v))) ∧ h' = h) := l2_hashOf r.1
theorem b01_cases {o : am_O} (b : b01 o) : ∃ v : Int32, o = .inl (some (.int v)) ∧ (v = 0 ∨ v = 1) := by
  rcases b with e | e
  · exact ⟨0, e, Or.inl rfl⟩
  · exact ⟨1, e, Or.inr rfl⟩
theorem ww_bars {d a : Nat} {z : Int64} {h : am_H} (r : ruh h a) : am_Rt nm_pr (d + 2) mi_Run_bars [.ref a, .long z] h (fun o h' => b01 o ∧ h' = h) := by
  have o0 : (0 : Int32) = 0 ∨ (0 : Int32) = 1 := by decide
  have o1 : (1 : Int32) = 0 ∨ (1 : Int32) = 1 := by decide
  refine am_in' (d := d + 1) mt_Run_bars 5 rfl rfl rfl ?_
  refine am_go [] 3 ?_
  simp only [am_wp, am_stp, am_en, am_as, am_pad, am_nth, am_set, am_st1, am_st2, am_kl, am_kill, am_mem, am_fv, am_tk, am_wt, am_bk, Option.toList, List.cons_append, List.nil_append, Nat.reduceAdd, Nat.reduceEqDiff, Nat.reduceLeDiff, reduceIte, Nat.reduceLT, or_self, true_or, or_true, if_true, if_false, and_self, and_true, true_and, not_false_eq_true, not_true_eq_false, fd_Run_bars_0, fd_Run_bars_1, fd_Run_bars_2, r.1]
  refine am_call (ww_hashOf r) (fun o h1 q => ?_)
  obtain ⟨⟨v, rfl⟩, rfl⟩ := q
  simp only [am_wp, am_stp, am_en, am_as, am_pad, am_nth, am_set, am_st1, am_st2, am_kl, am_kill, am_mem, am_fv, am_tk, am_wt, am_bk, Option.toList, List.cons_append, List.nil_append, Nat.reduceAdd, Nat.reduceEqDiff, Nat.reduceLeDiff, reduceIte, Nat.reduceLT, or_self, true_or, or_true, if_true, if_false, and_self, and_true, true_and, not_false_eq_true, not_true_eq_false]
  have fin1 : am_Ex nm_pr (d + 1) mt_Run_bars (39, [.ref a, .long z, .retAddr 0, .long v, .retAddr 0], [], h1) (fun o h' => b01 o ∧ h' = h1) := by
    refine am_go [] 4 ?_
    simp only [am_wp, am_stp, am_en, am_as, am_pad, am_nth, am_set, am_st1, am_st2, am_kl, am_kill, am_mem, am_fv, am_tk, am_wt, am_bk, Option.toList, List.cons_append, List.nil_append, Nat.reduceAdd, Nat.reduceEqDiff, Nat.reduceLeDiff, reduceIte, Nat.reduceLT, or_self, true_or, or_true, if_true, if_false, and_self, and_true, true_and, not_false_eq_true, not_true_eq_false, fd_Run_bars_39, fd_Run_bars_40, fd_Run_bars_43, fd_Run_bars_44, o1]
    exact Or.inr rfl
  refine am_go [] 6 ?_
  simp only [am_wp, am_stp, am_en, am_as, am_pad, am_nth, am_set, am_st1, am_st2, am_kl, am_kill, am_mem, am_fv, am_tk, am_wt, am_bk, Option.toList, List.cons_append, List.nil_append, Nat.reduceAdd, Nat.reduceEqDiff, Nat.reduceLeDiff, reduceIte, Nat.reduceLT, or_self, true_or, or_true, if_true, if_false, and_self, and_true, true_and, not_false_eq_true, not_true_eq_false, fd_Run_bars_5, fd_Run_bars_6, fd_Run_bars_7, fd_Run_bars_8, fd_Run_bars_10, fd_Run_bars_11, r.1]
  refine am_call (ww_hasBit r) (fun o h2 q => ?_)
  obtain ⟨b, rfl⟩ := q
  obtain ⟨v1, rfl, -⟩ := b01_cases b
  simp only [am_wp, am_stp, am_en, am_as, am_pad, am_nth, am_set, am_st1, am_st2, am_kl, am_kill, am_mem, am_fv, am_tk, am_wt, am_bk, Option.toList, List.cons_append, List.nil_append, Nat.reduceAdd, Nat.reduceEqDiff, Nat.reduceLeDiff, reduceIte, Nat.reduceLT, or_self, true_or, or_true, if_true, if_false, and_self, and_true, true_and, not_false_eq_true, not_true_eq_false]
  refine am_go [17, 39] 1 ?_
  simp only [am_wp, am_stp, am_en, am_as, am_pad, am_nth, am_set, am_st1, am_st2, am_kl, am_kill, am_mem, am_fv, am_tk, am_wt, am_bk, Option.toList, List.cons_append, List.nil_append, Nat.reduceAdd, Nat.reduceEqDiff, Nat.reduceLeDiff, reduceIte, Nat.reduceLT, or_self, true_or, or_true, if_true, if_false, and_self, and_true, true_and, not_false_eq_true, not_true_eq_false, fd_Run_bars_14]
  refine wif fin1 ?_
  refine am_go [] 5 ?_
  simp only [am_wp, am_stp, am_en, am_as, am_pad, am_nth, am_set, am_st1, am_st2, am_kl, am_kill, am_mem, am_fv, am_tk, am_wt, am_bk, Option.toList, List.cons_append, List.nil_append, Nat.reduceAdd, Nat.reduceEqDiff, Nat.reduceLeDiff, reduceIte, Nat.reduceLT, or_self, true_or, or_true, if_true, if_false, and_self, and_true, true_and, not_false_eq_true, not_true_eq_false, fd_Run_bars_17, fd_Run_bars_18, fd_Run_bars_19, fd_Run_bars_21, fd_Run_bars_22, r.1]
  refine am_call (ww_hasBit r) (fun o h3 q => ?_)
  obtain ⟨b, rfl⟩ := q
  obtain ⟨v2, rfl, -⟩ := b01_cases b
  simp only [am_wp, am_stp, am_en, am_as, am_pad, am_nth, am_set, am_st1, am_st2, am_kl, am_kill, am_mem, am_fv, am_tk, am_wt, am_bk, Option.toList, List.cons_append, List.nil_append, Nat.reduceAdd, Nat.reduceEqDiff, Nat.reduceLeDiff, reduceIte, Nat.reduceLT, or_self, true_or, or_true, if_true, if_false, and_self, and_true, true_and, not_false_eq_true, not_true_eq_false]
  refine am_go [28, 39] 1 ?_
  simp only [am_wp, am_stp, am_en, am_as, am_pad, am_nth, am_set, am_st1, am_st2, am_kl, am_kill, am_mem, am_fv, am_tk, am_wt, am_bk, Option.toList, List.cons_append, List.nil_append, Nat.reduceAdd, Nat.reduceEqDiff, Nat.reduceLeDiff, reduceIte, Nat.reduceLT, or_self, true_or, or_true, if_true, if_false, and_self, and_true, true_and, not_false_eq_true, not_true_eq_false, fd_Run_bars_25]
  refine wif fin1 ?_
  refine am_go [] 5 ?_
  simp only [am_wp, am_stp, am_en, am_as, am_pad, am_nth, am_set, am_st1, am_st2, am_kl, am_kill, am_mem, am_fv, am_tk, am_wt, am_bk, Option.toList, List.cons_append, List.nil_append, Nat.reduceAdd, Nat.reduceEqDiff, Nat.reduceLeDiff, reduceIte, Nat.reduceLT, or_self, true_or, or_true, if_true, if_false, and_self, and_true, true_and, not_false_eq_true, not_true_eq_false, fd_Run_bars_28, fd_Run_bars_29, fd_Run_bars_30, fd_Run_bars_32, fd_Run_bars_33, r.1]
  refine am_call (ww_hasBit r) (fun o h4 q => ?_)
  obtain ⟨b, rfl⟩ := q
  obtain ⟨v3, rfl, -⟩ := b01_cases b
  simp only [am_wp, am_stp, am_en, am_as, am_pad, am_nth, am_set, am_st1, am_st2, am_kl, am_kill, am_mem, am_fv, am_tk, am_wt, am_bk, Option.toList, List.cons_append, List.nil_append, Nat.reduceAdd, Nat.reduceEqDiff, Nat.reduceLeDiff, reduceIte, Nat.reduceLT, or_self, true_or, or_true, if_true, if_false, and_self, and_true, true_and, not_false_eq_true, not_true_eq_false]
  refine am_go [39, 43] 1 ?_
  simp only [am_wp, am_stp, am_en, am_as, am_pad, am_nth, am_set, am_st1, am_st2, am_kl, am_kill, am_mem, am_fv, am_tk, am_wt, am_bk, Option.toList, List.cons_append, List.nil_append, Nat.reduceAdd, Nat.reduceEqDiff, Nat.reduceLeDiff, reduceIte, Nat.reduceLT, or_self, true_or, or_true, if_true, if_false, and_self, and_true, true_and, not_false_eq_true, not_true_eq_false, fd_Run_bars_36]
  refine wif fin1 ?_
  refine am_go [] 2 ?_
  simp only [am_wp, am_stp, am_en, am_as, am_pad, am_nth, am_set, am_st1, am_st2, am_kl, am_kill, am_mem, am_fv, am_tk, am_wt, am_bk, Option.toList, List.cons_append, List.nil_append, Nat.reduceAdd, Nat.reduceEqDiff, Nat.reduceLeDiff, reduceIte, Nat.reduceLT, or_self, true_or, or_true, if_true, if_false, and_self, and_true, true_and, not_false_eq_true, not_true_eq_false, fd_Run_bars_43, fd_Run_bars_44, o0]
  exact Or.inl rfl
/-- a list -/
def wl (t : Nat) : Prop := t = 8 ∨ (40 ≤ t ∧ t < 72 ∧ t % 4 = 0)
theorem wk.lst {P t : Nat} {h : am_H} (w : wk P h) (ht : wl t) : am_kd h t = 6 ∧ am_R h t 0 = t + 1 ∧ am_kd h (t + 1) = 200 ∧ am_ln h (t + 1) = 9 ∧ t + 1 ∈ wk_as ∧ cw t ∧ ∃ n, n ≤ 9 ∧ am_I h t 1 = nI n := by
  have c := (w.2.1 t 1).2.2.2.2.1
  have hs : ∃ n, n ≤ 9 ∧ am_I h t 1 = nI n := by
    have := c ⟨ht, rfl⟩
    exact this
  have e : t = 8 ∨ t = 40 ∨ t = 44 ∨ t = 48 ∨ t = 52 ∨ t = 56 ∨ t = 60 ∨ t = 64 ∨ t = 68 := by unfold wl at ht; omega
  refine ⟨?_, ?_, ?_, ?_, ?_, ?_, hs⟩
  · rcases e with e | e | e | e | e | e | e | e | e <;> subst e <;> exact w.kd _ 6 (by decide)
  · rcases e with e | e | e | e | e | e | e | e | e <;> subst e <;> exact w.R _ 0 _ (by decide)
  · rcases e with e | e | e | e | e | e | e | e | e <;> subst e <;> exact w.kd _ 200 (by decide)
  · rcases e with e | e | e | e | e | e | e | e | e <;> subst e <;> exact w.ln _ 9 (by decide)
  · rcases e with e | e | e | e | e | e | e | e | e <;> subst e <;> decide
  · unfold cw; omega
theorem wcell_size {P t n : Nat} (hn : n ≤ 9) (ht : wl t) : wcell P t 1 (nI n) := by
  unfold wl at ht
  refine ⟨fun q => ?_, fun q => ?_, fun q => ?_, fun q => ?_, fun q => ⟨n, hn, rfl⟩, fun q => ?_, fun q => ?_, fun q => ?_⟩ <;> omega
theorem wcell_list {P t j : Nat} {v : Int32} (ht : wl t) (hj : j ≠ 1) : wcell P t j v := by
  unfold wl at ht
  refine ⟨fun q => ?_, fun q => ?_, fun q => ?_, fun q => ?_, fun q => ?_, fun q => ?_, fun q => ?_, fun q => ?_⟩ <;> omega
theorem ww_count_loop {d P t : Nat} {L : Int32} {h : am_H} (w : wk P h) (ht : wl t) : ∀ (m c : Nat), m + c = 9 →
    am_Ex nm_pr d mt_RunList_countUpTo (2, [.ref t, .int L, .int (nI c)], [], h) (fun o h' => (∃ n, n ≤ 9 ∧ o = .inl (some (.int (nI n)))) ∧ h' = h)
  | 0, c, hm => by
    obtain ⟨k1, k2, k3, k4, k5, k6, n, hn, k7⟩ := w.lst ht
    have e : c = 9 := by omega
    subst e
    have l1 : ¬ nI 9 < nI n := nI_nlt hn (by omega)
    refine am_go [10] 6 ?_
    simp only [am_wp, am_stp, am_en, am_as, am_pad, am_nth, am_set, am_st1, am_st2, am_kl, am_kill, am_mem, am_fv, am_tk, am_wt, am_bk, Option.toList, List.cons_append, List.nil_append, Nat.reduceAdd, Nat.reduceEqDiff, Nat.reduceLeDiff, reduceIte, Nat.reduceLT, or_self, true_or, or_true, if_true, if_false, and_self, and_true, true_and, not_false_eq_true, not_true_eq_false, fd_RunList_countUpTo_2, fd_RunList_countUpTo_3, fd_RunList_countUpTo_4, fd_RunList_countUpTo_7, fd_RunList_countUpTo_35, fd_RunList_countUpTo_36, k1, k7, l1]
    exact ⟨9, by omega, rfl⟩
  | m + 1, c, hm => by
    obtain ⟨k1, k2, k3, k4, k5, k6, n, hn, k7⟩ := w.lst ht
    have fin : am_Ex nm_pr d mt_RunList_countUpTo (35, [.ref t, .int L, .int (nI c)], [], h) (fun o h' => (∃ n, n ≤ 9 ∧ o = .inl (some (.int (nI n)))) ∧ h' = h) := by
      refine am_go [] 2 ?_
      simp only [am_wp, am_stp, am_en, am_as, am_pad, am_nth, am_set, am_st1, am_st2, am_kl, am_kill, am_mem, am_fv, am_tk, am_wt, am_bk, Option.toList, List.cons_append, List.nil_append, Nat.reduceAdd, Nat.reduceEqDiff, Nat.reduceLeDiff, reduceIte, Nat.reduceLT, or_self, true_or, or_true, if_true, if_false, and_self, and_true, true_and, not_false_eq_true, not_true_eq_false, fd_RunList_countUpTo_35, fd_RunList_countUpTo_36]
      exact ⟨c, by omega, rfl⟩
    have l9 : nI c < 9 := nI_lt (b := 9) (by omega) (by decide)
    have n1 : (200 ≤ 200 ∧ 200 < 204) := by decide
    have i1 := am_inb (c := c) (N := 9) (by omega) (by omega)
    have q1 : (nI c).toNatClampNeg = c := nI_clamp (by omega)
    have r := w.ru (t + 1) c k5 (by omega)
    refine am_go [10, 35] 4 ?_
    simp only [am_wp, am_stp, am_en, am_as, am_pad, am_nth, am_set, am_st1, am_st2, am_kl, am_kill, am_mem, am_fv, am_tk, am_wt, am_bk, Option.toList, List.cons_append, List.nil_append, Nat.reduceAdd, Nat.reduceEqDiff, Nat.reduceLeDiff, reduceIte, Nat.reduceLT, or_self, true_or, or_true, if_true, if_false, and_self, and_true, true_and, not_false_eq_true, not_true_eq_false, fd_RunList_countUpTo_2, fd_RunList_countUpTo_3, fd_RunList_countUpTo_4, fd_RunList_countUpTo_7, k1, k7]
    refine wif ?_ fin
    refine am_go [35, 29] 10 ?_
    simp only [am_wp, am_stp, am_en, am_as, am_pad, am_nth, am_set, am_st1, am_st2, am_kl, am_kill, am_mem, am_fv, am_tk, am_wt, am_bk, Option.toList, List.cons_append, List.nil_append, Nat.reduceAdd, Nat.reduceEqDiff, Nat.reduceLeDiff, reduceIte, Nat.reduceLT, or_self, true_or, or_true, if_true, if_false, and_self, and_true, true_and, not_false_eq_true, not_true_eq_false, fd_RunList_countUpTo_10, fd_RunList_countUpTo_11, fd_RunList_countUpTo_13, fd_RunList_countUpTo_16, fd_RunList_countUpTo_17, fd_RunList_countUpTo_20, fd_RunList_countUpTo_21, fd_RunList_countUpTo_22, fd_RunList_countUpTo_25, fd_RunList_countUpTo_26, l9, k1, k2, k3, k4, n1, i1, q1, r.1]
    refine wif fin ?_
    refine am_go [2] 2 ?_
    simp only [am_wp, am_stp, am_en, am_as, am_pad, am_nth, am_set, am_st1, am_st2, am_kl, am_kill, am_mem, am_fv, am_tk, am_wt, am_bk, Option.toList, List.cons_append, List.nil_append, Nat.reduceAdd, Nat.reduceEqDiff, Nat.reduceLeDiff, reduceIte, Nat.reduceLT, or_self, true_or, or_true, if_true, if_false, and_self, and_true, true_and, not_false_eq_true, not_true_eq_false, fd_RunList_countUpTo_29, fd_RunList_countUpTo_32, nI_1]
    exact ww_count_loop w ht m (c + 1) (by omega)
theorem ww_count {d P t : Nat} {L : Int32} {h : am_H} (w : wk P h) (ht : wl t) : am_Rt nm_pr (d + 1) mi_RunList_countUpTo [.ref t, .int L] h (fun o h' => (∃ n, n ≤ 9 ∧ o = .inl (some (.int (nI n)))) ∧ h' = h) := by
  refine am_in' mt_RunList_countUpTo 3 rfl rfl rfl ?_
  refine am_go [2] 2 ?_
  simp only [am_wp, am_stp, am_en, am_as, am_pad, am_nth, am_set, am_st1, am_st2, am_kl, am_kill, am_mem, am_fv, am_tk, am_wt, am_bk, Option.toList, List.cons_append, List.nil_append, Nat.reduceAdd, Nat.reduceEqDiff, Nat.reduceLeDiff, reduceIte, Nat.reduceLT, or_self, true_or, or_true, if_true, if_false, and_self, and_true, true_and, not_false_eq_true, not_true_eq_false, fd_RunList_countUpTo_0, fd_RunList_countUpTo_1]
  exact ww_count_loop w ht 9 0 rfl
theorem ww_forget {d P t : Nat} {h : am_H} (w : wk P h) (ht : wl t) : am_Rt nm_pr (d + 1) mi_RunList_forget [.ref t] h (fun o h' => o = .inl none ∧ wp P 0 h h') := by
  obtain ⟨k1, k2, k3, k4, k5, k6, n, hn, k7⟩ := w.lst ht
  have t3 : t ≠ 3 := by unfold wl at ht; omega
  refine am_in' mt_RunList_forget 1 rfl rfl rfl ?_
  refine am_go [] 8 ?_
  simp only [am_wp, am_stp, am_en, am_as, am_pad, am_nth, am_set, am_st1, am_st2, am_kl, am_kill, am_mem, am_fv, am_tk, am_wt, am_bk, Option.toList, List.cons_append, List.nil_append, Nat.reduceAdd, Nat.reduceEqDiff, Nat.reduceLeDiff, reduceIte, Nat.reduceLT, or_self, true_or, or_true, if_true, if_false, and_self, and_true, true_and, not_false_eq_true, not_true_eq_false, fd_RunList_forget_0, fd_RunList_forget_1, fd_RunList_forget_2, fd_RunList_forget_5, fd_RunList_forget_6, fd_RunList_forget_7, fd_RunList_forget_10, hx_nx_sI, hx_ce_sI, hx_sl_sI, hx_kd_sI, hx_ln_sI, hx_I_sI, hx_L_sI, hx_R_sI, hx_nx_sL, hx_ce_sL, hx_sl_sL, hx_kd_sL, hx_ln_sL, hx_I_sL, hx_L_sL, hx_R_sL, hx_nx_sR, hx_ce_sR, hx_sl_sR, hx_kd_sR, hx_ln_sR, hx_I_sR, hx_L_sR, hx_R_sR, hx_nx_al, hx_ce_al, hx_sl_al, hx_kd_al, hx_ln_al, hx_I_al, hx_L_al, hx_R_al, hx_nx_row, hx_ce_row, hx_sl_row, hx_kd_row, hx_ln_row, hx_I_row, hx_L_row, hx_R_row, hx_nx_mk, hx_kd_mk, hx_ln_mk, hx_I_mk, hx_L_mk, hx_R_mk, k1]
  exact ((wp.refl w).sI k6 (fun e => absurd e t3) (wcell_list ht (by decide))).sI k6 (fun e => absurd e t3) (wcell_size (n := 0) (by omega) ht)
theorem ww_putLast {d P t a : Nat} {h : am_H} (w : wk P h) (ht : wl t) (r : ruh h a) : am_Rt nm_pr (d + 1) mi_RunList_putLast [.ref t, .ref a] h (fun o h' => o = .inl none ∧ wp P 0 h h') := by
  obtain ⟨k1, k2, k3, k4, k5, k6, n, hn, k7⟩ := w.lst ht
  have t3 : t ≠ 3 := by unfold wl at ht; omega
  have n1 : (200 ≤ 200 ∧ 200 < 204) := by decide
  have tne : ¬ t = a := fun e => by have := r.1; rw [← e, k1] at this; exact absurd this (by decide)
  refine am_in' mt_RunList_putLast 2 rfl rfl rfl ?_
  by_cases h9 : n < 9
  · have l9 : nI n < 9 := nI_lt (b := 9) h9 (by decide)
    have i1 := am_inb (c := n) (N := 9) (by omega) (by omega)
    have q1 : (nI n).toNatClampNeg = n := nI_clamp (by omega)
    refine am_go [9, 10] 4 ?_
    simp only [am_wp, am_stp, am_en, am_as, am_pad, am_nth, am_set, am_st1, am_st2, am_kl, am_kill, am_mem, am_fv, am_tk, am_wt, am_bk, Option.toList, List.cons_append, List.nil_append, Nat.reduceAdd, Nat.reduceEqDiff, Nat.reduceLeDiff, reduceIte, Nat.reduceLT, or_self, true_or, or_true, if_true, if_false, and_self, and_true, true_and, not_false_eq_true, not_true_eq_false, fd_RunList_putLast_0, fd_RunList_putLast_1, fd_RunList_putLast_4, fd_RunList_putLast_6, k1, k7, l9]
    refine am_go [] 6 ?_
    simp only [am_wp, am_stp, am_en, am_as, am_pad, am_nth, am_set, am_st1, am_st2, am_kl, am_kill, am_mem, am_fv, am_tk, am_wt, am_bk, Option.toList, List.cons_append, List.nil_append, Nat.reduceAdd, Nat.reduceEqDiff, Nat.reduceLeDiff, reduceIte, Nat.reduceLT, or_self, true_or, or_true, if_true, if_false, and_self, and_true, true_and, not_false_eq_true, not_true_eq_false, fd_RunList_putLast_10, fd_RunList_putLast_11, fd_RunList_putLast_14, fd_RunList_putLast_15, fd_RunList_putLast_18, fd_RunList_putLast_19, k1, k2, k3, k4, k7, n1, i1, q1, r.1]
    have w1 := (wp.refl w).sR (i := n) (b := a) k5 r
    have r1 := w1.2.ru r
    have e1 : am_I (am_sR h (t + 1) n a) t 1 = nI n := k7
    generalize am_sR h (t + 1) n a = g at *
    refine am_go [] 6 ?_
    simp only [am_wp, am_stp, am_en, am_as, am_pad, am_nth, am_set, am_st1, am_st2, am_kl, am_kill, am_mem, am_fv, am_tk, am_wt, am_bk, Option.toList, List.cons_append, List.nil_append, Nat.reduceAdd, Nat.reduceEqDiff, Nat.reduceLeDiff, reduceIte, Nat.reduceLT, or_self, true_or, or_true, if_true, if_false, and_self, and_true, true_and, not_false_eq_true, not_true_eq_false, fd_RunList_putLast_20, fd_RunList_putLast_21, fd_RunList_putLast_22, fd_RunList_putLast_25, fd_RunList_putLast_26, fd_RunList_putLast_27, r1.1]
    have w2 := w1.runI (j := 8) (v := am_I g a 8 + 1) r1
    have e2 : am_I (am_sI g a 8 (am_I g a 8 + 1)) t 1 = nI n := by rw [hx_I_sI, if_neg tne]; exact e1
    generalize am_sI g a 8 (am_I g a 8 + 1) = g2 at *
    have j1 := (w2.1.lst ht).1
    refine am_go [] 7 ?_
    simp only [am_wp, am_stp, am_en, am_as, am_pad, am_nth, am_set, am_st1, am_st2, am_kl, am_kill, am_mem, am_fv, am_tk, am_wt, am_bk, Option.toList, List.cons_append, List.nil_append, Nat.reduceAdd, Nat.reduceEqDiff, Nat.reduceLeDiff, reduceIte, Nat.reduceLT, or_self, true_or, or_true, if_true, if_false, and_self, and_true, true_and, not_false_eq_true, not_true_eq_false, fd_RunList_putLast_30, fd_RunList_putLast_31, fd_RunList_putLast_32, fd_RunList_putLast_35, fd_RunList_putLast_36, fd_RunList_putLast_37, fd_RunList_putLast_40, j1, e2, nI_1]
    exact w2.sI k6 (fun e => absurd e t3) (wcell_size (by omega) ht)
  · have l9 : ¬ nI n < 9 := nI_nlt (b := 9) (by omega) (by omega)
    refine am_go [10] 5 ?_
    simp only [am_wp, am_stp, am_en, am_as, am_pad, am_nth, am_set, am_st1, am_st2, am_kl, am_kill, am_mem, am_fv, am_tk, am_wt, am_bk, Option.toList, List.cons_append, List.nil_append, Nat.reduceAdd, Nat.reduceEqDiff, Nat.reduceLeDiff, reduceIte, Nat.reduceLT, or_self, true_or, or_true, if_true, if_false, and_self, and_true, true_and, not_false_eq_true, not_true_eq_false, fd_RunList_putLast_0, fd_RunList_putLast_1, fd_RunList_putLast_4, fd_RunList_putLast_6, fd_RunList_putLast_9, k1, k7, l9]
    exact wp.refl w
theorem ww_putFirst {d P a : Nat} {h : am_H} (w : wk P h) (r : ruh h a) : am_Rt nm_pr (d + 1) mi_RunList_putFirst [.ref 8, .ref a] h (fun o h' => o = .inl none ∧ wp P 0 h h') := by
  have ht : wl 8 := Or.inl rfl
  obtain ⟨k1, k2, k3, k4, k5, k6, n, hn, k7⟩ := w.lst ht
  by_cases h9 : n < 9
  · have a8 : a ≠ 8 := fun e => by have := r.1; rw [e, k1] at this; exact absurd this (by decide)
    have a9 : a ≠ 9 := fun e => by have := r.1; rw [e, k3] at this; exact absurd this (by decide)
    refine am_call (l2_putFirst k1 k2 k3 k4 k7 h9 (fun i hi => (w.ru 9 i k5 (by omega)).1) r.1 ⟨a8, a9⟩) (fun o h' q => ⟨q.1, ?_⟩)
    obtain ⟨-, f, q1, q2, q3, q4, q5, q6, q7⟩ := q
    obtain ⟨f1, f2, f3, f4, f5, f6, f7, f8⟩ := f
    obtain ⟨w1, w2, w3⟩ := id w
    have a3 : a ≠ 3 := fun e => by have := w.kd 3 10 (by decide); rw [← e, r.1] at this; exact absurd this (by decide)
    have hR : ∀ q, q ≠ 9 → am_R h' q = am_R h q := fun q hq => by
      by_cases e8 : q = 8
      · rw [e8]; exact q2
      by_cases ea : q = a
      · rw [ea]; exact q5
      exact f8 q (by simp [e8, hq, ea])
    have hR9 : ∀ i, i < 9 → ruh h (am_R h' 9 i) := fun i hi => by
      rw [q3]
      show ruh h (if i = 0 then a else sh_f (am_R h 9) 0 n i)
      by_cases e : i = 0
      · rw [if_pos e]; exact r
      · rw [if_neg e]
        unfold sh_f
        split
        · exact w.ru 9 _ k5 (by omega)
        · exact w.ru 9 _ k5 (by omega)
    have ws : ws0 P (am_kd h') (am_ln h') (am_R h') (am_nx h') := by
      rw [f1, f4, f5]
      exact ws0.sR w1 k5 hR hR9
    refine ⟨⟨ws, fun b j => ?_, ?_⟩, fun b hb => ?_, by omega, by omega, by omega, fun b kb rb => ?_⟩
    · by_cases eb : b = 8
      · by_cases ej : j = 1
        · rw [eb, ej, q1]; exact wcell_size (by omega) ht
        · rw [eb]; exact wcell_list ht ej
      by_cases ea : b = a
      · rw [ea]; exact w.run r.1 j _
      by_cases e9 : b = 9
      · rw [e9, q6]; exact w2 9 j
      · rw [f6 b (by simp [eb, e9, ea])]; exact w2 b j
    · unfold wt
      rw [q7, f6 3 (by simp; exact fun e => a3 e.symm)]
      exact w3
    · have ra := r.2.2.2.1
      have hn : b ∉ [8, 9, a] := by
        unfold cw at ra
        simp
        omega
      exact ⟨by rw [f4], by rw [f5], f6 b hn, f7 b hn, hR b (by omega)⟩
    · have n9 : b ≠ 9 := fun e => by rw [e, k3] at kb; exact absurd kb (by decide)
      rw [f1, f4, f5]
      exact rb.up (fun _ _ => rfl) (fun _ _ => rfl) (by rw [hR b n9]) (Nat.le_refl _)
  · have l9 : ¬ nI n < 9 := nI_nlt (b := 9) (by omega) (by omega)
    refine am_in' mt_RunList_putFirst 3 rfl rfl rfl ?_
    refine am_go [10] 5 ?_
    simp only [am_wp, am_stp, am_en, am_as, am_pad, am_nth, am_set, am_st1, am_st2, am_kl, am_kill, am_mem, am_fv, am_tk, am_wt, am_bk, Option.toList, List.cons_append, List.nil_append, Nat.reduceAdd, Nat.reduceEqDiff, Nat.reduceLeDiff, reduceIte, Nat.reduceLT, or_self, true_or, or_true, if_true, if_false, and_self, and_true, true_and, not_false_eq_true, not_true_eq_false, fd_RunList_putFirst_0, fd_RunList_putFirst_1, fd_RunList_putFirst_4, fd_RunList_putFirst_6, fd_RunList_putFirst_9, k1, k7, l9]
    exact wp.refl w
