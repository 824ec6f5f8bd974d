/-! THE STREAMS, WEAKLY, 3 -/
theorem one_lt {v : Int32} (h : 1 < v) : ∃ n, n < 2147483647 ∧ v = nI (n + 1) := by
  have a1 : (1 : Int32).toInt = 1 := by decide
  rw [Int32.lt_iff_toInt_lt, a1] at h
  have hb := Int32.toInt_lt v
  refine ⟨v.toInt.toNat - 1, by omega, ?_⟩
  rw [← Int32.toInt_inj]
  show v.toInt = (Int32.ofNat (v.toInt.toNat - 1 + 1)).toInt
  rw [Int32.toInt_ofNat_of_lt (by omega)]
  omega
theorem ww_start_loop {d P t a : Nat} {z : Int64} {h : am_H} (h1 : 30 ≤ t) (h2 : t ≤ 39) : ∀ (m : Nat) (g : am_H), (1 < am_I g t 7 → am_I g t 7 = nI m ∧ m < 2147483648) → wp P 0 h g →
    am_Ex nm_pr (d + 2) mt_RunStream_start (21, [.ref t, .ref a, .long z, .retAddr 0], [], g) (fun o h' => o = .inl none ∧ wp P 0 h h')
  | m, g, hm, w => by
    obtain ⟨kt, r4, r5⟩ := w.1.st h1 h2
    have k21 := w.1.kd 21 9 (by decide)
    have fin : ∀ g', wp P 0 h g' → am_Ex nm_pr (d + 2) mt_RunStream_start (79, [.ref t, .ref a, .long z, .retAddr 0], [], g') (fun o h' => o = .inl none ∧ wp P 0 h h') := fun g' w' => by
      refine am_go [] 2 ?_
      simp only [am_wp, am_stp, am_en, am_as, am_pad, am_nth, am_set, am_st1, am_st2, am_kl, am_kill, am_mem, am_fv, am_tk, am_wt, am_bk, Option.toList, List.cons_append, List.nil_append, Nat.reduceAdd, Nat.reduceEqDiff, Nat.reduceLeDiff, reduceIte, Nat.reduceLT, or_self, true_or, or_true, if_true, if_false, and_self, and_true, true_and, not_false_eq_true, not_true_eq_false, fd_RunStream_start_79]
      exact w'
    refine am_go [29, 79] 4 ?_
    simp only [am_wp, am_stp, am_en, am_as, am_pad, am_nth, am_set, am_st1, am_st2, am_kl, am_kill, am_mem, am_fv, am_tk, am_wt, am_bk, Option.toList, List.cons_append, List.nil_append, Nat.reduceAdd, Nat.reduceEqDiff, Nat.reduceLeDiff, reduceIte, Nat.reduceLT, or_self, true_or, or_true, if_true, if_false, and_self, and_true, true_and, not_false_eq_true, not_true_eq_false, fd_RunStream_start_21, fd_RunStream_start_22, fd_RunStream_start_25, fd_RunStream_start_26, kt]
    by_cases e : 1 < am_I g t 7
    · obtain ⟨em, hm2⟩ := hm e
      simp only [e, am_wp, am_stp, am_en, am_as, am_pad, am_nth, am_set, am_st1, am_st2, am_kl, am_kill, am_mem, am_fv, am_tk, am_wt, am_bk, Option.toList, List.cons_append, List.nil_append, Nat.reduceAdd, Nat.reduceEqDiff, Nat.reduceLeDiff, reduceIte, Nat.reduceLT, or_self, true_or, or_true, if_true, if_false, and_self, and_true, true_and, not_false_eq_true, not_true_eq_false]
      refine am_go [] 7 ?_
      simp only [am_wp, am_stp, am_en, am_as, am_pad, am_nth, am_set, am_st1, am_st2, am_kl, am_kill, am_mem, am_fv, am_tk, am_wt, am_bk, Option.toList, List.cons_append, List.nil_append, Nat.reduceAdd, Nat.reduceEqDiff, Nat.reduceLeDiff, reduceIte, Nat.reduceLT, or_self, true_or, or_true, if_true, if_false, and_self, and_true, true_and, not_false_eq_true, not_true_eq_false, fd_RunStream_start_29, fd_RunStream_start_30, fd_RunStream_start_33, fd_RunStream_start_34, fd_RunStream_start_37, fd_RunStream_start_38, fd_RunStream_start_41, kt, r5, k21]
      refine am_call (ww_after w.1) (fun o g1 q => ?_)
      obtain ⟨⟨x, rfl⟩, rfl⟩ := q
      simp only [am_wp, am_stp, am_en, am_as, am_pad, am_nth, am_set, am_st1, am_st2, am_kl, am_kill, am_mem, am_fv, am_tk, am_wt, am_bk, Option.toList, List.cons_append, List.nil_append, Nat.reduceAdd, Nat.reduceEqDiff, Nat.reduceLeDiff, reduceIte, Nat.reduceLT, or_self, true_or, or_true, if_true, if_false, and_self, and_true, true_and, not_false_eq_true, not_true_eq_false]
      refine am_go [] 2 ?_
      simp only [am_wp, am_stp, am_en, am_as, am_pad, am_nth, am_set, am_st1, am_st2, am_kl, am_kill, am_mem, am_fv, am_tk, am_wt, am_bk, Option.toList, List.cons_append, List.nil_append, Nat.reduceAdd, Nat.reduceEqDiff, Nat.reduceLeDiff, reduceIte, Nat.reduceLT, or_self, true_or, or_true, if_true, if_false, and_self, and_true, true_and, not_false_eq_true, not_true_eq_false, fd_RunStream_start_44, fd_RunStream_start_45, k21]
      refine am_call (ww_beginsAbove w.1) (fun o g2 q => ?_)
      obtain ⟨b, rfl⟩ := q
      obtain ⟨b, rfl, hb⟩ := b01_cases b
      simp only [am_wp, am_stp, am_en, am_as, am_pad, am_nth, am_set, am_st1, am_st2, am_kl, am_kill, am_mem, am_fv, am_tk, am_wt, am_bk, Option.toList, List.cons_append, List.nil_append, Nat.reduceAdd, Nat.reduceEqDiff, Nat.reduceLeDiff, reduceIte, Nat.reduceLT, or_self, true_or, or_true, if_true, if_false, and_self, and_true, true_and, not_false_eq_true, not_true_eq_false]
      refine am_go [51, 79] 1 ?_
      simp only [am_wp, am_stp, am_en, am_as, am_pad, am_nth, am_set, am_st1, am_st2, am_kl, am_kill, am_mem, am_fv, am_tk, am_wt, am_bk, Option.toList, List.cons_append, List.nil_append, Nat.reduceAdd, Nat.reduceEqDiff, Nat.reduceLeDiff, reduceIte, Nat.reduceLT, or_self, true_or, or_true, if_true, if_false, and_self, and_true, true_and, not_false_eq_true, not_true_eq_false, fd_RunStream_start_48]
      refine wif ?_ (fin _ w)
      refine am_go [] 6 ?_
      simp only [am_wp, am_stp, am_en, am_as, am_pad, am_nth, am_set, am_st1, am_st2, am_kl, am_kill, am_mem, am_fv, am_tk, am_wt, am_bk, Option.toList, List.cons_append, List.nil_append, Nat.reduceAdd, Nat.reduceEqDiff, Nat.reduceLeDiff, reduceIte, Nat.reduceLT, or_self, true_or, or_true, if_true, if_false, and_self, and_true, true_and, not_false_eq_true, not_true_eq_false, fd_RunStream_start_51, fd_RunStream_start_52, fd_RunStream_start_53, fd_RunStream_start_56, fd_RunStream_start_57, fd_RunStream_start_60, kt, r5, k21]
      refine am_call (ww_after w.1) (fun o g3 q => ?_)
      obtain ⟨⟨y, rfl⟩, rfl⟩ := q
      simp only [am_wp, am_stp, am_en, am_as, am_pad, am_nth, am_set, am_st1, am_st2, am_kl, am_kill, am_mem, am_fv, am_tk, am_wt, am_bk, Option.toList, List.cons_append, List.nil_append, Nat.reduceAdd, Nat.reduceEqDiff, Nat.reduceLeDiff, reduceIte, Nat.reduceLT, or_self, true_or, or_true, if_true, if_false, and_self, and_true, true_and, not_false_eq_true, not_true_eq_false]
      obtain ⟨k, rfl⟩ : ∃ k, m = k + 1 := by
        cases m with
        | zero => rw [em] at e; exact absurd e (by decide)
        | succ k => exact ⟨k, rfl⟩
      refine am_go [21] 8 ?_
      simp only [am_wp, am_stp, am_en, am_as, am_pad, am_nth, am_set, am_st1, am_st2, am_kl, am_kill, am_mem, am_fv, am_tk, am_wt, am_bk, Option.toList, List.cons_append, List.nil_append, Nat.reduceAdd, Nat.reduceEqDiff, Nat.reduceLeDiff, reduceIte, Nat.reduceLT, or_self, true_or, or_true, if_true, if_false, and_self, and_true, true_and, not_false_eq_true, not_true_eq_false, fd_RunStream_start_63, fd_RunStream_start_66, fd_RunStream_start_67, fd_RunStream_start_68, fd_RunStream_start_71, fd_RunStream_start_72, fd_RunStream_start_73, fd_RunStream_start_76, hx_nx_sI, hx_ce_sI, hx_sl_sI, hx_kd_sI, hx_ln_sI, hx_I_sI, hx_L_sI, hx_R_sI, hx_nx_sL, hx_ce_sL, hx_sl_sL, hx_kd_sL, hx_ln_sL, hx_I_sL, hx_L_sL, hx_R_sL, hx_nx_sR, hx_ce_sR, hx_sl_sR, hx_kd_sR, hx_ln_sR, hx_I_sR, hx_L_sR, hx_R_sR, hx_nx_al, hx_ce_al, hx_sl_al, hx_kd_al, hx_ln_al, hx_I_al, hx_L_al, hx_R_al, hx_nx_row, hx_ce_row, hx_sl_row, hx_kd_row, hx_ln_row, hx_I_row, hx_L_row, hx_R_row, hx_nx_mk, hx_kd_mk, hx_ln_mk, hx_I_mk, hx_L_mk, hx_R_mk, kt]
      have e7 : am_I g3 t 7 - 1 = nI k := by rw [em]; exact nI_pred k
      rw [e7]
      refine ww_start_loop h1 h2 k _ (fun _ => ⟨by simp only [hx_nx_sI, hx_ce_sI, hx_sl_sI, hx_kd_sI, hx_ln_sI, hx_I_sI, hx_L_sI, hx_R_sI, hx_nx_sL, hx_ce_sL, hx_sl_sL, hx_kd_sL, hx_ln_sL, hx_I_sL, hx_L_sL, hx_R_sL, hx_nx_sR, hx_ce_sR, hx_sl_sR, hx_kd_sR, hx_ln_sR, hx_I_sR, hx_L_sR, hx_R_sR, hx_nx_al, hx_ce_al, hx_sl_al, hx_kd_al, hx_ln_al, hx_I_al, hx_L_al, hx_R_al, hx_nx_row, hx_ce_row, hx_sl_row, hx_kd_row, hx_ln_row, hx_I_row, hx_L_row, hx_R_row, hx_nx_mk, hx_kd_mk, hx_ln_mk, hx_I_mk, hx_L_mk, hx_R_mk, am_wp, am_stp, am_en, am_as, am_pad, am_nth, am_set, am_st1, am_st2, am_kl, am_kill, am_mem, am_fv, am_tk, am_wt, am_bk, Option.toList, List.cons_append, List.nil_append, Nat.reduceAdd, Nat.reduceEqDiff, Nat.reduceLeDiff, reduceIte, Nat.reduceLT, or_self, true_or, or_true, if_true, if_false, and_self, and_true, true_and, not_false_eq_true, not_true_eq_false], by omega⟩) ((w.st h1 h2).st h1 h2)
    · simp only [e, am_wp, am_stp, am_en, am_as, am_pad, am_nth, am_set, am_st1, am_st2, am_kl, am_kill, am_mem, am_fv, am_tk, am_wt, am_bk, Option.toList, List.cons_append, List.nil_append, Nat.reduceAdd, Nat.reduceEqDiff, Nat.reduceLeDiff, reduceIte, Nat.reduceLT, or_self, true_or, or_true, if_true, if_false, and_self, and_true, true_and, not_false_eq_true, not_true_eq_false]
      exact fin _ w
theorem ww_start {d P t a : Nat} {z : Int64} {h : am_H} (w : wk P h) (h1 : 30 ≤ t) (h2 : t ≤ 39) (r : ruh h a) : am_Rt nm_pr (d + 3) mi_RunStream_start [.ref t, .ref a, .long z] h (fun o h' => o = .inl none ∧ wp P 0 h h') := by
  have kt := (w.st h1 h2).1
  have ta : ¬ a = t := fun e => by have := r.1; rw [e, kt] at this; exact absurd this (by decide)
  refine am_in' (d := d + 2) mt_RunStream_start 4 rfl rfl rfl ?_
  refine am_go [21] 11 ?_
  simp only [am_wp, am_stp, am_en, am_as, am_pad, am_nth, am_set, am_st1, am_st2, am_kl, am_kill, am_mem, am_fv, am_tk, am_wt, am_bk, Option.toList, List.cons_append, List.nil_append, Nat.reduceAdd, Nat.reduceEqDiff, Nat.reduceLeDiff, reduceIte, Nat.reduceLT, or_self, true_or, or_true, if_true, if_false, and_self, and_true, true_and, not_false_eq_true, not_true_eq_false, fd_RunStream_start_0, fd_RunStream_start_1, fd_RunStream_start_2, fd_RunStream_start_5, fd_RunStream_start_8, fd_RunStream_start_9, fd_RunStream_start_10, fd_RunStream_start_13, fd_RunStream_start_16, fd_RunStream_start_17, fd_RunStream_start_18, hx_nx_sI, hx_ce_sI, hx_sl_sI, hx_kd_sI, hx_ln_sI, hx_I_sI, hx_L_sI, hx_R_sI, hx_nx_sL, hx_ce_sL, hx_sl_sL, hx_kd_sL, hx_ln_sL, hx_I_sL, hx_L_sL, hx_R_sL, hx_nx_sR, hx_ce_sR, hx_sl_sR, hx_kd_sR, hx_ln_sR, hx_I_sR, hx_L_sR, hx_R_sR, hx_nx_al, hx_ce_al, hx_sl_al, hx_kd_al, hx_ln_al, hx_I_al, hx_L_al, hx_R_al, hx_nx_row, hx_ce_row, hx_sl_row, hx_kd_row, hx_ln_row, hx_I_row, hx_L_row, hx_R_row, hx_nx_mk, hx_kd_mk, hx_ln_mk, hx_I_mk, hx_L_mk, hx_R_mk, kt, r.1, ta]
  have w1 := (((wp.refl w).st (j := 6) (v := am_I h a 3) h1 h2).st (j := 7) (v := am_I h a 4) h1 h2).st (j := 8) (v := 0) h1 h2
  by_cases e : 1 < am_I h a 4
  · obtain ⟨n, hn, en⟩ := one_lt e
    exact ww_start_loop h1 h2 (n + 1) _ (fun _ => ⟨by simp only [hx_nx_sI, hx_ce_sI, hx_sl_sI, hx_kd_sI, hx_ln_sI, hx_I_sI, hx_L_sI, hx_R_sI, hx_nx_sL, hx_ce_sL, hx_sl_sL, hx_kd_sL, hx_ln_sL, hx_I_sL, hx_L_sL, hx_R_sL, hx_nx_sR, hx_ce_sR, hx_sl_sR, hx_kd_sR, hx_ln_sR, hx_I_sR, hx_L_sR, hx_R_sR, hx_nx_al, hx_ce_al, hx_sl_al, hx_kd_al, hx_ln_al, hx_I_al, hx_L_al, hx_R_al, hx_nx_row, hx_ce_row, hx_sl_row, hx_kd_row, hx_ln_row, hx_I_row, hx_L_row, hx_R_row, hx_nx_mk, hx_kd_mk, hx_ln_mk, hx_I_mk, hx_L_mk, hx_R_mk, am_wp, am_stp, am_en, am_as, am_pad, am_nth, am_set, am_st1, am_st2, am_kl, am_kill, am_mem, am_fv, am_tk, am_wt, am_bk, Option.toList, List.cons_append, List.nil_append, Nat.reduceAdd, Nat.reduceEqDiff, Nat.reduceLeDiff, reduceIte, Nat.reduceLT, or_self, true_or, or_true, if_true, if_false, and_self, and_true, true_and, not_false_eq_true, not_true_eq_false]; exact en, by omega⟩) w1
  · exact ww_start_loop h1 h2 0 _ (fun q => absurd q (by simp only [hx_nx_sI, hx_ce_sI, hx_sl_sI, hx_kd_sI, hx_ln_sI, hx_I_sI, hx_L_sI, hx_R_sI, hx_nx_sL, hx_ce_sL, hx_sl_sL, hx_kd_sL, hx_ln_sL, hx_I_sL, hx_L_sL, hx_R_sL, hx_nx_sR, hx_ce_sR, hx_sl_sR, hx_kd_sR, hx_ln_sR, hx_I_sR, hx_L_sR, hx_R_sR, hx_nx_al, hx_ce_al, hx_sl_al, hx_kd_al, hx_ln_al, hx_I_al, hx_L_al, hx_R_al, hx_nx_row, hx_ce_row, hx_sl_row, hx_kd_row, hx_ln_row, hx_I_row, hx_L_row, hx_R_row, hx_nx_mk, hx_kd_mk, hx_ln_mk, hx_I_mk, hx_L_mk, hx_R_mk, am_wp, am_stp, am_en, am_as, am_pad, am_nth, am_set, am_st1, am_st2, am_kl, am_kill, am_mem, am_fv, am_tk, am_wt, am_bk, Option.toList, List.cons_append, List.nil_append, Nat.reduceAdd, Nat.reduceEqDiff, Nat.reduceLeDiff, reduceIte, Nat.reduceLT, or_self, true_or, or_true, if_true, if_false, and_self, and_true, true_and, not_false_eq_true, not_true_eq_false]; exact e)) w1
theorem wcell_29 {P j : Nat} {v : Int32} (hj : j ≠ 5) : wcell P 29 j v := by
  refine ⟨fun q => ?_, fun q => ?_, fun q => ?_, fun q => ?_, fun q => ?_, fun q => ?_, fun q => ?_, fun q => ?_⟩ <;> omega
theorem wcell_29n {P n : Nat} (hn : n ≤ 64) : wcell P 29 5 (nI n) := by
  refine ⟨fun q => ?_, fun q => ?_, fun q => ?_, fun q => ?_, fun q => ?_, fun q => ?_, fun q => ?_, fun q => ⟨n, hn, rfl⟩⟩ <;> omega
theorem wp.s29 {P k j : Nat} {v : Int32} {h g : am_H} (w : wp P k h g) (hj : j ≠ 5) : wp P k h (am_sI g 29 j v) := w.sI (cw_lt (by omega) (by omega)) (fun e => absurd e (by decide)) (wcell_29 hj)
theorem wp.s29n {P k n : Nat} {h g : am_H} (w : wp P k h g) (hn : n ≤ 64) : wp P k h (am_sI g 29 5 (nI n)) := w.sI (cw_lt (by omega) (by omega)) (fun e => absurd e (by decide)) (wcell_29n hn)
theorem ww_TSstart {d P : Nat} {h : am_H} (w : wk P h) : am_Rt nm_pr (d + 1) mi_TableStream_start [.ref 29] h (fun o h' => o = .inl none ∧ wp P 0 h h') := by
  refine am_in' mt_TableStream_start 1 rfl rfl rfl ?_
  refine am_go [] 5 ?_
  simp only [am_wp, am_stp, am_en, am_as, am_pad, am_nth, am_set, am_st1, am_st2, am_kl, am_kill, am_mem, am_fv, am_tk, am_wt, am_bk, Option.toList, List.cons_append, List.nil_append, Nat.reduceAdd, Nat.reduceEqDiff, Nat.reduceLeDiff, reduceIte, Nat.reduceLT, or_self, true_or, or_true, if_true, if_false, and_self, and_true, true_and, not_false_eq_true, not_true_eq_false, fd_TableStream_start_0, fd_TableStream_start_1, fd_TableStream_start_2, fd_TableStream_start_5, w.kd 29 11 (by decide)]
  exact (wp.refl w).s29n (n := 0) (by omega)
