/-! mark ON A NEW OBJECT -/
theorem lw_C.fi {xs : Nat → Int32} {S : List Nat} {h h1 : am_H} (G : lw_G 8 xs h) (f : am_fi S h h1) (h0 : ∀ q ∈ S, (2 ≤ q ∧ q < 72) ∨ q = 108) : lw_C h h1 := by
  obtain ⟨g1, g2, g3, g4, g5, g6, g7, g8, g9, g10⟩ := G
  obtain ⟨f1, f2, f3, f4, f5, f6, f7, f8⟩ := f
  have w : ∀ a, a < 2 ∨ (72 ≤ a ∧ a < 108) → a ∉ S := fun a ha hS => by have := h0 a hS; omega
  exact ⟨fun a ha => ⟨by rw [f4], by rw [f5], f7 a (w a ha), f8 a (w a ha), by rw [f6]⟩, by rw [f4]; exact g9, by rw [f5]; exact g10, by omega, by omega⟩
theorem l2_keep0 {d t : Nat} {h : am_H} (kt : am_kd h t = 6) (k8 : am_kd h 8 = 6) (i8 : am_I h 8 1 = 0) (ht : t ≠ 8) : am_Rt nm_pr (d + 1) mi_RunList_keep [.ref t, .ref 8] h (fun o h' => o = .inl none ∧ h' = am_sI (am_sI h t 2 1) t 1 0) := by
  refine am_in' mt_RunList_keep 3 rfl rfl rfl ?_
  have e8 : ¬ (8 = t) := fun e => ht e.symm
  refine am_go [] 8 ?_
  simp only [am_wp, am_stp, am_en, am_as, am_pad, am_nth, am_set, am_st1, am_st2, am_kl, am_kill, am_mem, am_fv, am_tk, am_wt, am_bk, Option.toList, List.cons_append, List.nil_append, Nat.reduceAdd, Nat.reduceEqDiff, Nat.reduceLeDiff, reduceIte, Nat.reduceLT, or_self, true_or, or_true, if_true, if_false, and_self, and_true, true_and, not_false_eq_true, not_true_eq_false, fd_RunList_keep_0, fd_RunList_keep_1, fd_RunList_keep_2, fd_RunList_keep_5, fd_RunList_keep_6, fd_RunList_keep_7, fd_RunList_keep_10, fd_RunList_keep_11, kt, hx_nx_sI, hx_ce_sI, hx_sl_sI, hx_kd_sI, hx_ln_sI, hx_I_sI, hx_L_sI, hx_R_sI, hx_nx_sL, hx_ce_sL, hx_sl_sL, hx_kd_sL, hx_ln_sL, hx_I_sL, hx_L_sL, hx_R_sL, hx_nx_sR, hx_ce_sR, hx_sl_sR, hx_kd_sR, hx_ln_sR, hx_I_sR, hx_L_sR, hx_R_sR, hx_nx_al, hx_ce_al, hx_sl_al, hx_kd_al, hx_ln_al, hx_I_al, hx_L_al, hx_R_al, hx_nx_row, hx_ce_row, hx_sl_row, hx_kd_row, hx_ln_row, hx_I_row, hx_L_row, hx_R_row, hx_nx_mk, hx_kd_mk, hx_ln_mk, hx_I_mk, hx_L_mk, hx_R_mk]
  refine am_go [20] 6 ?_
  simp only [am_wp, am_stp, am_en, am_as, am_pad, am_nth, am_set, am_st1, am_st2, am_kl, am_kill, am_mem, am_fv, am_tk, am_wt, am_bk, Option.toList, List.cons_append, List.nil_append, Nat.reduceAdd, Nat.reduceEqDiff, Nat.reduceLeDiff, reduceIte, Nat.reduceLT, or_self, true_or, or_true, if_true, if_false, and_self, and_true, true_and, not_false_eq_true, not_true_eq_false, fd_RunList_keep_12, fd_RunList_keep_13, fd_RunList_keep_14, fd_RunList_keep_17, fd_RunList_keep_42, hx_nx_sI, hx_ce_sI, hx_sl_sI, hx_kd_sI, hx_ln_sI, hx_I_sI, hx_L_sI, hx_R_sI, hx_nx_sL, hx_ce_sL, hx_sl_sL, hx_kd_sL, hx_ln_sL, hx_I_sL, hx_L_sL, hx_R_sL, hx_nx_sR, hx_ce_sR, hx_sl_sR, hx_kd_sR, hx_ln_sR, hx_I_sR, hx_L_sR, hx_R_sR, hx_nx_al, hx_ce_al, hx_sl_al, hx_kd_al, hx_ln_al, hx_I_al, hx_L_al, hx_R_al, hx_nx_row, hx_ce_row, hx_sl_row, hx_kd_row, hx_ln_row, hx_I_row, hx_L_row, hx_R_row, hx_nx_mk, hx_kd_mk, hx_ln_mk, hx_I_mk, hx_L_mk, hx_R_mk, k8, i8, e8, (by decide : ¬ (0 : Int32) < 0)]
theorem l2_leastFree {d : Nat} {h : am_H} (k2 : am_kd h 2 = 1) (r4 : am_R h 2 4 = 12) (f5 : fr_5 h 8) : am_Rt nm_pr (d + 1) mi_SR_leastFreeMark [.ref 2] h (fun o h' => o = .inl (some (.int 0)) ∧ h' = h) := by
  obtain ⟨f1, f2⟩ := f5
  have i1 := am_inb (c := 0) (N := 8) (by decide) (by decide)
  have c1 : (nI 0).toNatClampNeg = 0 := by decide
  have rj : am_R h 12 0 = 40 := (congrFun f1.2.2.2 0).trans (if_pos (by decide))
  have kj : am_kd h 40 = 6 := (f2 0 (by decide)).1.1
  have ij : am_I h 40 2 = 0 := (f2 0 (by decide)).1.2.2.1.1 2
  have n1 : (200 ≤ 201 ∧ 201 < 204) := by decide
  have z : (0 : Int32) = nI 0 := rfl
  have l8 : (0 : Int32) < 8 := by decide
  have l8' : ¬ (8 : Int32) ≤ 0 := by decide
  refine am_in' mt_SR_leastFreeMark 2 rfl rfl rfl ?_
  refine am_go [8, 28] 5 ?_
  simp only [am_wp, am_stp, am_en, am_as, am_pad, am_nth, am_set, am_st1, am_st2, am_kl, am_kill, am_mem, am_fv, am_tk, am_wt, am_bk, Option.toList, List.cons_append, List.nil_append, Nat.reduceAdd, Nat.reduceEqDiff, Nat.reduceLeDiff, reduceIte, Nat.reduceLT, or_self, true_or, or_true, if_true, if_false, and_self, and_true, true_and, not_false_eq_true, not_true_eq_false, fd_SR_leastFreeMark_0, fd_SR_leastFreeMark_1, fd_SR_leastFreeMark_2, fd_SR_leastFreeMark_3, fd_SR_leastFreeMark_5, l8, l8']
  refine am_go [22] 8 ?_
  have i1' : ¬ ((0 : Int32) < 0 ∨ 8 ≤ (0 : Int32).toNatClampNeg) := by decide
  have c1' : (0 : Int32).toNatClampNeg = 0 := by decide
  simp only [am_wp, am_stp, am_en, am_as, am_pad, am_nth, am_set, am_st1, am_st2, am_kl, am_kill, am_mem, am_fv, am_tk, am_wt, am_bk, Option.toList, List.cons_append, List.nil_append, Nat.reduceAdd, Nat.reduceEqDiff, Nat.reduceLeDiff, reduceIte, Nat.reduceLT, or_self, true_or, or_true, if_true, if_false, and_self, and_true, true_and, not_false_eq_true, not_true_eq_false, fd_SR_leastFreeMark_8, fd_SR_leastFreeMark_9, fd_SR_leastFreeMark_12, fd_SR_leastFreeMark_13, fd_SR_leastFreeMark_14, fd_SR_leastFreeMark_17, fd_SR_leastFreeMark_20, fd_SR_leastFreeMark_21, k2, r4, f1.1, f1.2.1, n1, (by decide : ¬ (0 : Int32) < 0), (by decide : ¬ 8 ≤ 0), c1', rj, kj, ij]
theorem op_mark (xs : Nat → Int32) : lw_op xs 746 := by
  refine ox_mark (fun d h G => ?_)
  obtain ⟨g1, g2, g3, g4, g5, g6, g7, g8, g9, g10⟩ := id G
  obtain ⟨s1, s2, s3⟩ := g4.2.2.2.2.2.2.2.2.2.2.2.2.2.2
  have f5 := g4.2.2.2.2.2.2.2.2.2.2.2.2.2.1
  have i15 : am_I h 2 15 = 0 := by rw [s3]; rfl
  have r2 : am_R h 2 2 = 3 := by rw [s2]; rfl
  have r3 : am_R h 2 3 = 8 := by rw [s2]; rfl
  have r4 : am_R h 2 4 = 12 := by rw [s2]; rfl
  have k8 : am_kd h 8 = 6 := g4.1.2.1.1
  have i8 : am_I h 8 1 = 0 := g4.1.2.1.2.2.1.1 1
  have k3 : am_kd h 3 = 10 := g4.1.1.1.1
  have i3 : am_I h 3 4 = 0 := g4.1.1.1.2.2.1.1 4
  have rj : am_R h 12 0 = 40 := (congrFun f5.1.2.2.2 0).trans (if_pos (by decide))
  have kj : am_kd h 40 = 6 := (f5.2 0 (by decide)).1.1
  have n1 : (200 ≤ 201 ∧ 201 < 204) := by decide
  have i1' : ¬ ((0 : Int32) < 0 ∨ 8 ≤ (0 : Int32).toNatClampNeg) := by decide
  have c1' : (0 : Int32).toNatClampNeg = 0 := by decide
  refine am_in' (d := d + 11) mt_La_mark 3 rfl rfl rfl ?_
  refine am_go [] 4 ?_
  simp only [am_wp, am_stp, am_en, am_as, am_pad, am_nth, am_set, am_st1, am_st2, am_kl, am_kill, am_mem, am_fv, am_tk, am_wt, am_bk, Option.toList, List.cons_append, List.nil_append, Nat.reduceAdd, Nat.reduceEqDiff, Nat.reduceLeDiff, reduceIte, Nat.reduceLT, or_self, true_or, or_true, if_true, if_false, and_self, and_true, true_and, not_false_eq_true, not_true_eq_false, fd_La_mark_0, fd_La_mark_1, fd_La_mark_2, fd_La_mark_3, s1]
  refine am_call (Q := fun o h' => o = .inl (some (.int 0)) ∧ am_fi [40] h h') ?_ (fun o h1 q => ?_)
  · refine am_in' (d := d + 10) mt_SR_mark 3 rfl rfl rfl ?_
    refine am_go [] 2 ?_
    simp only [am_wp, am_stp, am_en, am_as, am_pad, am_nth, am_set, am_st1, am_st2, am_kl, am_kill, am_mem, am_fv, am_tk, am_wt, am_bk, Option.toList, List.cons_append, List.nil_append, Nat.reduceAdd, Nat.reduceEqDiff, Nat.reduceLeDiff, reduceIte, Nat.reduceLT, or_self, true_or, or_true, if_true, if_false, and_self, and_true, true_and, not_false_eq_true, not_true_eq_false, fd_SR_mark_0, fd_SR_mark_1, s1]
    refine am_call (l2_requireUp s1 i15) (fun o h1 q => ?_)
    obtain ⟨rfl, rfl⟩ := q
    simp only [am_wp, am_stp, am_en, am_as, am_pad, am_nth, am_set, am_st1, am_st2, am_kl, am_kill, am_mem, am_fv, am_tk, am_wt, am_bk, Option.toList, List.cons_append, List.nil_append, Nat.reduceAdd, Nat.reduceEqDiff, Nat.reduceLeDiff, reduceIte, Nat.reduceLT, or_self, true_or, or_true, if_true, if_false, and_self, and_true, true_and, not_false_eq_true, not_true_eq_false]
    refine am_go [] 2 ?_
    simp only [am_wp, am_stp, am_en, am_as, am_pad, am_nth, am_set, am_st1, am_st2, am_kl, am_kill, am_mem, am_fv, am_tk, am_wt, am_bk, Option.toList, List.cons_append, List.nil_append, Nat.reduceAdd, Nat.reduceEqDiff, Nat.reduceLeDiff, reduceIte, Nat.reduceLT, or_self, true_or, or_true, if_true, if_false, and_self, and_true, true_and, not_false_eq_true, not_true_eq_false, fd_SR_mark_4, fd_SR_mark_5, s1]
    refine am_call (l2_leastFree s1 r4 f5) (fun o h2 q => ?_)
    obtain ⟨rfl, rfl⟩ := q
    simp only [am_wp, am_stp, am_en, am_as, am_pad, am_nth, am_set, am_st1, am_st2, am_kl, am_kill, am_mem, am_fv, am_tk, am_wt, am_bk, Option.toList, List.cons_append, List.nil_append, Nat.reduceAdd, Nat.reduceEqDiff, Nat.reduceLeDiff, reduceIte, Nat.reduceLT, or_self, true_or, or_true, if_true, if_false, and_self, and_true, true_and, not_false_eq_true, not_true_eq_false]
    have nm : ¬ ((0 : Int32) = -1) := by decide
    have le0 : ¬ ((0 : Int32) < 0) := by decide
    refine am_go [14, 16] 4 ?_
    simp only [am_wp, am_stp, am_en, am_as, am_pad, am_nth, am_set, am_st1, am_st2, am_kl, am_kill, am_mem, am_fv, am_tk, am_wt, am_bk, Option.toList, List.cons_append, List.nil_append, Nat.reduceAdd, Nat.reduceEqDiff, Nat.reduceLeDiff, reduceIte, Nat.reduceLT, or_self, true_or, or_true, if_true, if_false, and_self, and_true, true_and, not_false_eq_true, not_true_eq_false, fd_SR_mark_8, fd_SR_mark_9, fd_SR_mark_10, fd_SR_mark_11, nm]
    refine am_go [26, 47] 4 ?_
    simp only [am_wp, am_stp, am_en, am_as, am_pad, am_nth, am_set, am_st1, am_st2, am_kl, am_kill, am_mem, am_fv, am_tk, am_wt, am_bk, Option.toList, List.cons_append, List.nil_append, Nat.reduceAdd, Nat.reduceEqDiff, Nat.reduceLeDiff, reduceIte, Nat.reduceLT, or_self, true_or, or_true, if_true, if_false, and_self, and_true, true_and, not_false_eq_true, not_true_eq_false, fd_SR_mark_16, fd_SR_mark_17, fd_SR_mark_20, fd_SR_mark_23, s1, r2, k3, i3, le0]
    refine am_go [] 7 ?_
    simp only [am_wp, am_stp, am_en, am_as, am_pad, am_nth, am_set, am_st1, am_st2, am_kl, am_kill, am_mem, am_fv, am_tk, am_wt, am_bk, Option.toList, List.cons_append, List.nil_append, Nat.reduceAdd, Nat.reduceEqDiff, Nat.reduceLeDiff, reduceIte, Nat.reduceLT, or_self, true_or, or_true, if_true, if_false, and_self, and_true, true_and, not_false_eq_true, not_true_eq_false, fd_SR_mark_47, fd_SR_mark_48, fd_SR_mark_51, fd_SR_mark_52, fd_SR_mark_53, fd_SR_mark_54, fd_SR_mark_57, s1, r4, f5.1.1, f5.1.2.1, n1, i1', c1', rj, r3, kj]
    refine am_call (l2_keep0 kj k8 i8 (by decide)) (fun o h3 q => ?_)
    obtain ⟨rfl, rfl⟩ := q
    simp only [am_wp, am_stp, am_en, am_as, am_pad, am_nth, am_set, am_st1, am_st2, am_kl, am_kill, am_mem, am_fv, am_tk, am_wt, am_bk, Option.toList, List.cons_append, List.nil_append, Nat.reduceAdd, Nat.reduceEqDiff, Nat.reduceLeDiff, reduceIte, Nat.reduceLT, or_self, true_or, or_true, if_true, if_false, and_self, and_true, true_and, not_false_eq_true, not_true_eq_false]
    refine am_go [] 2 ?_
    simp only [am_wp, am_stp, am_en, am_as, am_pad, am_nth, am_set, am_st1, am_st2, am_kl, am_kill, am_mem, am_fv, am_tk, am_wt, am_bk, Option.toList, List.cons_append, List.nil_append, Nat.reduceAdd, Nat.reduceEqDiff, Nat.reduceLeDiff, reduceIte, Nat.reduceLT, or_self, true_or, or_true, if_true, if_false, and_self, and_true, true_and, not_false_eq_true, not_true_eq_false, fd_SR_mark_60, fd_SR_mark_61]
    exact (am_fi.refl.sI (by simp)).sI (by simp)
  · obtain ⟨rfl, hf⟩ := q
    simp only [am_wp, am_stp, am_en, am_as, am_pad, am_nth, am_set, am_st1, am_st2, am_kl, am_kill, am_mem, am_fv, am_tk, am_wt, am_bk, Option.toList, List.cons_append, List.nil_append, Nat.reduceAdd, Nat.reduceEqDiff, Nat.reduceLeDiff, reduceIte, Nat.reduceLT, or_self, true_or, or_true, if_true, if_false, and_self, and_true, true_and, not_false_eq_true, not_true_eq_false]
    have k108 : am_kd h1 108 = 101 := by rw [hf.2.2.2.1]; exact g9
    have l108 : am_ln h1 108 = 1 := by rw [hf.2.2.2.2.1]; exact g10
    refine am_go [] 10 ?_
    have i0 : ¬ ((0 : Int32) < 0 ∨ 1 ≤ (0 : Int32).toNatClampNeg) := by decide
    simp only [am_wp, am_stp, am_en, am_as, am_pad, am_nth, am_set, am_st1, am_st2, am_kl, am_kill, am_mem, am_fv, am_tk, am_wt, am_bk, Option.toList, List.cons_append, List.nil_append, Nat.reduceAdd, Nat.reduceEqDiff, Nat.reduceLeDiff, reduceIte, Nat.reduceLT, or_self, true_or, or_true, if_true, if_false, and_self, and_true, true_and, not_false_eq_true, not_true_eq_false, fd_La_mark_6, fd_La_mark_7, fd_La_mark_8, fd_La_mark_14, fd_La_mark_15, k108, l108, i0, c1']
    have C := lw_C.fi (S := [40, 108]) G ((hf.sub (by simp)).sL (q := 108) (j := 0) (v := (0 : Int32).toInt64) (by simp)) (by simp)
    refine ⟨0, (0 : Int32).toInt64, rfl, C, fun _ => by simp only [hx_nx_sI, hx_ce_sI, hx_sl_sI, hx_kd_sI, hx_ln_sI, hx_I_sI, hx_L_sI, hx_R_sI, hx_nx_sL, hx_ce_sL, hx_sl_sL, hx_kd_sL, hx_ln_sL, hx_I_sL, hx_L_sL, hx_R_sL, hx_nx_sR, hx_ce_sR, hx_sl_sR, hx_kd_sR, hx_ln_sR, hx_I_sR, hx_L_sR, hx_R_sR, hx_nx_al, hx_ce_al, hx_sl_al, hx_kd_al, hx_ln_al, hx_I_al, hx_L_al, hx_R_al, hx_nx_row, hx_ce_row, hx_sl_row, hx_kd_row, hx_ln_row, hx_I_row, hx_L_row, hx_R_row, hx_nx_mk, hx_kd_mk, hx_ln_mk, hx_I_mk, hx_L_mk, hx_R_mk, am_wp, am_stp, am_en, am_as, am_pad, am_nth, am_set, am_st1, am_st2, am_kl, am_kill, am_mem, am_fv, am_tk, am_wt, am_bk, Option.toList, List.cons_append, List.nil_append, Nat.reduceAdd, Nat.reduceEqDiff, Nat.reduceLeDiff, reduceIte, Nat.reduceLT, or_self, true_or, or_true, if_true, if_false, and_self, and_true, true_and, not_false_eq_true, not_true_eq_false], ?_⟩
    obtain ⟨m1, m2, m3, m4, m5, m6, m7⟩ := C.mo g5
    have k72 := m1.1
    have j3 := (congrFun m2 3).trans (show _ = (0 : Int32) from rfl)
    have j11 := (congrFun m2 11).trans (show _ = (0 : Int32) from rfl)
    have j24 := (congrFun m2 24).trans (show _ = (0 : Int32) from rfl)
    have r26 := (m4 26).trans (show _ = 87 from rfl)
    have r27 := (m4 27).trans (show _ = 88 from rfl)
    obtain ⟨c1, c2, ⟨c3, -⟩, -⟩ := m5 14 _ (by decide) (by decide) rfl
    obtain ⟨d1, d2, -, -⟩ := m5 15 _ (by decide) (by decide) rfl
    generalize am_sL h1 108 0 (0 : Int32).toInt64 = g at *
    have c1' : am_kd g 87 = 103 := c1
    have c2' : am_ln g 87 = 8 := c2
    have c3' : am_I g 87 0 = 0 := c3 0
    have d1' : am_kd g 88 = 100 := d1
    have d2' : am_ln g 88 = 8 := d2
    have q1 : (0 : Int32).toNatClampNeg = 0 := by decide
    refine am_call (Q := fun o h' => o = .inl (some (.int 0)) ∧ am_fi [72, 87, 88] g h' ∧ am_I h' 72 0 = 0) ?_ (fun o h2 q => ?_)
    · refine am_in' (d := d + 11) mt_Mo_mark 3 rfl rfl rfl ?_
      have l8 : (0 : Int32) < 8 := by decide
      have l8' : ¬ (8 : Int32) ≤ 0 := by decide
      have n8 : ¬ ((0 : Int32) = 8) := by decide
      have le0 : ¬ ((0 : Int32) < 0) := by decide
      refine am_go [8, 16] 7 ?_
      simp only [am_wp, am_stp, am_en, am_as, am_pad, am_nth, am_set, am_st1, am_st2, am_kl, am_kill, am_mem, am_fv, am_tk, am_wt, am_bk, Option.toList, List.cons_append, List.nil_append, Nat.reduceAdd, Nat.reduceEqDiff, Nat.reduceLeDiff, reduceIte, Nat.reduceLT, or_self, true_or, or_true, if_true, if_false, and_self, and_true, true_and, not_false_eq_true, not_true_eq_false, fd_Mo_mark_0, fd_Mo_mark_1, fd_Mo_mark_2, fd_Mo_mark_5, fd_Mo_mark_12, fd_Mo_mark_13, k72, j3]
      refine am_go [23, 33] 9 ?_
      simp only [am_wp, am_stp, am_en, am_as, am_pad, am_nth, am_set, am_st1, am_st2, am_kl, am_kill, am_mem, am_fv, am_tk, am_wt, am_bk, Option.toList, List.cons_append, List.nil_append, Nat.reduceAdd, Nat.reduceEqDiff, Nat.reduceLeDiff, reduceIte, Nat.reduceLT, or_self, true_or, or_true, if_true, if_false, and_self, and_true, true_and, not_false_eq_true, not_true_eq_false, fd_Mo_mark_16, fd_Mo_mark_17, fd_Mo_mark_20, fd_Mo_mark_25, fd_Mo_mark_26, fd_Mo_mark_27, fd_Mo_mark_28, fd_Mo_mark_30, k72, j3, hx_nx_sI, hx_ce_sI, hx_sl_sI, hx_kd_sI, hx_ln_sI, hx_I_sI, hx_L_sI, hx_R_sI, hx_nx_sL, hx_ce_sL, hx_sl_sL, hx_kd_sL, hx_ln_sL, hx_I_sL, hx_L_sL, hx_R_sL, hx_nx_sR, hx_ce_sR, hx_sl_sR, hx_kd_sR, hx_ln_sR, hx_I_sR, hx_L_sR, hx_R_sR, hx_nx_al, hx_ce_al, hx_sl_al, hx_kd_al, hx_ln_al, hx_I_al, hx_L_al, hx_R_al, hx_nx_row, hx_ce_row, hx_sl_row, hx_kd_row, hx_ln_row, hx_I_row, hx_L_row, hx_R_row, hx_nx_mk, hx_kd_mk, hx_ln_mk, hx_I_mk, hx_L_mk, hx_R_mk, l8, l8']
      refine am_go [42, 48] 5 ?_
      simp only [am_wp, am_stp, am_en, am_as, am_pad, am_nth, am_set, am_st1, am_st2, am_kl, am_kill, am_mem, am_fv, am_tk, am_wt, am_bk, Option.toList, List.cons_append, List.nil_append, Nat.reduceAdd, Nat.reduceEqDiff, Nat.reduceLeDiff, reduceIte, Nat.reduceLT, or_self, true_or, or_true, if_true, if_false, and_self, and_true, true_and, not_false_eq_true, not_true_eq_false, fd_Mo_mark_33, fd_Mo_mark_34, fd_Mo_mark_37, fd_Mo_mark_38, fd_Mo_mark_39, k72, r26, c1', c2', c3', i1', q1, hx_nx_sI, hx_ce_sI, hx_sl_sI, hx_kd_sI, hx_ln_sI, hx_I_sI, hx_L_sI, hx_R_sI, hx_nx_sL, hx_ce_sL, hx_sl_sL, hx_kd_sL, hx_ln_sL, hx_I_sL, hx_L_sL, hx_R_sL, hx_nx_sR, hx_ce_sR, hx_sl_sR, hx_kd_sR, hx_ln_sR, hx_I_sR, hx_L_sR, hx_R_sR, hx_nx_al, hx_ce_al, hx_sl_al, hx_kd_al, hx_ln_al, hx_I_al, hx_L_al, hx_R_al, hx_nx_row, hx_ce_row, hx_sl_row, hx_kd_row, hx_ln_row, hx_I_row, hx_L_row, hx_R_row, hx_nx_mk, hx_kd_mk, hx_ln_mk, hx_I_mk, hx_L_mk, hx_R_mk]
      refine am_go [54, 63, 83] 6 ?_
      simp only [am_wp, am_stp, am_en, am_as, am_pad, am_nth, am_set, am_st1, am_st2, am_kl, am_kill, am_mem, am_fv, am_tk, am_wt, am_bk, Option.toList, List.cons_append, List.nil_append, Nat.reduceAdd, Nat.reduceEqDiff, Nat.reduceLeDiff, reduceIte, Nat.reduceLT, or_self, true_or, or_true, if_true, if_false, and_self, and_true, true_and, not_false_eq_true, not_true_eq_false, fd_Mo_mark_48, fd_Mo_mark_49, fd_Mo_mark_51, fd_Mo_mark_56, fd_Mo_mark_57, fd_Mo_mark_60, k72, j11, n8, le0, hx_nx_sI, hx_ce_sI, hx_sl_sI, hx_kd_sI, hx_ln_sI, hx_I_sI, hx_L_sI, hx_R_sI, hx_nx_sL, hx_ce_sL, hx_sl_sL, hx_kd_sL, hx_ln_sL, hx_I_sL, hx_L_sL, hx_R_sL, hx_nx_sR, hx_ce_sR, hx_sl_sR, hx_kd_sR, hx_ln_sR, hx_I_sR, hx_L_sR, hx_R_sR, hx_nx_al, hx_ce_al, hx_sl_al, hx_kd_al, hx_ln_al, hx_I_al, hx_L_al, hx_R_al, hx_nx_row, hx_ce_row, hx_sl_row, hx_kd_row, hx_ln_row, hx_I_row, hx_L_row, hx_R_row, hx_nx_mk, hx_kd_mk, hx_ln_mk, hx_I_mk, hx_L_mk, hx_R_mk]
      refine am_go [] 5 ?_
      simp only [am_wp, am_stp, am_en, am_as, am_pad, am_nth, am_set, am_st1, am_st2, am_kl, am_kill, am_mem, am_fv, am_tk, am_wt, am_bk, Option.toList, List.cons_append, List.nil_append, Nat.reduceAdd, Nat.reduceEqDiff, Nat.reduceLeDiff, reduceIte, Nat.reduceLT, or_self, true_or, or_true, if_true, if_false, and_self, and_true, true_and, not_false_eq_true, not_true_eq_false, fd_Mo_mark_83, fd_Mo_mark_84, fd_Mo_mark_87, fd_Mo_mark_88, fd_Mo_mark_89, k72, r26, c1', c2', i1', q1, hx_nx_sI, hx_ce_sI, hx_sl_sI, hx_kd_sI, hx_ln_sI, hx_I_sI, hx_L_sI, hx_R_sI, hx_nx_sL, hx_ce_sL, hx_sl_sL, hx_kd_sL, hx_ln_sL, hx_I_sL, hx_L_sL, hx_R_sL, hx_nx_sR, hx_ce_sR, hx_sl_sR, hx_kd_sR, hx_ln_sR, hx_I_sR, hx_L_sR, hx_R_sR, hx_nx_al, hx_ce_al, hx_sl_al, hx_kd_al, hx_ln_al, hx_I_al, hx_L_al, hx_R_al, hx_nx_row, hx_ce_row, hx_sl_row, hx_kd_row, hx_ln_row, hx_I_row, hx_L_row, hx_R_row, hx_nx_mk, hx_kd_mk, hx_ln_mk, hx_I_mk, hx_L_mk, hx_R_mk]
      refine am_go [] 8 ?_
      simp only [am_wp, am_stp, am_en, am_as, am_pad, am_nth, am_set, am_st1, am_st2, am_kl, am_kill, am_mem, am_fv, am_tk, am_wt, am_bk, Option.toList, List.cons_append, List.nil_append, Nat.reduceAdd, Nat.reduceEqDiff, Nat.reduceLeDiff, reduceIte, Nat.reduceLT, or_self, true_or, or_true, if_true, if_false, and_self, and_true, true_and, not_false_eq_true, not_true_eq_false, fd_Mo_mark_90, fd_Mo_mark_91, fd_Mo_mark_94, fd_Mo_mark_95, fd_Mo_mark_96, fd_Mo_mark_99, fd_Mo_mark_100, fd_Mo_mark_101, k72, r27, d1', d2', j24, i1', q1, hx_nx_sI, hx_ce_sI, hx_sl_sI, hx_kd_sI, hx_ln_sI, hx_I_sI, hx_L_sI, hx_R_sI, hx_nx_sL, hx_ce_sL, hx_sl_sL, hx_kd_sL, hx_ln_sL, hx_I_sL, hx_L_sL, hx_R_sL, hx_nx_sR, hx_ce_sR, hx_sl_sR, hx_kd_sR, hx_ln_sR, hx_I_sR, hx_L_sR, hx_R_sR, hx_nx_al, hx_ce_al, hx_sl_al, hx_kd_al, hx_ln_al, hx_I_al, hx_L_al, hx_R_al, hx_nx_row, hx_ce_row, hx_sl_row, hx_kd_row, hx_ln_row, hx_I_row, hx_L_row, hx_R_row, hx_nx_mk, hx_kd_mk, hx_ln_mk, hx_I_mk, hx_L_mk, hx_R_mk]
      refine am_go [110] 10 ?_
      simp only [am_wp, am_stp, am_en, am_as, am_pad, am_nth, am_set, am_st1, am_st2, am_kl, am_kill, am_mem, am_fv, am_tk, am_wt, am_bk, Option.toList, List.cons_append, List.nil_append, Nat.reduceAdd, Nat.reduceEqDiff, Nat.reduceLeDiff, reduceIte, Nat.reduceLT, or_self, true_or, or_true, if_true, if_false, and_self, and_true, true_and, not_false_eq_true, not_true_eq_false, fd_Mo_mark_102, fd_Mo_mark_103, fd_Mo_mark_104, fd_Mo_mark_107, fd_Mo_mark_148, fd_Mo_mark_149, k72, j24, le0, hx_nx_sI, hx_ce_sI, hx_sl_sI, hx_kd_sI, hx_ln_sI, hx_I_sI, hx_L_sI, hx_R_sI, hx_nx_sL, hx_ce_sL, hx_sl_sL, hx_kd_sL, hx_ln_sL, hx_I_sL, hx_L_sL, hx_R_sL, hx_nx_sR, hx_ce_sR, hx_sl_sR, hx_kd_sR, hx_ln_sR, hx_I_sR, hx_L_sR, hx_R_sR, hx_nx_al, hx_ce_al, hx_sl_al, hx_kd_al, hx_ln_al, hx_I_al, hx_L_al, hx_R_al, hx_nx_row, hx_ce_row, hx_sl_row, hx_kd_row, hx_ln_row, hx_I_row, hx_L_row, hx_R_row, hx_nx_mk, hx_kd_mk, hx_ln_mk, hx_I_mk, hx_L_mk, hx_R_mk]
      exact ((am_fi.refl.sI (by simp)).sI (by simp)).sI (by simp)
    · obtain ⟨rfl, q2, q3⟩ := q
      exact ⟨0, rfl, lw_D.fi q2 (by simp), q3, fun _ => rfl⟩
