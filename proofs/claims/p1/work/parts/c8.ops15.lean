theorem am_fi_L108 {h : am_H} {v : Int64} {a : Nat} (ha : a ≠ 108) : am_L (am_sL h 108 0 v) a = am_L h a := (am_fi.refl (S := [108]) (h := h)).sL (q := 108) (j := 0) (v := v) (by simp) |>.2.2.2.2.2.2.2 a (by simpa using ha)
/-- many is refused on both sides alike -/
def mk_no (kd nn : Int32) : Prop := ¬ (kd = 1 ∨ kd = 2 ∨ kd = 3) ∨ nn < 1 ∨ 1000 < nn
theorem l2_SR_many_no {d : Nat} {kd nn : Int32} {fr st : Int64} {h : am_H} (k2 : am_kd h 2 = 1) (i15 : am_I h 2 15 = 0) (hn : mk_no kd nn) : am_Rt nm_pr (d + 2) mi_SR_many [.ref 2, .int kd, .int nn, .long fr, .long st] h (fun o h' => o = .inr (1, am_nx h) ∧ h' = am_al h 0 0 6) := by
  have h3 : mt_SR_many.2.2 = [] := rfl
  have one0 : ¬ (1 : Int32) = 0 := by decide
  refine am_in' (d := d + 1) mt_SR_many 10 rfl rfl rfl ?_
  refine am_go [] 2 ?_
  simp only [am_wp, am_stp, am_en, am_as, am_pad, am_nth, am_set, am_st1, am_st2, am_kl, am_kill, am_mem, am_fv, am_tk, am_wt, am_bk, Option.toList, List.cons_append, List.nil_append, Nat.reduceAdd, Nat.reduceEqDiff, Nat.reduceLeDiff, reduceIte, Nat.reduceLT, or_self, true_or, or_true, if_true, if_false, and_self, and_true, true_and, not_false_eq_true, not_true_eq_false, fd_SR_many_0, fd_SR_many_1, k2]
  refine am_call (l2_requireUp k2 i15) (fun o h1 q => ?_)
  obtain ⟨rfl, rfl⟩ := q
  simp only [am_wp, am_stp, am_en, am_as, am_pad, am_nth, am_set, am_st1, am_st2, am_kl, am_kill, am_mem, am_fv, am_tk, am_wt, am_bk, Option.toList, List.cons_append, List.nil_append, Nat.reduceAdd, Nat.reduceEqDiff, Nat.reduceLeDiff, reduceIte, Nat.reduceLT, or_self, true_or, or_true, if_true, if_false, and_self, and_true, true_and, not_false_eq_true, not_true_eq_false]
  refine am_go [] 2 ?_
  simp only [am_wp, am_stp, am_en, am_as, am_pad, am_nth, am_set, am_st1, am_st2, am_kl, am_kill, am_mem, am_fv, am_tk, am_wt, am_bk, Option.toList, List.cons_append, List.nil_append, Nat.reduceAdd, Nat.reduceEqDiff, Nat.reduceLeDiff, reduceIte, Nat.reduceLT, or_self, true_or, or_true, if_true, if_false, and_self, and_true, true_and, not_false_eq_true, not_true_eq_false, fd_SR_many_4, fd_SR_many_5]
  refine am_call l2_isKind (fun o h1 q => ?_)
  obtain ⟨rfl, rfl⟩ := q
  by_cases ek : kd = 1 ∨ kd = 2 ∨ kd = 3
  · rw [if_pos ek]
    simp only [am_wp, am_stp, am_en, am_as, am_pad, am_nth, am_set, am_st1, am_st2, am_kl, am_kill, am_mem, am_fv, am_tk, am_wt, am_bk, Option.toList, List.cons_append, List.nil_append, Nat.reduceAdd, Nat.reduceEqDiff, Nat.reduceLeDiff, reduceIte, Nat.reduceLT, or_self, true_or, or_true, if_true, if_false, and_self, and_true, true_and, not_false_eq_true, not_true_eq_false]
    refine am_go [11, 23] 1 ?_
    simp only [am_wp, am_stp, am_en, am_as, am_pad, am_nth, am_set, am_st1, am_st2, am_kl, am_kill, am_mem, am_fv, am_tk, am_wt, am_bk, Option.toList, List.cons_append, List.nil_append, Nat.reduceAdd, Nat.reduceEqDiff, Nat.reduceLeDiff, reduceIte, Nat.reduceLT, or_self, true_or, or_true, if_true, if_false, and_self, and_true, true_and, not_false_eq_true, not_true_eq_false, fd_SR_many_8, one0]
    refine am_go [16, 23] 3 ?_
    simp only [am_wp, am_stp, am_en, am_as, am_pad, am_nth, am_set, am_st1, am_st2, am_kl, am_kill, am_mem, am_fv, am_tk, am_wt, am_bk, Option.toList, List.cons_append, List.nil_append, Nat.reduceAdd, Nat.reduceEqDiff, Nat.reduceLeDiff, reduceIte, Nat.reduceLT, or_self, true_or, or_true, if_true, if_false, and_self, and_true, true_and, not_false_eq_true, not_true_eq_false, fd_SR_many_11, fd_SR_many_12, fd_SR_many_13]
    by_cases e1 : nn < 1
    · simp only [e1, am_wp, am_stp, am_en, am_as, am_pad, am_nth, am_set, am_st1, am_st2, am_kl, am_kill, am_mem, am_fv, am_tk, am_wt, am_bk, Option.toList, List.cons_append, List.nil_append, Nat.reduceAdd, Nat.reduceEqDiff, Nat.reduceLeDiff, reduceIte, Nat.reduceLT, or_self, true_or, or_true, if_true, if_false, and_self, and_true, true_and, not_false_eq_true, not_true_eq_false]
      refine am_go [] 3 ?_
      simp only [am_wp, am_stp, am_en, am_as, am_pad, am_nth, am_set, am_st1, am_st2, am_kl, am_kill, am_mem, am_fv, am_tk, am_wt, am_bk, Option.toList, List.cons_append, List.nil_append, Nat.reduceAdd, Nat.reduceEqDiff, Nat.reduceLeDiff, reduceIte, Nat.reduceLT, or_self, true_or, or_true, if_true, if_false, and_self, and_true, true_and, not_false_eq_true, not_true_eq_false, fd_SR_many_23]
    · simp only [e1, am_wp, am_stp, am_en, am_as, am_pad, am_nth, am_set, am_st1, am_st2, am_kl, am_kill, am_mem, am_fv, am_tk, am_wt, am_bk, Option.toList, List.cons_append, List.nil_append, Nat.reduceAdd, Nat.reduceEqDiff, Nat.reduceLeDiff, reduceIte, Nat.reduceLT, or_self, true_or, or_true, if_true, if_false, and_self, and_true, true_and, not_false_eq_true, not_true_eq_false]
      have e2 : 1000 < nn := (hn.resolve_left (fun q => q ek)).resolve_left e1
      refine am_go [23, 33] 3 ?_
      simp only [am_wp, am_stp, am_en, am_as, am_pad, am_nth, am_set, am_st1, am_st2, am_kl, am_kill, am_mem, am_fv, am_tk, am_wt, am_bk, Option.toList, List.cons_append, List.nil_append, Nat.reduceAdd, Nat.reduceEqDiff, Nat.reduceLeDiff, reduceIte, Nat.reduceLT, or_self, true_or, or_true, if_true, if_false, and_self, and_true, true_and, not_false_eq_true, not_true_eq_false, fd_SR_many_16, fd_SR_many_17, fd_SR_many_20, e2]
      refine am_go [] 3 ?_
      simp only [am_wp, am_stp, am_en, am_as, am_pad, am_nth, am_set, am_st1, am_st2, am_kl, am_kill, am_mem, am_fv, am_tk, am_wt, am_bk, Option.toList, List.cons_append, List.nil_append, Nat.reduceAdd, Nat.reduceEqDiff, Nat.reduceLeDiff, reduceIte, Nat.reduceLT, or_self, true_or, or_true, if_true, if_false, and_self, and_true, true_and, not_false_eq_true, not_true_eq_false, fd_SR_many_23]
  · rw [if_neg ek]
    simp only [am_wp, am_stp, am_en, am_as, am_pad, am_nth, am_set, am_st1, am_st2, am_kl, am_kill, am_mem, am_fv, am_tk, am_wt, am_bk, Option.toList, List.cons_append, List.nil_append, Nat.reduceAdd, Nat.reduceEqDiff, Nat.reduceLeDiff, reduceIte, Nat.reduceLT, or_self, true_or, or_true, if_true, if_false, and_self, and_true, true_and, not_false_eq_true, not_true_eq_false]
    refine am_go [11, 23] 1 ?_
    simp only [am_wp, am_stp, am_en, am_as, am_pad, am_nth, am_set, am_st1, am_st2, am_kl, am_kill, am_mem, am_fv, am_tk, am_wt, am_bk, Option.toList, List.cons_append, List.nil_append, Nat.reduceAdd, Nat.reduceEqDiff, Nat.reduceLeDiff, reduceIte, Nat.reduceLT, or_self, true_or, or_true, if_true, if_false, and_self, and_true, true_and, not_false_eq_true, not_true_eq_false, fd_SR_many_8]
    refine am_go [] 3 ?_
    simp only [am_wp, am_stp, am_en, am_as, am_pad, am_nth, am_set, am_st1, am_st2, am_kl, am_kill, am_mem, am_fv, am_tk, am_wt, am_bk, Option.toList, List.cons_append, List.nil_append, Nat.reduceAdd, Nat.reduceEqDiff, Nat.reduceLeDiff, reduceIte, Nat.reduceLT, or_self, true_or, or_true, if_true, if_false, and_self, and_true, true_and, not_false_eq_true, not_true_eq_false, fd_SR_many_23]
theorem l2_Mo_many_no {d : Nat} {kd nn : Int32} {fr st : Int64} {h : am_H} (k72 : am_kd h 72 = 12) (j3 : am_I h 72 3 = 0) (hn : mk_no kd nn) : am_Rt nm_pr (d + 1) mi_Mo_many [.ref 72, .int kd, .int nn, .long fr, .long st] h (fun o h' => o = .inl (some (.int 0)) ∧ h' = am_sI h 72 0 2) := by
  have t0 : ¬ (2 : Int32) = 0 := by decide
  refine am_in' (d := d) mt_Mo_many 11 rfl rfl rfl ?_
  refine am_go [12] 4 ?_
  simp only [am_wp, am_stp, am_en, am_as, am_pad, am_nth, am_set, am_st1, am_st2, am_kl, am_kill, am_mem, am_fv, am_tk, am_wt, am_bk, Option.toList, List.cons_append, List.nil_append, Nat.reduceAdd, Nat.reduceEqDiff, Nat.reduceLeDiff, reduceIte, Nat.reduceLT, or_self, true_or, or_true, if_true, if_false, and_self, and_true, true_and, not_false_eq_true, not_true_eq_false, fd_Mo_many_0, fd_Mo_many_1, fd_Mo_many_2, fd_Mo_many_5, k72, j3]
  have fin : am_Ex nm_pr d mt_Mo_many (34, [.ref 72, .int kd, .int nn, .long fr, .retAddr 0, .long st, .retAddr 0, .retAddr 0, .retAddr 0, .retAddr 0, .retAddr 0], [.ref 72], h) (fun o h' => o = .inl (some (.int 0)) ∧ h' = am_sI h 72 0 2) := by
    refine am_go [51] 9 ?_
    simp only [am_wp, am_stp, am_en, am_as, am_pad, am_nth, am_set, am_st1, am_st2, am_kl, am_kill, am_mem, am_fv, am_tk, am_wt, am_bk, Option.toList, List.cons_append, List.nil_append, Nat.reduceAdd, Nat.reduceEqDiff, Nat.reduceLeDiff, reduceIte, Nat.reduceLT, or_self, true_or, or_true, if_true, if_false, and_self, and_true, true_and, not_false_eq_true, not_true_eq_false, fd_Mo_many_34, fd_Mo_many_35, fd_Mo_many_38, fd_Mo_many_39, fd_Mo_many_42, fd_Mo_many_43, fd_Mo_many_46, fd_Mo_many_49, fd_Mo_many_50, hx_nx_sI, hx_ce_sI, hx_sl_sI, hx_kd_sI, hx_ln_sI, hx_I_sI, hx_L_sI, hx_R_sI, hx_nx_sL, hx_ce_sL, hx_sl_sL, hx_kd_sL, hx_ln_sL, hx_I_sL, hx_L_sL, hx_R_sL, hx_nx_sR, hx_ce_sR, hx_sl_sR, hx_kd_sR, hx_ln_sR, hx_I_sR, hx_L_sR, hx_R_sR, hx_nx_al, hx_ce_al, hx_sl_al, hx_kd_al, hx_ln_al, hx_I_al, hx_L_al, hx_R_al, hx_nx_row, hx_ce_row, hx_sl_row, hx_kd_row, hx_ln_row, hx_I_row, hx_L_row, hx_R_row, hx_nx_mk, hx_kd_mk, hx_ln_mk, hx_I_mk, hx_L_mk, hx_R_mk, k72, t0]
  refine am_go [17, 34] 3 ?_
  simp only [am_wp, am_stp, am_en, am_as, am_pad, am_nth, am_set, am_st1, am_st2, am_kl, am_kill, am_mem, am_fv, am_tk, am_wt, am_bk, Option.toList, List.cons_append, List.nil_append, Nat.reduceAdd, Nat.reduceEqDiff, Nat.reduceLeDiff, reduceIte, Nat.reduceLT, or_self, true_or, or_true, if_true, if_false, and_self, and_true, true_and, not_false_eq_true, not_true_eq_false, fd_Mo_many_12, fd_Mo_many_13, fd_Mo_many_14]
  by_cases e1 : kd < 1
  · simp only [e1, am_wp, am_stp, am_en, am_as, am_pad, am_nth, am_set, am_st1, am_st2, am_kl, am_kill, am_mem, am_fv, am_tk, am_wt, am_bk, Option.toList, List.cons_append, List.nil_append, Nat.reduceAdd, Nat.reduceEqDiff, Nat.reduceLeDiff, reduceIte, Nat.reduceLT, or_self, true_or, or_true, if_true, if_false, and_self, and_true, true_and, not_false_eq_true, not_true_eq_false]
    exact fin
  simp only [e1, am_wp, am_stp, am_en, am_as, am_pad, am_nth, am_set, am_st1, am_st2, am_kl, am_kill, am_mem, am_fv, am_tk, am_wt, am_bk, Option.toList, List.cons_append, List.nil_append, Nat.reduceAdd, Nat.reduceEqDiff, Nat.reduceLeDiff, reduceIte, Nat.reduceLT, or_self, true_or, or_true, if_true, if_false, and_self, and_true, true_and, not_false_eq_true, not_true_eq_false]
  refine am_go [22, 34] 3 ?_
  simp only [am_wp, am_stp, am_en, am_as, am_pad, am_nth, am_set, am_st1, am_st2, am_kl, am_kill, am_mem, am_fv, am_tk, am_wt, am_bk, Option.toList, List.cons_append, List.nil_append, Nat.reduceAdd, Nat.reduceEqDiff, Nat.reduceLeDiff, reduceIte, Nat.reduceLT, or_self, true_or, or_true, if_true, if_false, and_self, and_true, true_and, not_false_eq_true, not_true_eq_false, fd_Mo_many_17, fd_Mo_many_18, fd_Mo_many_19]
  by_cases e2 : 3 < kd
  · simp only [e2, am_wp, am_stp, am_en, am_as, am_pad, am_nth, am_set, am_st1, am_st2, am_kl, am_kill, am_mem, am_fv, am_tk, am_wt, am_bk, Option.toList, List.cons_append, List.nil_append, Nat.reduceAdd, Nat.reduceEqDiff, Nat.reduceLeDiff, reduceIte, Nat.reduceLT, or_self, true_or, or_true, if_true, if_false, and_self, and_true, true_and, not_false_eq_true, not_true_eq_false]
    exact fin
  simp only [e2, am_wp, am_stp, am_en, am_as, am_pad, am_nth, am_set, am_st1, am_st2, am_kl, am_kill, am_mem, am_fv, am_tk, am_wt, am_bk, Option.toList, List.cons_append, List.nil_append, Nat.reduceAdd, Nat.reduceEqDiff, Nat.reduceLeDiff, reduceIte, Nat.reduceLT, or_self, true_or, or_true, if_true, if_false, and_self, and_true, true_and, not_false_eq_true, not_true_eq_false]
  have ek := (kd_123 kd).mp ⟨e1, e2⟩
  refine am_go [27, 34] 3 ?_
  simp only [am_wp, am_stp, am_en, am_as, am_pad, am_nth, am_set, am_st1, am_st2, am_kl, am_kill, am_mem, am_fv, am_tk, am_wt, am_bk, Option.toList, List.cons_append, List.nil_append, Nat.reduceAdd, Nat.reduceEqDiff, Nat.reduceLeDiff, reduceIte, Nat.reduceLT, or_self, true_or, or_true, if_true, if_false, and_self, and_true, true_and, not_false_eq_true, not_true_eq_false, fd_Mo_many_22, fd_Mo_many_23, fd_Mo_many_24]
  by_cases e3 : nn < 1
  · simp only [e3, am_wp, am_stp, am_en, am_as, am_pad, am_nth, am_set, am_st1, am_st2, am_kl, am_kill, am_mem, am_fv, am_tk, am_wt, am_bk, Option.toList, List.cons_append, List.nil_append, Nat.reduceAdd, Nat.reduceEqDiff, Nat.reduceLeDiff, reduceIte, Nat.reduceLT, or_self, true_or, or_true, if_true, if_false, and_self, and_true, true_and, not_false_eq_true, not_true_eq_false]
    exact fin
  simp only [e3, am_wp, am_stp, am_en, am_as, am_pad, am_nth, am_set, am_st1, am_st2, am_kl, am_kill, am_mem, am_fv, am_tk, am_wt, am_bk, Option.toList, List.cons_append, List.nil_append, Nat.reduceAdd, Nat.reduceEqDiff, Nat.reduceLeDiff, reduceIte, Nat.reduceLT, or_self, true_or, or_true, if_true, if_false, and_self, and_true, true_and, not_false_eq_true, not_true_eq_false]
  have e4 : 1000 < nn := (hn.resolve_left (fun q => q ek)).resolve_left e3
  refine am_go [34, 38] 3 ?_
  simp only [am_wp, am_stp, am_en, am_as, am_pad, am_nth, am_set, am_st1, am_st2, am_kl, am_kill, am_mem, am_fv, am_tk, am_wt, am_bk, Option.toList, List.cons_append, List.nil_append, Nat.reduceAdd, Nat.reduceEqDiff, Nat.reduceLeDiff, reduceIte, Nat.reduceLT, or_self, true_or, or_true, if_true, if_false, and_self, and_true, true_and, not_false_eq_true, not_true_eq_false, fd_Mo_many_27, fd_Mo_many_28, fd_Mo_many_31, e4]
  exact fin
theorem op_many (xs : Nat → Int32) : lw_op xs 500 := by
  refine ox_many (fun d h G => ?_)
  obtain ⟨g1, g2, g3, g4, g5, g6, g7, g8, g9, g10⟩ := id G
  obtain ⟨s1, s2, s3⟩ := g4.2.2.2.2.2.2.2.2.2.2.2.2.2.2
  have i15 : am_I h 2 15 = 0 := by rw [s3]; rfl
  have hh : mt_La_many.2.2 = [(0, 14, 17, 0), (0, 14, 21, 1)] := rfl
  have i0 : ¬ ((0 : Int32) < 0 ∨ 1 ≤ (0 : Int32).toNatClampNeg) := by decide
  have c0 : (0 : Int32).toNatClampNeg = 0 := by decide
  have le0 : ¬ ((0 : Int32) < 0) := by decide
  have one0 : ¬ (1 : Int32) = 0 := by decide
  obtain ⟨-, P4, P1024⟩ := pg_spec (sc_0 8 xs)
  generalize lg_2 (xs 4) (xs 5) = fr
  generalize lg_2 (xs 6) (xs 7) = st
  generalize xs 2 = kd
  generalize xs 3 = nn
  refine am_in' (d := d + 11) mt_La_many 9 rfl rfl rfl ?_
  refine am_go [] 8 ?_
  simp only [am_wp, am_stp, am_en, am_as, am_pad, am_nth, am_set, am_st1, am_st2, am_kl, am_kill, am_mem, am_fv, am_tk, am_wt, am_bk, Option.toList, List.cons_append, List.nil_append, Nat.reduceAdd, Nat.reduceEqDiff, Nat.reduceLeDiff, reduceIte, Nat.reduceLT, or_self, true_or, or_true, if_true, if_false, and_self, and_true, true_and, not_false_eq_true, not_true_eq_false, fd_La_many_0, fd_La_many_2, fd_La_many_3, fd_La_many_4, fd_La_many_5, fd_La_many_6, fd_La_many_7, fd_La_many_9, s1]
  by_cases hn : mk_no kd nn
  · refine am_call (l2_SR_many_no (d := d + 9) s1 i15 hn) (fun o h1 q => ?_)
    obtain ⟨rfl, rfl⟩ := q
    simp only [am_wp, am_stp, am_en, am_as, am_pad, am_nth, am_set, am_st1, am_st2, am_kl, am_kill, am_mem, am_fv, am_tk, am_wt, am_bk, Option.toList, List.cons_append, List.nil_append, Nat.reduceAdd, Nat.reduceEqDiff, Nat.reduceLeDiff, reduceIte, Nat.reduceLT, or_self, true_or, or_true, if_true, if_false, and_self, and_true, true_and, not_false_eq_true, not_true_eq_false, hh, am_hd]
    refine am_go [] 10 ?_
    simp only [am_wp, am_stp, am_en, am_as, am_pad, am_nth, am_set, am_st1, am_st2, am_kl, am_kill, am_mem, am_fv, am_tk, am_wt, am_bk, Option.toList, List.cons_append, List.nil_append, Nat.reduceAdd, Nat.reduceEqDiff, Nat.reduceLeDiff, reduceIte, Nat.reduceLT, or_self, true_or, or_true, if_true, if_false, and_self, and_true, true_and, not_false_eq_true, not_true_eq_false, fd_La_many_21, fd_La_many_23, fd_La_many_24]
    have C := lw_C.ex G
    refine ⟨2, 0, rfl, C, fun e => absurd e (by decide), ?_⟩
    have hM := C.mo g5
    have k72 := hM.1.1
    have j3 : am_I (am_al h 0 0 6) 72 3 = 0 := by rw [hM.2.1]; rfl
    refine am_call (l2_Mo_many_no (d := d + 11) k72 j3 hn) (fun o h2 q => ?_)
    obtain ⟨rfl, rfl⟩ := q
    exact ⟨0, rfl, lw_D.fi (S := [72]) (am_fi.refl.sI (by simp)) (by simp), by simp only [hx_nx_sI, hx_ce_sI, hx_sl_sI, hx_kd_sI, hx_ln_sI, hx_I_sI, hx_L_sI, hx_R_sI, hx_nx_sL, hx_ce_sL, hx_sl_sL, hx_kd_sL, hx_ln_sL, hx_I_sL, hx_L_sL, hx_R_sL, hx_nx_sR, hx_ce_sR, hx_sl_sR, hx_kd_sR, hx_ln_sR, hx_I_sR, hx_L_sR, hx_R_sR, hx_nx_al, hx_ce_al, hx_sl_al, hx_kd_al, hx_ln_al, hx_I_al, hx_L_al, hx_R_al, hx_nx_row, hx_ce_row, hx_sl_row, hx_kd_row, hx_ln_row, hx_I_row, hx_L_row, hx_R_row, hx_nx_mk, hx_kd_mk, hx_ln_mk, hx_I_mk, hx_L_mk, hx_R_mk, am_wp, am_stp, am_en, am_as, am_pad, am_nth, am_set, am_st1, am_st2, am_kl, am_kill, am_mem, am_fv, am_tk, am_wt, am_bk, Option.toList, List.cons_append, List.nil_append, Nat.reduceAdd, Nat.reduceEqDiff, Nat.reduceLeDiff, reduceIte, Nat.reduceLT, or_self, true_or, or_true, if_true, if_false, and_self, and_true, true_and, not_false_eq_true, not_true_eq_false], fun e => absurd e (by decide)⟩
  · have ek : kd = 1 ∨ kd = 2 ∨ kd = 3 := by
      by_cases e : kd = 1 ∨ kd = 2 ∨ kd = 3
      · exact e
      · exact absurd (Or.inl e) hn
    have e1 : ¬ nn < 1 := fun q => hn (Or.inr (Or.inl q))
    have e2 : ¬ 1000 < nn := fun q => hn (Or.inr (Or.inr q))
    obtain ⟨n0, en, n1, n2⟩ := nn_1000 e1 e2
    have ek2 := (kd_123 kd).mpr ek
    have z4 : am_L h 4 = fun _ => 0 := funext g4.1.1.2.1.2.2.1.2
    have z5 : am_I h 5 = fun _ => 0 := funext g4.1.1.2.2.1.2.2.1.1
    have z6 : am_L h 6 = fun _ => 0 := funext g4.1.1.2.2.2.1.2.2.1.2
    have c := cl_S_new g4 g1
    obtain ⟨r, A, B⟩ := mn_both (P := pg_n (sc_0 8 xs)) (fr := fr) (st := st) n2 ek n0 0 (by omega) fr 0 (fun _ => 0) (fun _ => 0) (fun _ => 0) [] ⟨by omega, fun i j _ hj => by omega, fun i hi => by omega⟩ trivial (by decide) (by decide)
    refine am_call (Q := fun o h' => o = .inl (some (.int (nI r))) ∧ lf (2 * n0) h h') ?_ (fun o h1 q => ?_)
    · refine am_in' (d := d + 10) mt_SR_many 10 rfl rfl rfl ?_
      refine am_go [] 2 ?_
      simp only [am_wp, am_stp, am_en, am_as, am_pad, am_nth, am_set, am_st1, am_st2, am_kl, am_kill, am_mem, am_fv, am_tk, am_wt, am_bk, Option.toList, List.cons_append, List.nil_append, Nat.reduceAdd, Nat.reduceEqDiff, Nat.reduceLeDiff, reduceIte, Nat.reduceLT, or_self, true_or, or_true, if_true, if_false, and_self, and_true, true_and, not_false_eq_true, not_true_eq_false, fd_SR_many_0, fd_SR_many_1, s1]
      refine am_call (l2_requireUp s1 i15) (fun o h1 q => ?_)
      obtain ⟨rfl, rfl⟩ := q
      simp only [am_wp, am_stp, am_en, am_as, am_pad, am_nth, am_set, am_st1, am_st2, am_kl, am_kill, am_mem, am_fv, am_tk, am_wt, am_bk, Option.toList, List.cons_append, List.nil_append, Nat.reduceAdd, Nat.reduceEqDiff, Nat.reduceLeDiff, reduceIte, Nat.reduceLT, or_self, true_or, or_true, if_true, if_false, and_self, and_true, true_and, not_false_eq_true, not_true_eq_false]
      refine am_go [] 2 ?_
      simp only [am_wp, am_stp, am_en, am_as, am_pad, am_nth, am_set, am_st1, am_st2, am_kl, am_kill, am_mem, am_fv, am_tk, am_wt, am_bk, Option.toList, List.cons_append, List.nil_append, Nat.reduceAdd, Nat.reduceEqDiff, Nat.reduceLeDiff, reduceIte, Nat.reduceLT, or_self, true_or, or_true, if_true, if_false, and_self, and_true, true_and, not_false_eq_true, not_true_eq_false, fd_SR_many_4, fd_SR_many_5]
      refine am_call l2_isKind (fun o h1 q => ?_)
      obtain ⟨rfl, rfl⟩ := q
      rw [if_pos ek]
      simp only [am_wp, am_stp, am_en, am_as, am_pad, am_nth, am_set, am_st1, am_st2, am_kl, am_kill, am_mem, am_fv, am_tk, am_wt, am_bk, Option.toList, List.cons_append, List.nil_append, Nat.reduceAdd, Nat.reduceEqDiff, Nat.reduceLeDiff, reduceIte, Nat.reduceLT, or_self, true_or, or_true, if_true, if_false, and_self, and_true, true_and, not_false_eq_true, not_true_eq_false]
      refine am_go [23, 33] 7 ?_
      simp only [am_wp, am_stp, am_en, am_as, am_pad, am_nth, am_set, am_st1, am_st2, am_kl, am_kill, am_mem, am_fv, am_tk, am_wt, am_bk, Option.toList, List.cons_append, List.nil_append, Nat.reduceAdd, Nat.reduceEqDiff, Nat.reduceLeDiff, reduceIte, Nat.reduceLT, or_self, true_or, or_true, if_true, if_false, and_self, and_true, true_and, not_false_eq_true, not_true_eq_false, fd_SR_many_8, fd_SR_many_11, fd_SR_many_12, fd_SR_many_13, fd_SR_many_16, fd_SR_many_17, fd_SR_many_20, one0, e1, e2]
      refine am_go [39] 4 ?_
      simp only [am_wp, am_stp, am_en, am_as, am_pad, am_nth, am_set, am_st1, am_st2, am_kl, am_kill, am_mem, am_fv, am_tk, am_wt, am_bk, Option.toList, List.cons_append, List.nil_append, Nat.reduceAdd, Nat.reduceEqDiff, Nat.reduceLeDiff, reduceIte, Nat.reduceLT, or_self, true_or, or_true, if_true, if_false, and_self, and_true, true_and, not_false_eq_true, not_true_eq_false, fd_SR_many_33, fd_SR_many_34, fd_SR_many_36, fd_SR_many_37]
      rw [en]
      exact A (d + 2) _ [] c rfl z4 z5 z6
    obtain ⟨rfl, hf⟩ := q
    simp only [am_wp, am_stp, am_en, am_as, am_pad, am_nth, am_set, am_st1, am_st2, am_kl, am_kill, am_mem, am_fv, am_tk, am_wt, am_bk, Option.toList, List.cons_append, List.nil_append, Nat.reduceAdd, Nat.reduceEqDiff, Nat.reduceLeDiff, reduceIte, Nat.reduceLT, or_self, true_or, or_true, if_true, if_false, and_self, and_true, true_and, not_false_eq_true, not_true_eq_false]
    obtain ⟨f1, f2, f3, f4⟩ := id hf
    obtain ⟨y1, y2, -⟩ := f1 108 (Or.inr (by decide))
    have k108 : am_kd h1 108 = 101 := y1.trans g9
    have l108 : am_ln h1 108 = 1 := y2.trans g10
    refine am_go [] 10 ?_
    simp only [am_wp, am_stp, am_en, am_as, am_pad, am_nth, am_set, am_st1, am_st2, am_kl, am_kill, am_mem, am_fv, am_tk, am_wt, am_bk, Option.toList, List.cons_append, List.nil_append, Nat.reduceAdd, Nat.reduceEqDiff, Nat.reduceLeDiff, reduceIte, Nat.reduceLT, or_self, true_or, or_true, if_true, if_false, and_self, and_true, true_and, not_false_eq_true, not_true_eq_false, fd_La_many_12, fd_La_many_13, fd_La_many_14, fd_La_many_25, fd_La_many_26, k108, l108, i0, c0, le0]
    have C : lw_C h (am_sL h1 108 0 (nI r).toInt64) := by
      refine ⟨fun a ha => ?_, ?_, ?_, ?_, ?_⟩
      · obtain ⟨x1, x2, x3, x4, x5⟩ := f1 a (by omega)
        refine ⟨x1, x2, x3, ?_, x5⟩
        have : am_L (am_sL h1 108 0 (nI r).toInt64) a = am_L h1 a := am_fi_L108 (by omega)
        rw [this]; exact x4
      · exact k108
      · exact l108
      · show am_ce h1 ≤ _
        omega
      · show am_sl h1 ≤ _
        omega
    refine ⟨0, (nI r).toInt64, rfl, C, fun _ => by simp only [hx_nx_sI, hx_ce_sI, hx_sl_sI, hx_kd_sI, hx_ln_sI, hx_I_sI, hx_L_sI, hx_R_sI, hx_nx_sL, hx_ce_sL, hx_sl_sL, hx_kd_sL, hx_ln_sL, hx_I_sL, hx_L_sL, hx_R_sL, hx_nx_sR, hx_ce_sR, hx_sl_sR, hx_kd_sR, hx_ln_sR, hx_I_sR, hx_L_sR, hx_R_sR, hx_nx_al, hx_ce_al, hx_sl_al, hx_kd_al, hx_ln_al, hx_I_al, hx_L_al, hx_R_al, hx_nx_row, hx_ce_row, hx_sl_row, hx_kd_row, hx_ln_row, hx_I_row, hx_L_row, hx_R_row, hx_nx_mk, hx_kd_mk, hx_ln_mk, hx_I_mk, hx_L_mk, hx_R_mk, am_wp, am_stp, am_en, am_as, am_pad, am_nth, am_set, am_st1, am_st2, am_kl, am_kill, am_mem, am_fv, am_tk, am_wt, am_bk, Option.toList, List.cons_append, List.nil_append, Nat.reduceAdd, Nat.reduceEqDiff, Nat.reduceLeDiff, reduceIte, Nat.reduceLT, or_self, true_or, or_true, if_true, if_false, and_self, and_true, true_and, not_false_eq_true, not_true_eq_false], ?_⟩
    have hM := C.mo g5
    have k72 := hM.1.1
    generalize am_sL h1 108 0 (nI r).toInt64 = g at *
    have R := rf_S_new hM P4 P1024
    have j3 : am_I g 72 3 = 0 := by rw [hM.2.1]; rfl
    have j0 : am_I g 72 0 = 0 := by rw [hM.2.1]; rfl
    have w4 : am_L g 74 = fun _ => 0 := funext (hM.2.2.2.2.1 1 (101, 64, 12) (by decide) (by decide) rfl).2.2.1.2
    have w5 : am_I g 75 = fun _ => 0 := funext (hM.2.2.2.2.1 2 (100, 64, 13) (by decide) (by decide) rfl).2.2.1.1
    have w6 : am_L g 76 = fun _ => 0 := funext (hM.2.2.2.2.1 3 (101, 64, 14) (by decide) (by decide) rfl).2.2.1.2
    have sid : am_sI g 72 0 0 = g := hx_sI_id j0
    refine am_call (Q := fun o h' => o = .inl (some (.int (nI r))) ∧ am_fi rf_v g h' ∧ am_I h' 72 0 = am_I g 72 0) ?_ (fun o h2 q => ?_)
    · refine am_in' (d := d + 11) mt_Mo_many 11 rfl rfl rfl ?_
      refine am_go [12] 4 ?_
      simp only [am_wp, am_stp, am_en, am_as, am_pad, am_nth, am_set, am_st1, am_st2, am_kl, am_kill, am_mem, am_fv, am_tk, am_wt, am_bk, Option.toList, List.cons_append, List.nil_append, Nat.reduceAdd, Nat.reduceEqDiff, Nat.reduceLeDiff, reduceIte, Nat.reduceLT, or_self, true_or, or_true, if_true, if_false, and_self, and_true, true_and, not_false_eq_true, not_true_eq_false, fd_Mo_many_0, fd_Mo_many_1, fd_Mo_many_2, fd_Mo_many_5, k72, j3]
      refine am_go [34, 38] 12 ?_
      simp only [am_wp, am_stp, am_en, am_as, am_pad, am_nth, am_set, am_st1, am_st2, am_kl, am_kill, am_mem, am_fv, am_tk, am_wt, am_bk, Option.toList, List.cons_append, List.nil_append, Nat.reduceAdd, Nat.reduceEqDiff, Nat.reduceLeDiff, reduceIte, Nat.reduceLT, or_self, true_or, or_true, if_true, if_false, and_self, and_true, true_and, not_false_eq_true, not_true_eq_false, fd_Mo_many_12, fd_Mo_many_13, fd_Mo_many_14, fd_Mo_many_17, fd_Mo_many_18, fd_Mo_many_19, fd_Mo_many_22, fd_Mo_many_23, fd_Mo_many_24, fd_Mo_many_27, fd_Mo_many_28, fd_Mo_many_31, ek2.1, ek2.2, e1, e2]
      refine am_go [49, 51] 5 ?_
      simp only [am_wp, am_stp, am_en, am_as, am_pad, am_nth, am_set, am_st1, am_st2, am_kl, am_kill, am_mem, am_fv, am_tk, am_wt, am_bk, Option.toList, List.cons_append, List.nil_append, Nat.reduceAdd, Nat.reduceEqDiff, Nat.reduceLeDiff, reduceIte, Nat.reduceLT, or_self, true_or, or_true, if_true, if_false, and_self, and_true, true_and, not_false_eq_true, not_true_eq_false, fd_Mo_many_38, fd_Mo_many_39, fd_Mo_many_42, fd_Mo_many_43, fd_Mo_many_46, hx_nx_sI, hx_ce_sI, hx_sl_sI, hx_kd_sI, hx_ln_sI, hx_I_sI, hx_L_sI, hx_R_sI, hx_nx_sL, hx_ce_sL, hx_sl_sL, hx_kd_sL, hx_ln_sL, hx_I_sL, hx_L_sL, hx_R_sL, hx_nx_sR, hx_ce_sR, hx_sl_sR, hx_kd_sR, hx_ln_sR, hx_I_sR, hx_L_sR, hx_R_sR, hx_nx_al, hx_ce_al, hx_sl_al, hx_kd_al, hx_ln_al, hx_I_al, hx_L_al, hx_R_al, hx_nx_row, hx_ce_row, hx_sl_row, hx_kd_row, hx_ln_row, hx_I_row, hx_L_row, hx_R_row, hx_nx_mk, hx_kd_mk, hx_ln_mk, hx_I_mk, hx_L_mk, hx_R_mk, k72, sid, j0]
      refine am_go [57] 4 ?_
      simp only [am_wp, am_stp, am_en, am_as, am_pad, am_nth, am_set, am_st1, am_st2, am_kl, am_kill, am_mem, am_fv, am_tk, am_wt, am_bk, Option.toList, List.cons_append, List.nil_append, Nat.reduceAdd, Nat.reduceEqDiff, Nat.reduceLeDiff, reduceIte, Nat.reduceLT, or_self, true_or, or_true, if_true, if_false, and_self, and_true, true_and, not_false_eq_true, not_true_eq_false, fd_Mo_many_51, fd_Mo_many_52, fd_Mo_many_54, fd_Mo_many_55]
      rw [en]
      have b := B (d + 5) g [] (.retAddr 0) R rfl w4 w5 w6
      rw [j0] at b
      exact b
    · obtain ⟨rfl, q2, q3⟩ := q
      exact ⟨nI r, rfl, lw_D.fi q2 (by decide), q3.trans j0, fun _ => rfl⟩
