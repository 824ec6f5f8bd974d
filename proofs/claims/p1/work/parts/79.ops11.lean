/-! put, remove, fold ON A NEW OBJECT -/
theorem tb_S_new {h : am_H} (F : fr_T h) : tb_S h 0 := by
  obtain ⟨a, b, c, d, e⟩ := F
  exact ⟨a.1, by rw [a.2.2.2]; rfl, by rw [a.2.2.2]; rfl, by rw [a.2.2.2]; rfl, by rw [a.2.2.2]; rfl, b.1, b.2.1, c.1, c.2.1, d.1, d.2.1, e.1, a.2.2.1.1 4, by decide⟩
theorem tb_O_0 (f : Nat → Int64) : tb_O f 0 := fun i j _ h => by omega
theorem tb_H_0 (f : Nat → Int64) (p : Nat) (key : Int64) : tb_H f 0 p key = false := by simp [tb_H]
theorem l2_enterOne0 {d P : Nat} {key : Int64} {kd : Int32} {vl : Int64} {h : am_H} (F : fr_All P h) : am_Rt nm_pr (d + 3) mi_SR_enterOne [.ref 2, .long key, .int kd, .long vl] h (fun o h' => o = .inl (some (.int 1)) ∧ am_fi [3, 4, 5, 6, 7] h h') := by
  obtain ⟨s1, s2, s3⟩ := F.2.2.2.2.2.2.2.2.2.2.2.2.2.2
  have i15 : am_I h 2 15 = 0 := by rw [s3]; rfl
  have r2 : am_R h 2 2 = 3 := by rw [s2]; rfl
  have T := tb_S_new F.1.1
  have one0 : ¬ (1 : Int32) = 0 := by decide
  refine am_in' (d := d + 2) mt_SR_enterOne 6 rfl rfl rfl ?_
  refine am_go [] 2 ?_
  simp only [am_wp, am_stp, am_en, am_as, am_pad, am_nth, am_set, am_st1, am_st2, am_kl, am_kill, am_mem, am_fv, am_tk, am_wt, am_bk, Option.toList, List.cons_append, List.nil_append, Nat.reduceAdd, Nat.reduceEqDiff, Nat.reduceLeDiff, reduceIte, Nat.reduceLT, or_self, true_or, or_true, if_true, if_false, and_self, and_true, true_and, not_false_eq_true, not_true_eq_false, fd_SR_enterOne_0, fd_SR_enterOne_1, s1]
  refine am_call (l2_requireUp s1 i15) (fun o h1 q => ?_)
  obtain ⟨rfl, rfl⟩ := q
  simp only [am_wp, am_stp, am_en, am_as, am_pad, am_nth, am_set, am_st1, am_st2, am_kl, am_kill, am_mem, am_fv, am_tk, am_wt, am_bk, Option.toList, List.cons_append, List.nil_append, Nat.reduceAdd, Nat.reduceEqDiff, Nat.reduceLeDiff, reduceIte, Nat.reduceLT, or_self, true_or, or_true, if_true, if_false, and_self, and_true, true_and, not_false_eq_true, not_true_eq_false]
  refine am_go [] 4 ?_
  simp only [am_wp, am_stp, am_en, am_as, am_pad, am_nth, am_set, am_st1, am_st2, am_kl, am_kill, am_mem, am_fv, am_tk, am_wt, am_bk, Option.toList, List.cons_append, List.nil_append, Nat.reduceAdd, Nat.reduceEqDiff, Nat.reduceLeDiff, reduceIte, Nat.reduceLT, or_self, true_or, or_true, if_true, if_false, and_self, and_true, true_and, not_false_eq_true, not_true_eq_false, fd_SR_enterOne_4, fd_SR_enterOne_5, fd_SR_enterOne_8, fd_SR_enterOne_9, s1, r2, T.1]
  refine am_call (l2_hasPlaceFor T (tb_O_0 _)) (fun o h2 q => ?_)
  obtain ⟨p, -, rfl, rfl⟩ := q
  have i64 : ((0 : Nat) < 64 ∨ tb_H (am_L h2 4) 0 p key = true) = True := eq_true (Or.inl (by decide))
  simp only [i64, am_wp, am_stp, am_en, am_as, am_pad, am_nth, am_set, am_st1, am_st2, am_kl, am_kill, am_mem, am_fv, am_tk, am_wt, am_bk, Option.toList, List.cons_append, List.nil_append, Nat.reduceAdd, Nat.reduceEqDiff, Nat.reduceLeDiff, reduceIte, Nat.reduceLT, or_self, true_or, or_true, if_true, if_false, and_self, and_true, true_and, not_false_eq_true, not_true_eq_false]
  refine am_go [15, 25] 1 ?_
  simp only [am_wp, am_stp, am_en, am_as, am_pad, am_nth, am_set, am_st1, am_st2, am_kl, am_kill, am_mem, am_fv, am_tk, am_wt, am_bk, Option.toList, List.cons_append, List.nil_append, Nat.reduceAdd, Nat.reduceEqDiff, Nat.reduceLeDiff, reduceIte, Nat.reduceLT, or_self, true_or, or_true, if_true, if_false, and_self, and_true, true_and, not_false_eq_true, not_true_eq_false, fd_SR_enterOne_12, one0]
  refine am_go [] 6 ?_
  simp only [am_wp, am_stp, am_en, am_as, am_pad, am_nth, am_set, am_st1, am_st2, am_kl, am_kill, am_mem, am_fv, am_tk, am_wt, am_bk, Option.toList, List.cons_append, List.nil_append, Nat.reduceAdd, Nat.reduceEqDiff, Nat.reduceLeDiff, reduceIte, Nat.reduceLT, or_self, true_or, or_true, if_true, if_false, and_self, and_true, true_and, not_false_eq_true, not_true_eq_false, fd_SR_enterOne_25, fd_SR_enterOne_26, fd_SR_enterOne_29, fd_SR_enterOne_30, fd_SR_enterOne_31, fd_SR_enterOne_33, s1, r2, T.1]
  refine am_call (l2_enter T (tb_O_0 _) (fun p _ => Or.inl (by decide))) (fun o g q => ?_)
  obtain ⟨p', -, rfl, f, q⟩ := q
  unfold en_Q at q
  rw [tb_H_0] at q
  have T2 : tb_S g 1 := q.1
  simp only [am_wp, am_stp, am_en, am_as, am_pad, am_nth, am_set, am_st1, am_st2, am_kl, am_kill, am_mem, am_fv, am_tk, am_wt, am_bk, Option.toList, List.cons_append, List.nil_append, Nat.reduceAdd, Nat.reduceEqDiff, Nat.reduceLeDiff, reduceIte, Nat.reduceLT, or_self, true_or, or_true, if_true, if_false, and_self, and_true, true_and, not_false_eq_true, not_true_eq_false]
  have k2 : am_kd g 2 = 1 := by rw [f.2.2.2.1]; exact s1
  have w2 : am_R g 2 2 = 3 := by rw [f.2.2.2.2.2.1]; exact r2
  have e1 : am_I g 3 4 = 1 := T2.2.2.2.2.2.2.2.2.2.2.2.2.1
  refine am_go [] 6 ?_
  simp only [am_wp, am_stp, am_en, am_as, am_pad, am_nth, am_set, am_st1, am_st2, am_kl, am_kill, am_mem, am_fv, am_tk, am_wt, am_bk, Option.toList, List.cons_append, List.nil_append, Nat.reduceAdd, Nat.reduceEqDiff, Nat.reduceLeDiff, reduceIte, Nat.reduceLT, or_self, true_or, or_true, if_true, if_false, and_self, and_true, true_and, not_false_eq_true, not_true_eq_false, fd_SR_enterOne_36, fd_SR_enterOne_37, fd_SR_enterOne_40, fd_SR_enterOne_43, k2, w2, T2.1, e1]
  exact f
theorem l2_Mo_enter0 {d P : Nat} {key : Int64} {kd : Int32} {vl : Int64} {h : am_H} (hM : mo_All P h) (hk : kd ≠ 0) : am_Rt nm_pr (d + 3) mi_Mo_enter [.ref 72, .long key, .int kd, .long vl] h (fun o h' => o = .inl (some (.int 1)) ∧ am_fi [72, 74, 75, 76] h h' ∧ am_I h' 72 0 = 0) := by
  obtain ⟨m1, m2, m3, m4, m5, m6, m7⟩ := id hM
  have hS := hM.Sk
  have k72 := hS.1
  have j0 : am_I h 72 0 = 0 := by rw [m2]; rfl
  have j3 : am_I h 72 3 = 0 := by rw [m2]; rfl
  have j11 : am_I h 72 11 = nI 0 := by rw [m2]; rfl
  have z : am_sI h 72 0 0 = h := hx_sI_id j0
  have T : rt_S h 0 := ⟨hS, j11, by decide⟩
  have one0 : ¬ (1 : Int32) = 0 := by decide
  refine am_in' (d := d + 2) mt_Mo_enter 6 rfl rfl rfl ?_
  refine am_go [15] 6 ?_
  simp only [am_wp, am_stp, am_en, am_as, am_pad, am_nth, am_set, am_st1, am_st2, am_kl, am_kill, am_mem, am_fv, am_tk, am_wt, am_bk, Option.toList, List.cons_append, List.nil_append, Nat.reduceAdd, Nat.reduceEqDiff, Nat.reduceLeDiff, reduceIte, Nat.reduceLT, or_self, true_or, or_true, if_true, if_false, and_self, and_true, true_and, not_false_eq_true, not_true_eq_false, fd_Mo_enter_0, fd_Mo_enter_1, fd_Mo_enter_4, fd_Mo_enter_7, fd_Mo_enter_8, fd_Mo_enter_9, k72, j3]
  refine am_call (l2_Mo_hasPlace T (tb_O_0 _)) (fun o h2 q => ?_)
  obtain ⟨p, -, rfl, rfl⟩ := q
  have i64 : ((0 : Nat) < 64 ∨ tb_H (am_L h2 74) 0 p key = true) = True := eq_true (Or.inl (by decide))
  simp only [i64, am_wp, am_stp, am_en, am_as, am_pad, am_nth, am_set, am_st1, am_st2, am_kl, am_kill, am_mem, am_fv, am_tk, am_wt, am_bk, Option.toList, List.cons_append, List.nil_append, Nat.reduceAdd, Nat.reduceEqDiff, Nat.reduceLeDiff, reduceIte, Nat.reduceLT, or_self, true_or, or_true, if_true, if_false, and_self, and_true, true_and, not_false_eq_true, not_true_eq_false]
  refine am_go [15, 27] 4 ?_
  simp only [am_wp, am_stp, am_en, am_as, am_pad, am_nth, am_set, am_st1, am_st2, am_kl, am_kill, am_mem, am_fv, am_tk, am_wt, am_bk, Option.toList, List.cons_append, List.nil_append, Nat.reduceAdd, Nat.reduceEqDiff, Nat.reduceLeDiff, reduceIte, Nat.reduceLT, or_self, true_or, or_true, if_true, if_false, and_self, and_true, true_and, not_false_eq_true, not_true_eq_false, fd_Mo_enter_12, fd_Mo_enter_22, fd_Mo_enter_23, fd_Mo_enter_24, one0, k72]
  rw [z]
  refine am_go [] 5 ?_
  simp only [am_wp, am_stp, am_en, am_as, am_pad, am_nth, am_set, am_st1, am_st2, am_kl, am_kill, am_mem, am_fv, am_tk, am_wt, am_bk, Option.toList, List.cons_append, List.nil_append, Nat.reduceAdd, Nat.reduceEqDiff, Nat.reduceLeDiff, reduceIte, Nat.reduceLT, or_self, true_or, or_true, if_true, if_false, and_self, and_true, true_and, not_false_eq_true, not_true_eq_false, fd_Mo_enter_27, fd_Mo_enter_28, fd_Mo_enter_29, fd_Mo_enter_30, fd_Mo_enter_32, k72]
  refine am_call (l2_Mo_come T (tb_O_0 _) hk (fun p _ => Or.inl (by decide))) (fun o g q => ?_)
  obtain ⟨p', -, rfl, f, fo, q⟩ := q
  unfold co_Q at q
  rw [tb_H_0] at q
  have T2 : rt_S g 1 := q.1
  have e1 : am_I g 72 11 = 1 := T2.2.1
  simp only [am_wp, am_stp, am_en, am_as, am_pad, am_nth, am_set, am_st1, am_st2, am_kl, am_kill, am_mem, am_fv, am_tk, am_wt, am_bk, Option.toList, List.cons_append, List.nil_append, Nat.reduceAdd, Nat.reduceEqDiff, Nat.reduceLeDiff, reduceIte, Nat.reduceLT, or_self, true_or, or_true, if_true, if_false, and_self, and_true, true_and, not_false_eq_true, not_true_eq_false]
  refine am_go [] 4 ?_
  simp only [am_wp, am_stp, am_en, am_as, am_pad, am_nth, am_set, am_st1, am_st2, am_kl, am_kill, am_mem, am_fv, am_tk, am_wt, am_bk, Option.toList, List.cons_append, List.nil_append, Nat.reduceAdd, Nat.reduceEqDiff, Nat.reduceLeDiff, reduceIte, Nat.reduceLT, or_self, true_or, or_true, if_true, if_false, and_self, and_true, true_and, not_false_eq_true, not_true_eq_false, fd_Mo_enter_35, fd_Mo_enter_36, fd_Mo_enter_39, T2.1.1, e1]
  exact ⟨f, (fo 0 (by decide)).trans j0⟩
theorem op_put (xs : Nat → Int32) : lw_op xs 148 := by
  refine ox_put (fun d h G => ?_)
  obtain ⟨g1, g2, g3, g4, g5, g6, g7, g8, g9, g10⟩ := id G
  obtain ⟨s1, s2, s3⟩ := g4.2.2.2.2.2.2.2.2.2.2.2.2.2.2
  have i0 : ¬ ((0 : Int32) < 0 ∨ 1 ≤ (0 : Int32).toNatClampNeg) := by decide
  have c0 : (0 : Int32).toNatClampNeg = 0 := by decide
  have le0 : ¬ ((0 : Int32) < 0) := by decide
  refine am_in' (d := d + 11) mt_La_put 7 rfl rfl rfl ?_
  refine am_go [] 6 ?_
  simp only [am_wp, am_stp, am_en, am_as, am_pad, am_nth, am_set, am_st1, am_st2, am_kl, am_kill, am_mem, am_fv, am_tk, am_wt, am_bk, Option.toList, List.cons_append, List.nil_append, Nat.reduceAdd, Nat.reduceEqDiff, Nat.reduceLeDiff, reduceIte, Nat.reduceLT, or_self, true_or, or_true, if_true, if_false, and_self, and_true, true_and, not_false_eq_true, not_true_eq_false, fd_La_put_0, fd_La_put_2, fd_La_put_3, fd_La_put_4, fd_La_put_5, fd_La_put_6, s1]
  refine am_call (Q := fun o h' => o = .inl (some (.int 1)) ∧ am_fi [3, 4, 5, 6, 7] h h') ?_ (fun o h1 q => ?_)
  · refine am_in' (d := d + 10) mt_SR_put 5 rfl rfl rfl ?_
    refine am_go [] 5 ?_
    simp only [am_wp, am_stp, am_en, am_as, am_pad, am_nth, am_set, am_st1, am_st2, am_kl, am_kill, am_mem, am_fv, am_tk, am_wt, am_bk, Option.toList, List.cons_append, List.nil_append, Nat.reduceAdd, Nat.reduceEqDiff, Nat.reduceLeDiff, reduceIte, Nat.reduceLT, or_self, true_or, or_true, if_true, if_false, and_self, and_true, true_and, not_false_eq_true, not_true_eq_false, fd_SR_put_0, fd_SR_put_1, fd_SR_put_2, fd_SR_put_3, fd_SR_put_4, s1]
    refine am_call (l2_enterOne0 g4) (fun o h1 q => ?_)
    obtain ⟨rfl, f⟩ := q
    simp only [am_wp, am_stp, am_en, am_as, am_pad, am_nth, am_set, am_st1, am_st2, am_kl, am_kill, am_mem, am_fv, am_tk, am_wt, am_bk, Option.toList, List.cons_append, List.nil_append, Nat.reduceAdd, Nat.reduceEqDiff, Nat.reduceLeDiff, reduceIte, Nat.reduceLT, or_self, true_or, or_true, if_true, if_false, and_self, and_true, true_and, not_false_eq_true, not_true_eq_false]
    refine am_go [] 2 ?_
    simp only [am_wp, am_stp, am_en, am_as, am_pad, am_nth, am_set, am_st1, am_st2, am_kl, am_kill, am_mem, am_fv, am_tk, am_wt, am_bk, Option.toList, List.cons_append, List.nil_append, Nat.reduceAdd, Nat.reduceEqDiff, Nat.reduceLeDiff, reduceIte, Nat.reduceLT, or_self, true_or, or_true, if_true, if_false, and_self, and_true, true_and, not_false_eq_true, not_true_eq_false, fd_SR_put_7]
    exact f
  obtain ⟨rfl, hf⟩ := q
  simp only [am_wp, am_stp, am_en, am_as, am_pad, am_nth, am_set, am_st1, am_st2, am_kl, am_kill, am_mem, am_fv, am_tk, am_wt, am_bk, Option.toList, List.cons_append, List.nil_append, Nat.reduceAdd, Nat.reduceEqDiff, Nat.reduceLeDiff, reduceIte, Nat.reduceLT, or_self, true_or, or_true, if_true, if_false, and_self, and_true, true_and, not_false_eq_true, not_true_eq_false]
  have k108 : am_kd h1 108 = 101 := by rw [hf.2.2.2.1]; exact g9
  have l108 : am_ln h1 108 = 1 := by rw [hf.2.2.2.2.1]; exact g10
  refine am_go [] 10 ?_
  simp only [am_wp, am_stp, am_en, am_as, am_pad, am_nth, am_set, am_st1, am_st2, am_kl, am_kill, am_mem, am_fv, am_tk, am_wt, am_bk, Option.toList, List.cons_append, List.nil_append, Nat.reduceAdd, Nat.reduceEqDiff, Nat.reduceLeDiff, reduceIte, Nat.reduceLT, or_self, true_or, or_true, if_true, if_false, and_self, and_true, true_and, not_false_eq_true, not_true_eq_false, fd_La_put_9, fd_La_put_10, fd_La_put_11, fd_La_put_18, fd_La_put_19, k108, l108, i0, c0, le0]
  have C := lw_C.fi (S := [3, 4, 5, 6, 7, 108]) G ((hf.sub (by simp)).sL (q := 108) (j := 0) (v := (1 : Int32).toInt64) (by simp)) (by simp)
  refine ⟨0, (1 : Int32).toInt64, rfl, C, fun _ => by simp only [hx_nx_sI, hx_ce_sI, hx_sl_sI, hx_kd_sI, hx_ln_sI, hx_I_sI, hx_L_sI, hx_R_sI, hx_nx_sL, hx_ce_sL, hx_sl_sL, hx_kd_sL, hx_ln_sL, hx_I_sL, hx_L_sL, hx_R_sL, hx_nx_sR, hx_ce_sR, hx_sl_sR, hx_kd_sR, hx_ln_sR, hx_I_sR, hx_L_sR, hx_R_sR, hx_nx_al, hx_ce_al, hx_sl_al, hx_kd_al, hx_ln_al, hx_I_al, hx_L_al, hx_R_al, hx_nx_row, hx_ce_row, hx_sl_row, hx_kd_row, hx_ln_row, hx_I_row, hx_L_row, hx_R_row, hx_nx_mk, hx_kd_mk, hx_ln_mk, hx_I_mk, hx_L_mk, hx_R_mk, am_wp, am_stp, am_en, am_as, am_pad, am_nth, am_set, am_st1, am_st2, am_kl, am_kill, am_mem, am_fv, am_tk, am_wt, am_bk, Option.toList, List.cons_append, List.nil_append, Nat.reduceAdd, Nat.reduceEqDiff, Nat.reduceLeDiff, reduceIte, Nat.reduceLT, or_self, true_or, or_true, if_true, if_false, and_self, and_true, true_and, not_false_eq_true, not_true_eq_false], ?_⟩
  have hM := C.mo g5
  have k72 := hM.1.1
  generalize am_sL h1 108 0 (1 : Int32).toInt64 = g at *
  refine am_call (Q := fun o h' => o = .inl (some (.int 1)) ∧ am_fi [72, 74, 75, 76] g h' ∧ am_I h' 72 0 = 0) ?_ (fun o h2 q => ?_)
  · refine am_in' (d := d + 11) mt_Mo_put 5 rfl rfl rfl ?_
    refine am_go [] 5 ?_
    simp only [am_wp, am_stp, am_en, am_as, am_pad, am_nth, am_set, am_st1, am_st2, am_kl, am_kill, am_mem, am_fv, am_tk, am_wt, am_bk, Option.toList, List.cons_append, List.nil_append, Nat.reduceAdd, Nat.reduceEqDiff, Nat.reduceLeDiff, reduceIte, Nat.reduceLT, or_self, true_or, or_true, if_true, if_false, and_self, and_true, true_and, not_false_eq_true, not_true_eq_false, fd_Mo_put_0, fd_Mo_put_1, fd_Mo_put_2, fd_Mo_put_3, fd_Mo_put_4, k72]
    refine am_call (l2_Mo_enter0 hM (by decide)) (fun o h2 q => ?_)
    obtain ⟨rfl, f, f0⟩ := q
    simp only [am_wp, am_stp, am_en, am_as, am_pad, am_nth, am_set, am_st1, am_st2, am_kl, am_kill, am_mem, am_fv, am_tk, am_wt, am_bk, Option.toList, List.cons_append, List.nil_append, Nat.reduceAdd, Nat.reduceEqDiff, Nat.reduceLeDiff, reduceIte, Nat.reduceLT, or_self, true_or, or_true, if_true, if_false, and_self, and_true, true_and, not_false_eq_true, not_true_eq_false]
    refine am_go [] 2 ?_
    simp only [am_wp, am_stp, am_en, am_as, am_pad, am_nth, am_set, am_st1, am_st2, am_kl, am_kill, am_mem, am_fv, am_tk, am_wt, am_bk, Option.toList, List.cons_append, List.nil_append, Nat.reduceAdd, Nat.reduceEqDiff, Nat.reduceLeDiff, reduceIte, Nat.reduceLT, or_self, true_or, or_true, if_true, if_false, and_self, and_true, true_and, not_false_eq_true, not_true_eq_false, fd_Mo_put_7]
    exact ⟨f, f0⟩
  · obtain ⟨rfl, q2, q3⟩ := q
    exact ⟨1, rfl, lw_D.fi q2 (by simp), q3, fun _ => rfl⟩
theorem op_remove (xs : Nat → Int32) : lw_op xs 280 := by
  refine ox_remove (fun d h G => ?_)
  obtain ⟨g1, g2, g3, g4, g5, g6, g7, g8, g9, g10⟩ := id G
  obtain ⟨s1, s2, s3⟩ := g4.2.2.2.2.2.2.2.2.2.2.2.2.2.2
  have i0 : ¬ ((0 : Int32) < 0 ∨ 1 ≤ (0 : Int32).toNatClampNeg) := by decide
  have c0 : (0 : Int32).toNatClampNeg = 0 := by decide
  have le0 : ¬ ((0 : Int32) < 0) := by decide
  refine am_in' (d := d + 11) mt_La_remove 5 rfl rfl rfl ?_
  refine am_go [] 5 ?_
  simp only [am_wp, am_stp, am_en, am_as, am_pad, am_nth, am_set, am_st1, am_st2, am_kl, am_kill, am_mem, am_fv, am_tk, am_wt, am_bk, Option.toList, List.cons_append, List.nil_append, Nat.reduceAdd, Nat.reduceEqDiff, Nat.reduceLeDiff, reduceIte, Nat.reduceLT, or_self, true_or, or_true, if_true, if_false, and_self, and_true, true_and, not_false_eq_true, not_true_eq_false, fd_La_remove_0, fd_La_remove_1, fd_La_remove_2, fd_La_remove_3, fd_La_remove_4, s1]
  refine am_call (Q := fun o h' => o = .inl (some (.int 1)) ∧ am_fi [3, 4, 5, 6, 7] h h') ?_ (fun o h1 q => ?_)
  · refine am_in' (d := d + 10) mt_SR_remove 3 rfl rfl rfl ?_
    refine am_go [] 5 ?_
    simp only [am_wp, am_stp, am_en, am_as, am_pad, am_nth, am_set, am_st1, am_st2, am_kl, am_kill, am_mem, am_fv, am_tk, am_wt, am_bk, Option.toList, List.cons_append, List.nil_append, Nat.reduceAdd, Nat.reduceEqDiff, Nat.reduceLeDiff, reduceIte, Nat.reduceLT, or_self, true_or, or_true, if_true, if_false, and_self, and_true, true_and, not_false_eq_true, not_true_eq_false, fd_SR_remove_0, fd_SR_remove_1, fd_SR_remove_2, fd_SR_remove_3, fd_SR_remove_4, s1]
    refine am_call (l2_enterOne0 g4) (fun o h1 q => ?_)
    obtain ⟨rfl, f⟩ := q
    simp only [am_wp, am_stp, am_en, am_as, am_pad, am_nth, am_set, am_st1, am_st2, am_kl, am_kill, am_mem, am_fv, am_tk, am_wt, am_bk, Option.toList, List.cons_append, List.nil_append, Nat.reduceAdd, Nat.reduceEqDiff, Nat.reduceLeDiff, reduceIte, Nat.reduceLT, or_self, true_or, or_true, if_true, if_false, and_self, and_true, true_and, not_false_eq_true, not_true_eq_false]
    refine am_go [] 2 ?_
    simp only [am_wp, am_stp, am_en, am_as, am_pad, am_nth, am_set, am_st1, am_st2, am_kl, am_kill, am_mem, am_fv, am_tk, am_wt, am_bk, Option.toList, List.cons_append, List.nil_append, Nat.reduceAdd, Nat.reduceEqDiff, Nat.reduceLeDiff, reduceIte, Nat.reduceLT, or_self, true_or, or_true, if_true, if_false, and_self, and_true, true_and, not_false_eq_true, not_true_eq_false, fd_SR_remove_7]
    exact f
  obtain ⟨rfl, hf⟩ := q
  simp only [am_wp, am_stp, am_en, am_as, am_pad, am_nth, am_set, am_st1, am_st2, am_kl, am_kill, am_mem, am_fv, am_tk, am_wt, am_bk, Option.toList, List.cons_append, List.nil_append, Nat.reduceAdd, Nat.reduceEqDiff, Nat.reduceLeDiff, reduceIte, Nat.reduceLT, or_self, true_or, or_true, if_true, if_false, and_self, and_true, true_and, not_false_eq_true, not_true_eq_false]
  have k108 : am_kd h1 108 = 101 := by rw [hf.2.2.2.1]; exact g9
  have l108 : am_ln h1 108 = 1 := by rw [hf.2.2.2.2.1]; exact g10
  refine am_go [] 10 ?_
  simp only [am_wp, am_stp, am_en, am_as, am_pad, am_nth, am_set, am_st1, am_st2, am_kl, am_kill, am_mem, am_fv, am_tk, am_wt, am_bk, Option.toList, List.cons_append, List.nil_append, Nat.reduceAdd, Nat.reduceEqDiff, Nat.reduceLeDiff, reduceIte, Nat.reduceLT, or_self, true_or, or_true, if_true, if_false, and_self, and_true, true_and, not_false_eq_true, not_true_eq_false, fd_La_remove_7, fd_La_remove_8, fd_La_remove_9, fd_La_remove_16, fd_La_remove_17, k108, l108, i0, c0, le0]
  have C := lw_C.fi (S := [3, 4, 5, 6, 7, 108]) G ((hf.sub (by simp)).sL (q := 108) (j := 0) (v := (1 : Int32).toInt64) (by simp)) (by simp)
  refine ⟨0, (1 : Int32).toInt64, rfl, C, fun _ => by simp only [hx_nx_sI, hx_ce_sI, hx_sl_sI, hx_kd_sI, hx_ln_sI, hx_I_sI, hx_L_sI, hx_R_sI, hx_nx_sL, hx_ce_sL, hx_sl_sL, hx_kd_sL, hx_ln_sL, hx_I_sL, hx_L_sL, hx_R_sL, hx_nx_sR, hx_ce_sR, hx_sl_sR, hx_kd_sR, hx_ln_sR, hx_I_sR, hx_L_sR, hx_R_sR, hx_nx_al, hx_ce_al, hx_sl_al, hx_kd_al, hx_ln_al, hx_I_al, hx_L_al, hx_R_al, hx_nx_row, hx_ce_row, hx_sl_row, hx_kd_row, hx_ln_row, hx_I_row, hx_L_row, hx_R_row, hx_nx_mk, hx_kd_mk, hx_ln_mk, hx_I_mk, hx_L_mk, hx_R_mk, am_wp, am_stp, am_en, am_as, am_pad, am_nth, am_set, am_st1, am_st2, am_kl, am_kill, am_mem, am_fv, am_tk, am_wt, am_bk, Option.toList, List.cons_append, List.nil_append, Nat.reduceAdd, Nat.reduceEqDiff, Nat.reduceLeDiff, reduceIte, Nat.reduceLT, or_self, true_or, or_true, if_true, if_false, and_self, and_true, true_and, not_false_eq_true, not_true_eq_false], ?_⟩
  have hM := C.mo g5
  have k72 := hM.1.1
  generalize am_sL h1 108 0 (1 : Int32).toInt64 = g at *
  refine am_call (Q := fun o h' => o = .inl (some (.int 1)) ∧ am_fi [72, 74, 75, 76] g h' ∧ am_I h' 72 0 = 0) ?_ (fun o h2 q => ?_)
  · refine am_in' (d := d + 11) mt_Mo_remove 3 rfl rfl rfl ?_
    refine am_go [] 5 ?_
    simp only [am_wp, am_stp, am_en, am_as, am_pad, am_nth, am_set, am_st1, am_st2, am_kl, am_kill, am_mem, am_fv, am_tk, am_wt, am_bk, Option.toList, List.cons_append, List.nil_append, Nat.reduceAdd, Nat.reduceEqDiff, Nat.reduceLeDiff, reduceIte, Nat.reduceLT, or_self, true_or, or_true, if_true, if_false, and_self, and_true, true_and, not_false_eq_true, not_true_eq_false, fd_Mo_remove_0, fd_Mo_remove_1, fd_Mo_remove_2, fd_Mo_remove_3, fd_Mo_remove_4, k72]
    refine am_call (l2_Mo_enter0 hM (by decide)) (fun o h2 q => ?_)
    obtain ⟨rfl, f, f0⟩ := q
    simp only [am_wp, am_stp, am_en, am_as, am_pad, am_nth, am_set, am_st1, am_st2, am_kl, am_kill, am_mem, am_fv, am_tk, am_wt, am_bk, Option.toList, List.cons_append, List.nil_append, Nat.reduceAdd, Nat.reduceEqDiff, Nat.reduceLeDiff, reduceIte, Nat.reduceLT, or_self, true_or, or_true, if_true, if_false, and_self, and_true, true_and, not_false_eq_true, not_true_eq_false]
    refine am_go [] 2 ?_
    simp only [am_wp, am_stp, am_en, am_as, am_pad, am_nth, am_set, am_st1, am_st2, am_kl, am_kill, am_mem, am_fv, am_tk, am_wt, am_bk, Option.toList, List.cons_append, List.nil_append, Nat.reduceAdd, Nat.reduceEqDiff, Nat.reduceLeDiff, reduceIte, Nat.reduceLT, or_self, true_or, or_true, if_true, if_false, and_self, and_true, true_and, not_false_eq_true, not_true_eq_false, fd_Mo_remove_7]
    exact ⟨f, f0⟩
  · obtain ⟨rfl, q2, q3⟩ := q
    exact ⟨1, rfl, lw_D.fi q2 (by simp), q3, fun _ => rfl⟩
theorem op_fold (xs : Nat → Int32) : lw_op xs 368 := by
  refine ox_fold (fun d h G => ?_)
  obtain ⟨g1, g2, g3, g4, g5, g6, g7, g8, g9, g10⟩ := id G
  obtain ⟨s1, s2, s3⟩ := g4.2.2.2.2.2.2.2.2.2.2.2.2.2.2
  have i0 : ¬ ((0 : Int32) < 0 ∨ 1 ≤ (0 : Int32).toNatClampNeg) := by decide
  have c0 : (0 : Int32).toNatClampNeg = 0 := by decide
  have le0 : ¬ ((0 : Int32) < 0) := by decide
  refine am_in' (d := d + 11) mt_La_fold 7 rfl rfl rfl ?_
  refine am_go [] 6 ?_
  simp only [am_wp, am_stp, am_en, am_as, am_pad, am_nth, am_set, am_st1, am_st2, am_kl, am_kill, am_mem, am_fv, am_tk, am_wt, am_bk, Option.toList, List.cons_append, List.nil_append, Nat.reduceAdd, Nat.reduceEqDiff, Nat.reduceLeDiff, reduceIte, Nat.reduceLT, or_self, true_or, or_true, if_true, if_false, and_self, and_true, true_and, not_false_eq_true, not_true_eq_false, fd_La_fold_0, fd_La_fold_2, fd_La_fold_3, fd_La_fold_4, fd_La_fold_5, fd_La_fold_6, s1]
  refine am_call (Q := fun o h' => o = .inl (some (.int 1)) ∧ am_fi [3, 4, 5, 6, 7] h h') ?_ (fun o h1 q => ?_)
  · refine am_in' (d := d + 10) mt_SR_fold 5 rfl rfl rfl ?_
    refine am_go [] 5 ?_
    simp only [am_wp, am_stp, am_en, am_as, am_pad, am_nth, am_set, am_st1, am_st2, am_kl, am_kill, am_mem, am_fv, am_tk, am_wt, am_bk, Option.toList, List.cons_append, List.nil_append, Nat.reduceAdd, Nat.reduceEqDiff, Nat.reduceLeDiff, reduceIte, Nat.reduceLT, or_self, true_or, or_true, if_true, if_false, and_self, and_true, true_and, not_false_eq_true, not_true_eq_false, fd_SR_fold_0, fd_SR_fold_1, fd_SR_fold_2, fd_SR_fold_3, fd_SR_fold_4, s1]
    refine am_call (l2_enterOne0 g4) (fun o h1 q => ?_)
    obtain ⟨rfl, f⟩ := q
    simp only [am_wp, am_stp, am_en, am_as, am_pad, am_nth, am_set, am_st1, am_st2, am_kl, am_kill, am_mem, am_fv, am_tk, am_wt, am_bk, Option.toList, List.cons_append, List.nil_append, Nat.reduceAdd, Nat.reduceEqDiff, Nat.reduceLeDiff, reduceIte, Nat.reduceLT, or_self, true_or, or_true, if_true, if_false, and_self, and_true, true_and, not_false_eq_true, not_true_eq_false]
    refine am_go [] 2 ?_
    simp only [am_wp, am_stp, am_en, am_as, am_pad, am_nth, am_set, am_st1, am_st2, am_kl, am_kill, am_mem, am_fv, am_tk, am_wt, am_bk, Option.toList, List.cons_append, List.nil_append, Nat.reduceAdd, Nat.reduceEqDiff, Nat.reduceLeDiff, reduceIte, Nat.reduceLT, or_self, true_or, or_true, if_true, if_false, and_self, and_true, true_and, not_false_eq_true, not_true_eq_false, fd_SR_fold_7]
    exact f
  obtain ⟨rfl, hf⟩ := q
  simp only [am_wp, am_stp, am_en, am_as, am_pad, am_nth, am_set, am_st1, am_st2, am_kl, am_kill, am_mem, am_fv, am_tk, am_wt, am_bk, Option.toList, List.cons_append, List.nil_append, Nat.reduceAdd, Nat.reduceEqDiff, Nat.reduceLeDiff, reduceIte, Nat.reduceLT, or_self, true_or, or_true, if_true, if_false, and_self, and_true, true_and, not_false_eq_true, not_true_eq_false]
  have k108 : am_kd h1 108 = 101 := by rw [hf.2.2.2.1]; exact g9
  have l108 : am_ln h1 108 = 1 := by rw [hf.2.2.2.2.1]; exact g10
  refine am_go [] 10 ?_
  simp only [am_wp, am_stp, am_en, am_as, am_pad, am_nth, am_set, am_st1, am_st2, am_kl, am_kill, am_mem, am_fv, am_tk, am_wt, am_bk, Option.toList, List.cons_append, List.nil_append, Nat.reduceAdd, Nat.reduceEqDiff, Nat.reduceLeDiff, reduceIte, Nat.reduceLT, or_self, true_or, or_true, if_true, if_false, and_self, and_true, true_and, not_false_eq_true, not_true_eq_false, fd_La_fold_9, fd_La_fold_10, fd_La_fold_11, fd_La_fold_18, fd_La_fold_19, k108, l108, i0, c0, le0]
  have C := lw_C.fi (S := [3, 4, 5, 6, 7, 108]) G ((hf.sub (by simp)).sL (q := 108) (j := 0) (v := (1 : Int32).toInt64) (by simp)) (by simp)
  refine ⟨0, (1 : Int32).toInt64, rfl, C, fun _ => by simp only [hx_nx_sI, hx_ce_sI, hx_sl_sI, hx_kd_sI, hx_ln_sI, hx_I_sI, hx_L_sI, hx_R_sI, hx_nx_sL, hx_ce_sL, hx_sl_sL, hx_kd_sL, hx_ln_sL, hx_I_sL, hx_L_sL, hx_R_sL, hx_nx_sR, hx_ce_sR, hx_sl_sR, hx_kd_sR, hx_ln_sR, hx_I_sR, hx_L_sR, hx_R_sR, hx_nx_al, hx_ce_al, hx_sl_al, hx_kd_al, hx_ln_al, hx_I_al, hx_L_al, hx_R_al, hx_nx_row, hx_ce_row, hx_sl_row, hx_kd_row, hx_ln_row, hx_I_row, hx_L_row, hx_R_row, hx_nx_mk, hx_kd_mk, hx_ln_mk, hx_I_mk, hx_L_mk, hx_R_mk, am_wp, am_stp, am_en, am_as, am_pad, am_nth, am_set, am_st1, am_st2, am_kl, am_kill, am_mem, am_fv, am_tk, am_wt, am_bk, Option.toList, List.cons_append, List.nil_append, Nat.reduceAdd, Nat.reduceEqDiff, Nat.reduceLeDiff, reduceIte, Nat.reduceLT, or_self, true_or, or_true, if_true, if_false, and_self, and_true, true_and, not_false_eq_true, not_true_eq_false], ?_⟩
  have hM := C.mo g5
  have k72 := hM.1.1
  generalize am_sL h1 108 0 (1 : Int32).toInt64 = g at *
  refine am_call (Q := fun o h' => o = .inl (some (.int 1)) ∧ am_fi [72, 74, 75, 76] g h' ∧ am_I h' 72 0 = 0) ?_ (fun o h2 q => ?_)
  · refine am_in' (d := d + 11) mt_Mo_fold 5 rfl rfl rfl ?_
    refine am_go [] 5 ?_
    simp only [am_wp, am_stp, am_en, am_as, am_pad, am_nth, am_set, am_st1, am_st2, am_kl, am_kill, am_mem, am_fv, am_tk, am_wt, am_bk, Option.toList, List.cons_append, List.nil_append, Nat.reduceAdd, Nat.reduceEqDiff, Nat.reduceLeDiff, reduceIte, Nat.reduceLT, or_self, true_or, or_true, if_true, if_false, and_self, and_true, true_and, not_false_eq_true, not_true_eq_false, fd_Mo_fold_0, fd_Mo_fold_1, fd_Mo_fold_2, fd_Mo_fold_3, fd_Mo_fold_4, k72]
    refine am_call (l2_Mo_enter0 hM (by decide)) (fun o h2 q => ?_)
    obtain ⟨rfl, f, f0⟩ := q
    simp only [am_wp, am_stp, am_en, am_as, am_pad, am_nth, am_set, am_st1, am_st2, am_kl, am_kill, am_mem, am_fv, am_tk, am_wt, am_bk, Option.toList, List.cons_append, List.nil_append, Nat.reduceAdd, Nat.reduceEqDiff, Nat.reduceLeDiff, reduceIte, Nat.reduceLT, or_self, true_or, or_true, if_true, if_false, and_self, and_true, true_and, not_false_eq_true, not_true_eq_false]
    refine am_go [] 2 ?_
    simp only [am_wp, am_stp, am_en, am_as, am_pad, am_nth, am_set, am_st1, am_st2, am_kl, am_kill, am_mem, am_fv, am_tk, am_wt, am_bk, Option.toList, List.cons_append, List.nil_append, Nat.reduceAdd, Nat.reduceEqDiff, Nat.reduceLeDiff, reduceIte, Nat.reduceLT, or_self, true_or, or_true, if_true, if_false, and_self, and_true, true_and, not_false_eq_true, not_true_eq_false, fd_Mo_fold_7]
    exact ⟨f, f0⟩
  · obtain ⟨rfl, q2, q3⟩ := q
    exact ⟨1, rfl, lw_D.fi q2 (by simp), q3, fun _ => rfl⟩
