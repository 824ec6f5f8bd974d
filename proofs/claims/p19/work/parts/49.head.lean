/-! THE FIRST HEAD -/
/-- the octets of the first head, but the SUM -/
def hd_1 (j : Nat) : Int32 := if j = 3 then 1 else if j = 5 then 1 else 0
theorem l2_fillHead1 {d : Nat} {h : am_H} (hS : cl_Sh h) (k2 : am_kd h 2 = 1) (r8 : am_R h 2 8 = 14) (r3 : am_R h 2 3 = 8) (k8 : am_kd h 8 = 6) (i8 : am_I h 8 1 = 0) (i13 : am_I h 2 13 = 1) :
    am_Rt nm_pr (d + 3) mi_SR_fillHead [.ref 2, .int 1] h (fun o h' => o = .inl none ∧ am_fi [14, 15] h h' ∧ am_I h' 15 = (fun j => if j < 128 then hd_1 j else am_I h 15 j) ∧ am_I h' 14 = (fun j => if j = 1 then nI 7 else if j = 2 then 0 else am_I h 14 j) ∧ am_L h' = am_L h) := by
  refine am_in' mt_SR_fillHead 4 rfl rfl rfl ?_
  refine am_go [] 3 ?_
  simp only [am_wp, am_stp, am_en, am_as, am_pad, am_nth, am_set, am_st1, am_st2, am_kl, am_kill, am_mem, am_fv, am_tk, am_wt, am_bk, Option.toList, List.cons_append, List.nil_append, Nat.reduceAdd, Nat.reduceEqDiff, Nat.reduceLeDiff, reduceIte, Nat.reduceLT, or_self, true_or, or_true, if_true, if_false, and_self, and_true, true_and, not_false_eq_true, not_true_eq_false, fd_SR_fillHead_0, fd_SR_fillHead_1, fd_SR_fillHead_4, k2, r8, hS.1]
  refine am_call (l2_clear hS) (fun o h1 q => ?_)
  obtain ⟨rfl, a1, a2, a3, a4⟩ := q
  simp only [am_wp, am_stp, am_en, am_as, am_pad, am_nth, am_set, am_st1, am_st2, am_kl, am_kill, am_mem, am_fv, am_tk, am_wt, am_bk, Option.toList, List.cons_append, List.nil_append, Nat.reduceAdd, Nat.reduceEqDiff, Nat.reduceLeDiff, reduceIte, Nat.reduceLT, or_self, true_or, or_true, if_true, if_false, and_self, and_true, true_and, not_false_eq_true, not_true_eq_false]
  obtain ⟨b1, b2, b3, b4, b5, b6, b7, b8⟩ := id a1
  have S1 := hS.fi a1
  have K2 : am_kd h1 2 = 1 := by rw [b4]; exact k2
  have K8 : am_kd h1 8 = 6 := by rw [b4]; exact k8
  have K14 : am_kd h1 14 = 8 := S1.1
  have R8 : am_R h1 2 8 = 14 := by rw [b6]; exact r8
  have R3 : am_R h1 2 3 = 8 := by rw [b6]; exact r3
  have I8 : am_I h1 8 1 = 0 := by rw [b7 8 (by simp)]; exact i8
  have I13 : am_I h1 2 13 = 1 := by rw [b7 2 (by simp)]; exact i13
  have U0 : am_I h1 14 1 = nI 0 := by rw [a3]; rfl
  refine am_go [] 6 ?_
  simp only [am_wp, am_stp, am_en, am_as, am_pad, am_nth, am_set, am_st1, am_st2, am_kl, am_kill, am_mem, am_fv, am_tk, am_wt, am_bk, Option.toList, List.cons_append, List.nil_append, Nat.reduceAdd, Nat.reduceEqDiff, Nat.reduceLeDiff, reduceIte, Nat.reduceLT, or_self, true_or, or_true, if_true, if_false, and_self, and_true, true_and, not_false_eq_true, not_true_eq_false, fd_SR_fillHead_7, fd_SR_fillHead_8, fd_SR_fillHead_11, fd_SR_fillHead_12, fd_SR_fillHead_14, fd_SR_fillHead_15, K2, R8, K14]
  refine am_call (l2_two (u := 0) S1 U0 (by decide)) (fun o h2 q => ?_)
  obtain ⟨rfl, rfl⟩ := q
  simp only [am_wp, am_stp, am_en, am_as, am_pad, am_nth, am_set, am_st1, am_st2, am_kl, am_kill, am_mem, am_fv, am_tk, am_wt, am_bk, Option.toList, List.cons_append, List.nil_append, Nat.reduceAdd, Nat.reduceEqDiff, Nat.reduceLeDiff, reduceIte, Nat.reduceLT, or_self, true_or, or_true, if_true, if_false, and_self, and_true, true_and, not_false_eq_true, not_true_eq_false]
  refine am_go [] 4 ?_
  simp only [am_wp, am_stp, am_en, am_as, am_pad, am_nth, am_set, am_st1, am_st2, am_kl, am_kill, am_mem, am_fv, am_tk, am_wt, am_bk, Option.toList, List.cons_append, List.nil_append, Nat.reduceAdd, Nat.reduceEqDiff, Nat.reduceLeDiff, reduceIte, Nat.reduceLT, or_self, true_or, or_true, if_true, if_false, and_self, and_true, true_and, not_false_eq_true, not_true_eq_false, fd_SR_fillHead_18, fd_SR_fillHead_19, fd_SR_fillHead_22, fd_SR_fillHead_23, hx_nx_sI, hx_ce_sI, hx_sl_sI, hx_kd_sI, hx_ln_sI, hx_I_sI, hx_L_sI, hx_R_sI, hx_nx_sL, hx_ce_sL, hx_sl_sL, hx_kd_sL, hx_ln_sL, hx_I_sL, hx_L_sL, hx_R_sL, hx_nx_sR, hx_ce_sR, hx_sl_sR, hx_kd_sR, hx_ln_sR, hx_I_sR, hx_L_sR, hx_R_sR, hx_nx_al, hx_ce_al, hx_sl_al, hx_kd_al, hx_ln_al, hx_I_al, hx_L_al, hx_R_al, hx_nx_row, hx_ce_row, hx_sl_row, hx_kd_row, hx_ln_row, hx_I_row, hx_L_row, hx_R_row, hx_nx_mk, hx_kd_mk, hx_ln_mk, hx_I_mk, hx_L_mk, hx_R_mk, K2, R8, K14]
  refine am_call (l2_two (u := 2) S1.sI.sI.sI.sI (by simp only [hx_nx_sI, hx_ce_sI, hx_sl_sI, hx_kd_sI, hx_ln_sI, hx_I_sI, hx_L_sI, hx_R_sI, hx_nx_sL, hx_ce_sL, hx_sl_sL, hx_kd_sL, hx_ln_sL, hx_I_sL, hx_L_sL, hx_R_sL, hx_nx_sR, hx_ce_sR, hx_sl_sR, hx_kd_sR, hx_ln_sR, hx_I_sR, hx_L_sR, hx_R_sR, hx_nx_al, hx_ce_al, hx_sl_al, hx_kd_al, hx_ln_al, hx_I_al, hx_L_al, hx_R_al, hx_nx_row, hx_ce_row, hx_sl_row, hx_kd_row, hx_ln_row, hx_I_row, hx_L_row, hx_R_row, hx_nx_mk, hx_kd_mk, hx_ln_mk, hx_I_mk, hx_L_mk, hx_R_mk, am_wp, am_stp, am_en, am_as, am_pad, am_nth, am_set, am_st1, am_st2, am_kl, am_kill, am_mem, am_fv, am_tk, am_wt, am_bk, Option.toList, List.cons_append, List.nil_append, Nat.reduceAdd, Nat.reduceEqDiff, Nat.reduceLeDiff, reduceIte, Nat.reduceLT, or_self, true_or, or_true, if_true, if_false, and_self, and_true, true_and, not_false_eq_true, not_true_eq_false]) (by decide)) (fun o h2 q => ?_)
  obtain ⟨rfl, rfl⟩ := q
  simp only [am_wp, am_stp, am_en, am_as, am_pad, am_nth, am_set, am_st1, am_st2, am_kl, am_kill, am_mem, am_fv, am_tk, am_wt, am_bk, Option.toList, List.cons_append, List.nil_append, Nat.reduceAdd, Nat.reduceEqDiff, Nat.reduceLeDiff, reduceIte, Nat.reduceLT, or_self, true_or, or_true, if_true, if_false, and_self, and_true, true_and, not_false_eq_true, not_true_eq_false]
  refine am_go [] 5 ?_
  simp only [am_wp, am_stp, am_en, am_as, am_pad, am_nth, am_set, am_st1, am_st2, am_kl, am_kill, am_mem, am_fv, am_tk, am_wt, am_bk, Option.toList, List.cons_append, List.nil_append, Nat.reduceAdd, Nat.reduceEqDiff, Nat.reduceLeDiff, reduceIte, Nat.reduceLT, or_self, true_or, or_true, if_true, if_false, and_self, and_true, true_and, not_false_eq_true, not_true_eq_false, fd_SR_fillHead_26, fd_SR_fillHead_27, fd_SR_fillHead_30, fd_SR_fillHead_31, fd_SR_fillHead_34, hx_nx_sI, hx_ce_sI, hx_sl_sI, hx_kd_sI, hx_ln_sI, hx_I_sI, hx_L_sI, hx_R_sI, hx_nx_sL, hx_ce_sL, hx_sl_sL, hx_kd_sL, hx_ln_sL, hx_I_sL, hx_L_sL, hx_R_sL, hx_nx_sR, hx_ce_sR, hx_sl_sR, hx_kd_sR, hx_ln_sR, hx_I_sR, hx_L_sR, hx_R_sR, hx_nx_al, hx_ce_al, hx_sl_al, hx_kd_al, hx_ln_al, hx_I_al, hx_L_al, hx_R_al, hx_nx_row, hx_ce_row, hx_sl_row, hx_kd_row, hx_ln_row, hx_I_row, hx_L_row, hx_R_row, hx_nx_mk, hx_kd_mk, hx_ln_mk, hx_I_mk, hx_L_mk, hx_R_mk, K2, R8, K14, I13]
  refine am_call (l2_two (u := 4) S1.sI.sI.sI.sI.sI.sI.sI.sI (by simp only [hx_nx_sI, hx_ce_sI, hx_sl_sI, hx_kd_sI, hx_ln_sI, hx_I_sI, hx_L_sI, hx_R_sI, hx_nx_sL, hx_ce_sL, hx_sl_sL, hx_kd_sL, hx_ln_sL, hx_I_sL, hx_L_sL, hx_R_sL, hx_nx_sR, hx_ce_sR, hx_sl_sR, hx_kd_sR, hx_ln_sR, hx_I_sR, hx_L_sR, hx_R_sR, hx_nx_al, hx_ce_al, hx_sl_al, hx_kd_al, hx_ln_al, hx_I_al, hx_L_al, hx_R_al, hx_nx_row, hx_ce_row, hx_sl_row, hx_kd_row, hx_ln_row, hx_I_row, hx_L_row, hx_R_row, hx_nx_mk, hx_kd_mk, hx_ln_mk, hx_I_mk, hx_L_mk, hx_R_mk, am_wp, am_stp, am_en, am_as, am_pad, am_nth, am_set, am_st1, am_st2, am_kl, am_kill, am_mem, am_fv, am_tk, am_wt, am_bk, Option.toList, List.cons_append, List.nil_append, Nat.reduceAdd, Nat.reduceEqDiff, Nat.reduceLeDiff, reduceIte, Nat.reduceLT, or_self, true_or, or_true, if_true, if_false, and_self, and_true, true_and, not_false_eq_true, not_true_eq_false]) (by decide)) (fun o h2 q => ?_)
  obtain ⟨rfl, rfl⟩ := q
  simp only [am_wp, am_stp, am_en, am_as, am_pad, am_nth, am_set, am_st1, am_st2, am_kl, am_kill, am_mem, am_fv, am_tk, am_wt, am_bk, Option.toList, List.cons_append, List.nil_append, Nat.reduceAdd, Nat.reduceEqDiff, Nat.reduceLeDiff, reduceIte, Nat.reduceLT, or_self, true_or, or_true, if_true, if_false, and_self, and_true, true_and, not_false_eq_true, not_true_eq_false]
  refine am_go [] 6 ?_
  simp only [am_wp, am_stp, am_en, am_as, am_pad, am_nth, am_set, am_st1, am_st2, am_kl, am_kill, am_mem, am_fv, am_tk, am_wt, am_bk, Option.toList, List.cons_append, List.nil_append, Nat.reduceAdd, Nat.reduceEqDiff, Nat.reduceLeDiff, reduceIte, Nat.reduceLT, or_self, true_or, or_true, if_true, if_false, and_self, and_true, true_and, not_false_eq_true, not_true_eq_false, fd_SR_fillHead_37, fd_SR_fillHead_38, fd_SR_fillHead_41, fd_SR_fillHead_42, fd_SR_fillHead_45, fd_SR_fillHead_48, hx_nx_sI, hx_ce_sI, hx_sl_sI, hx_kd_sI, hx_ln_sI, hx_I_sI, hx_L_sI, hx_R_sI, hx_nx_sL, hx_ce_sL, hx_sl_sL, hx_kd_sL, hx_ln_sL, hx_I_sL, hx_L_sL, hx_R_sL, hx_nx_sR, hx_ce_sR, hx_sl_sR, hx_kd_sR, hx_ln_sR, hx_I_sR, hx_L_sR, hx_R_sR, hx_nx_al, hx_ce_al, hx_sl_al, hx_kd_al, hx_ln_al, hx_I_al, hx_L_al, hx_R_al, hx_nx_row, hx_ce_row, hx_sl_row, hx_kd_row, hx_ln_row, hx_I_row, hx_L_row, hx_R_row, hx_nx_mk, hx_kd_mk, hx_ln_mk, hx_I_mk, hx_L_mk, hx_R_mk, K2, K8, R8, R3, K14, I8]
  refine am_call (l2_one (u := 6) S1.sI.sI.sI.sI.sI.sI.sI.sI.sI.sI.sI.sI (by simp only [hx_nx_sI, hx_ce_sI, hx_sl_sI, hx_kd_sI, hx_ln_sI, hx_I_sI, hx_L_sI, hx_R_sI, hx_nx_sL, hx_ce_sL, hx_sl_sL, hx_kd_sL, hx_ln_sL, hx_I_sL, hx_L_sL, hx_R_sL, hx_nx_sR, hx_ce_sR, hx_sl_sR, hx_kd_sR, hx_ln_sR, hx_I_sR, hx_L_sR, hx_R_sR, hx_nx_al, hx_ce_al, hx_sl_al, hx_kd_al, hx_ln_al, hx_I_al, hx_L_al, hx_R_al, hx_nx_row, hx_ce_row, hx_sl_row, hx_kd_row, hx_ln_row, hx_I_row, hx_L_row, hx_R_row, hx_nx_mk, hx_kd_mk, hx_ln_mk, hx_I_mk, hx_L_mk, hx_R_mk, am_wp, am_stp, am_en, am_as, am_pad, am_nth, am_set, am_st1, am_st2, am_kl, am_kill, am_mem, am_fv, am_tk, am_wt, am_bk, Option.toList, List.cons_append, List.nil_append, Nat.reduceAdd, Nat.reduceEqDiff, Nat.reduceLeDiff, reduceIte, Nat.reduceLT, or_self, true_or, or_true, if_true, if_false, and_self, and_true, true_and, not_false_eq_true, not_true_eq_false]) (by decide)) (fun o h2 q => ?_)
  obtain ⟨rfl, rfl⟩ := q
  simp only [am_wp, am_stp, am_en, am_as, am_pad, am_nth, am_set, am_st1, am_st2, am_kl, am_kill, am_mem, am_fv, am_tk, am_wt, am_bk, Option.toList, List.cons_append, List.nil_append, Nat.reduceAdd, Nat.reduceEqDiff, Nat.reduceLeDiff, reduceIte, Nat.reduceLT, or_self, true_or, or_true, if_true, if_false, and_self, and_true, true_and, not_false_eq_true, not_true_eq_false]
  refine am_go [64] 8 ?_
  have hlt : ¬ ((0 : Int32) < 0) := by decide
  simp only [am_wp, am_stp, am_en, am_as, am_pad, am_nth, am_set, am_st1, am_st2, am_kl, am_kill, am_mem, am_fv, am_tk, am_wt, am_bk, Option.toList, List.cons_append, List.nil_append, Nat.reduceAdd, Nat.reduceEqDiff, Nat.reduceLeDiff, reduceIte, Nat.reduceLT, or_self, true_or, or_true, if_true, if_false, and_self, and_true, true_and, not_false_eq_true, not_true_eq_false, fd_SR_fillHead_51, fd_SR_fillHead_52, fd_SR_fillHead_53, fd_SR_fillHead_54, fd_SR_fillHead_55, fd_SR_fillHead_58, fd_SR_fillHead_61, fd_SR_fillHead_130, hx_nx_sI, hx_ce_sI, hx_sl_sI, hx_kd_sI, hx_ln_sI, hx_I_sI, hx_L_sI, hx_R_sI, hx_nx_sL, hx_ce_sL, hx_sl_sL, hx_kd_sL, hx_ln_sL, hx_I_sL, hx_L_sL, hx_R_sL, hx_nx_sR, hx_ce_sR, hx_sl_sR, hx_kd_sR, hx_ln_sR, hx_I_sR, hx_L_sR, hx_R_sR, hx_nx_al, hx_ce_al, hx_sl_al, hx_kd_al, hx_ln_al, hx_I_al, hx_L_al, hx_R_al, hx_nx_row, hx_ce_row, hx_sl_row, hx_kd_row, hx_ln_row, hx_I_row, hx_L_row, hx_R_row, hx_nx_mk, hx_kd_mk, hx_ln_mk, hx_I_mk, hx_L_mk, hx_R_mk, K2, K8, R8, R3, K14, I8, hlt]
  refine ⟨?_, ?_, ?_, a4⟩
  · refine ((((((((((((((a1.sI ?_).sI ?_).sI ?_).sI ?_).sI ?_).sI ?_).sI ?_).sI ?_).sI ?_).sI ?_).sI ?_).sI ?_).sI ?_).sI ?_)
    all_goals simp
  · funext j
    simp only [hx_nx_sI, hx_ce_sI, hx_sl_sI, hx_kd_sI, hx_ln_sI, hx_I_sI, hx_L_sI, hx_R_sI, hx_nx_sL, hx_ce_sL, hx_sl_sL, hx_kd_sL, hx_ln_sL, hx_I_sL, hx_L_sL, hx_R_sL, hx_nx_sR, hx_ce_sR, hx_sl_sR, hx_kd_sR, hx_ln_sR, hx_I_sR, hx_L_sR, hx_R_sR, hx_nx_al, hx_ce_al, hx_sl_al, hx_kd_al, hx_ln_al, hx_I_al, hx_L_al, hx_R_al, hx_nx_row, hx_ce_row, hx_sl_row, hx_kd_row, hx_ln_row, hx_I_row, hx_L_row, hx_R_row, hx_nx_mk, hx_kd_mk, hx_ln_mk, hx_I_mk, hx_L_mk, hx_R_mk, am_wp, am_stp, am_en, am_as, am_pad, am_nth, am_set, am_st1, am_st2, am_kl, am_kill, am_mem, am_fv, am_tk, am_wt, am_bk, Option.toList, List.cons_append, List.nil_append, Nat.reduceAdd, Nat.reduceEqDiff, Nat.reduceLeDiff, reduceIte, Nat.reduceLT, or_self, true_or, or_true, if_true, if_false, and_self, and_true, true_and, not_false_eq_true, not_true_eq_false, a2]
    unfold hd_1
    have e0 : am_b8 0 = 0 := by decide
    have e1 : am_b8 1 = 1 := by decide
    have e2 : am_b8 (Int32.toUInt32 1 >>> (Int32.toUInt32 8 &&& Int32.toUInt32 31)).toInt32 = 0 := by decide
    have e3 : am_b8 (Int32.toUInt32 1 >>> (Int32.toUInt32 16 &&& Int32.toUInt32 31)).toInt32 = 0 := by decide
    have e4 : am_b8 ((Int32.toUInt32 1 >>> (Int32.toUInt32 16 &&& Int32.toUInt32 31)).toInt32.toUInt32 >>> (Int32.toUInt32 8 &&& Int32.toUInt32 31)).toInt32 = 0 := by decide
    simp only [e0, e1, e2, e3, e4]
    (repeat' split) <;> first | rfl | omega
  · funext j
    simp only [hx_nx_sI, hx_ce_sI, hx_sl_sI, hx_kd_sI, hx_ln_sI, hx_I_sI, hx_L_sI, hx_R_sI, hx_nx_sL, hx_ce_sL, hx_sl_sL, hx_kd_sL, hx_ln_sL, hx_I_sL, hx_L_sL, hx_R_sL, hx_nx_sR, hx_ce_sR, hx_sl_sR, hx_kd_sR, hx_ln_sR, hx_I_sR, hx_L_sR, hx_R_sR, hx_nx_al, hx_ce_al, hx_sl_al, hx_kd_al, hx_ln_al, hx_I_al, hx_L_al, hx_R_al, hx_nx_row, hx_ce_row, hx_sl_row, hx_kd_row, hx_ln_row, hx_I_row, hx_L_row, hx_R_row, hx_nx_mk, hx_kd_mk, hx_ln_mk, hx_I_mk, hx_L_mk, hx_R_mk, am_wp, am_stp, am_en, am_as, am_pad, am_nth, am_set, am_st1, am_st2, am_kl, am_kill, am_mem, am_fv, am_tk, am_wt, am_bk, Option.toList, List.cons_append, List.nil_append, Nat.reduceAdd, Nat.reduceEqDiff, Nat.reduceLeDiff, reduceIte, Nat.reduceLT, or_self, true_or, or_true, if_true, if_false, and_self, and_true, true_and, not_false_eq_true, not_true_eq_false, a3]
    (repeat' split) <;> first | rfl | omega
/-- the SUM of the first head -/
def hd_z : Int64 := sm_F hd_1 (nI 1).toInt64 120
/-- page 1 as it is first -/
def hd_p (j : Nat) : Int32 := if j < 120 then hd_1 j else sm_O hd_z (j - 120)
theorem hd_b8 (j : Nat) : am_b8 (hd_p j) = hd_p j := by
  unfold hd_p
  split
  · unfold hd_1
    (repeat' split) <;> decide
  · unfold sm_O
    exact am_b8_b8 _
/-- a new object's facts that later calls rest on: all that the constructor made -/
def fr_All (P : Nat) (h : am_H) : Prop := fr_1 h ∧ (fr_C h 13 3 0 (fun _ => 0) ∧ fr_C h 16 101 200 (fun _ => 0) ∧ fr_C h 17 101 200 (fun _ => 0)) ∧ cl_Sh h ∧ cl_Pg P h ∧
  (am_I h 18 = fun j => if j = 0 then nI P else 0) ∧ (am_I h 19 = fun j => if 128 ≤ j ∧ j < 256 then hd_p (j - 128) else 0) ∧ (am_I h 20 = fun j => if j = 1 then 1 else if j = 0 then 1 else 0) ∧
  (am_kd h 21 = 9 ∧ am_R h 21 = (fun j => if j = 1 then 22 else if j = 2 then 23 else if j = 3 then 24 else 0) ∧ am_I h 21 = (fun j => if j = 0 then nI P else if j = 4 then nI (P - 2) else 0)) ∧ fr_C h 22 100 P (fun _ => 0) ∧ fr_C h 23 100 P (fun _ => 0) ∧ fr_C h 24 101 P (fun _ => 0) ∧
  fr_4 h ∧ fr_C h 39 7 0 (fun j => if j = 4 then 18 else if j = 5 then 21 else 0) ∧ fr_5 h 8 ∧
  fr_SR h (fun j => if j = 0 then 18 else if j = 1 then 21 else if j = 2 then 3 else if j = 3 then 8 else if j = 4 then 12 else if j = 5 then 25 else if j = 6 then 39 else if j = 7 then 13 else if j = 8 then 14 else if j = 9 then 16 else if j = 10 then 17 else 0) sr_g
theorem hd_cs : cs_B (fun j => hd_p (120 + j)) (sm_F hd_p (nI 1).toInt64 120) 8 = 1 := by
  rw [cs_B_1]
  intro j hj
  have e : sm_F hd_p (nI 1).toInt64 120 = hd_z := sm_F_ext 120 (fun j hj => by unfold hd_p; rw [if_pos hj])
  rw [e]
  unfold hd_p
  rw [if_neg (by omega), Nat.add_sub_cancel_left]
/-- from pc 205 on: the head is written -/
theorem l2_SR_6 {d P : Nat} {x v : Int32} {h : am_H} {Q : am_O → am_H → Prop} (hS : cl_Sh h) (hP : cl_Pg P h) (k2 : am_kd h 2 = 1) (r0 : am_R h 2 0 = 18) (r8 : am_R h 2 8 = 14) (r3 : am_R h 2 3 = 8) (k8 : am_kd h 8 = 6) (i8 : am_I h 8 1 = 0) (i12 : am_I h 2 12 = 1) (i13 : am_I h 2 13 = 1)
    (z15 : am_I h 15 = fun _ => 0) (z19 : am_I h 19 = fun _ => 0) (z20 : am_I h 20 = fun j => if j = 0 then 1 else 0)
    (hx : ∀ h', am_fi [14, 15, 19, 20] h h' → am_L h' = am_L h → (am_I h' 19 = fun j => if 128 ≤ j ∧ j < 256 then hd_p (j - 128) else 0) → (am_I h' 20 = fun j => if j = 1 then 1 else if j = 0 then 1 else 0) → Q (.inl none) h') :
    am_Ex nm_pr (d + 4) mt_SR_init (205, [.ref 2, .int x, .int (nI P), .int v], [], h) Q := by
  refine am_go [] 4 ?_
  simp only [am_wp, am_stp, am_en, am_as, am_pad, am_nth, am_set, am_st1, am_st2, am_kl, am_kill, am_mem, am_fv, am_tk, am_wt, am_bk, Option.toList, List.cons_append, List.nil_append, Nat.reduceAdd, Nat.reduceEqDiff, Nat.reduceLeDiff, reduceIte, Nat.reduceLT, or_self, true_or, or_true, if_true, if_false, and_self, and_true, true_and, not_false_eq_true, not_true_eq_false, fd_SR_init_205, fd_SR_init_206, fd_SR_init_207, fd_SR_init_210, k2, i12]
  refine am_call (l2_fillHead1 hS k2 r8 r3 k8 i8 i13) (fun o h1 q => ?_)
  obtain ⟨rfl, a1, a2, a3, a4⟩ := q
  simp only [am_wp, am_stp, am_en, am_as, am_pad, am_nth, am_set, am_st1, am_st2, am_kl, am_kill, am_mem, am_fv, am_tk, am_wt, am_bk, Option.toList, List.cons_append, List.nil_append, Nat.reduceAdd, Nat.reduceEqDiff, Nat.reduceLeDiff, reduceIte, Nat.reduceLT, or_self, true_or, or_true, if_true, if_false, and_self, and_true, true_and, not_false_eq_true, not_true_eq_false]
  have S1 := hS.fi a1
  have P1 := hP.fi a1 (by simp)
  have K2 : am_kd h1 2 = 1 := by rw [a1.2.2.2.1]; exact k2
  have R8 : am_R h1 2 8 = 14 := by rw [a1.2.2.2.2.2.1]; exact r8
  have R0 : am_R h1 2 0 = 18 := by rw [a1.2.2.2.2.2.1]; exact r0
  refine am_go [] 4 ?_
  simp only [am_wp, am_stp, am_en, am_as, am_pad, am_nth, am_set, am_st1, am_st2, am_kl, am_kill, am_mem, am_fv, am_tk, am_wt, am_bk, Option.toList, List.cons_append, List.nil_append, Nat.reduceAdd, Nat.reduceEqDiff, Nat.reduceLeDiff, reduceIte, Nat.reduceLT, or_self, true_or, or_true, if_true, if_false, and_self, and_true, true_and, not_false_eq_true, not_true_eq_false, fd_SR_init_213, fd_SR_init_214, fd_SR_init_217, fd_SR_init_218, K2, R8, S1.1]
  refine am_call (l2_seal S1) (fun o h2 q => ?_)
  obtain ⟨rfl, b1, b2, b3⟩ := q
  simp only [am_wp, am_stp, am_en, am_as, am_pad, am_nth, am_set, am_st1, am_st2, am_kl, am_kill, am_mem, am_fv, am_tk, am_wt, am_bk, Option.toList, List.cons_append, List.nil_append, Nat.reduceAdd, Nat.reduceEqDiff, Nat.reduceLeDiff, reduceIte, Nat.reduceLT, or_self, true_or, or_true, if_true, if_false, and_self, and_true, true_and, not_false_eq_true, not_true_eq_false]
  have S2 := S1.fi b1
  have P2 := P1.fi b1 (by simp)
  have K22 : am_kd h2 2 = 1 := by rw [b1.2.2.2.1]; exact K2
  have R82 : am_R h2 2 8 = 14 := by rw [b1.2.2.2.2.2.1]; exact R8
  have R02 : am_R h2 2 0 = 18 := by rw [b1.2.2.2.2.2.1]; exact R0
  refine am_go [] 7 ?_
  simp only [am_wp, am_stp, am_en, am_as, am_pad, am_nth, am_set, am_st1, am_st2, am_kl, am_kill, am_mem, am_fv, am_tk, am_wt, am_bk, Option.toList, List.cons_append, List.nil_append, Nat.reduceAdd, Nat.reduceEqDiff, Nat.reduceLeDiff, reduceIte, Nat.reduceLT, or_self, true_or, or_true, if_true, if_false, and_self, and_true, true_and, not_false_eq_true, not_true_eq_false, fd_SR_init_221, fd_SR_init_222, fd_SR_init_225, fd_SR_init_226, fd_SR_init_227, fd_SR_init_230, fd_SR_init_233, K22, R82, R02, P2.1]
  refine am_call (l2_lay (p := 1) (m := 128) (by have := P2.2.2.2.2.2.2.2.2.1; omega) (by decide) P2 S2) (fun o h3 q => ?_)
  obtain ⟨rfl, c1, c2, c3⟩ := q
  simp only [am_wp, am_stp, am_en, am_as, am_pad, am_nth, am_set, am_st1, am_st2, am_kl, am_kill, am_mem, am_fv, am_tk, am_wt, am_bk, Option.toList, List.cons_append, List.nil_append, Nat.reduceAdd, Nat.reduceEqDiff, Nat.reduceLeDiff, reduceIte, Nat.reduceLT, or_self, true_or, or_true, if_true, if_false, and_self, and_true, true_and, not_false_eq_true, not_true_eq_false]
  have P3 := P2.fi c1 (by simp)
  have K23 : am_kd h3 2 = 1 := by rw [c1.2.2.2.1]; exact K22
  have R03 : am_R h3 2 0 = 18 := by rw [c1.2.2.2.2.2.1]; exact R02
  refine am_go [] 4 ?_
  simp only [am_wp, am_stp, am_en, am_as, am_pad, am_nth, am_set, am_st1, am_st2, am_kl, am_kill, am_mem, am_fv, am_tk, am_wt, am_bk, Option.toList, List.cons_append, List.nil_append, Nat.reduceAdd, Nat.reduceEqDiff, Nat.reduceLeDiff, reduceIte, Nat.reduceLT, or_self, true_or, or_true, if_true, if_false, and_self, and_true, true_and, not_false_eq_true, not_true_eq_false, fd_SR_init_236, fd_SR_init_237, fd_SR_init_240, fd_SR_init_241, K23, R03, P3.1]
  refine am_call (l2_checkSum (p := 1) (by have := P3.2.2.2.2.2.2.2.2.1; omega) P3) (fun o h4 q => ?_)
  obtain ⟨rfl, rfl⟩ := q
  simp only [am_wp, am_stp, am_en, am_as, am_pad, am_nth, am_set, am_st1, am_st2, am_kl, am_kill, am_mem, am_fv, am_tk, am_wt, am_bk, Option.toList, List.cons_append, List.nil_append, Nat.reduceAdd, Nat.reduceEqDiff, Nat.reduceLeDiff, reduceIte, Nat.reduceLT, or_self, true_or, or_true, if_true, if_false, and_self, and_true, true_and, not_false_eq_true, not_true_eq_false]
  refine am_go [] 3 ?_
  simp only [am_wp, am_stp, am_en, am_as, am_pad, am_nth, am_set, am_st1, am_st2, am_kl, am_kill, am_mem, am_fv, am_tk, am_wt, am_bk, Option.toList, List.cons_append, List.nil_append, Nat.reduceAdd, Nat.reduceEqDiff, Nat.reduceLeDiff, reduceIte, Nat.reduceLT, or_self, true_or, or_true, if_true, if_false, and_self, and_true, true_and, not_false_eq_true, not_true_eq_false, fd_SR_init_244]
  have e15 : am_I h1 15 = fun j => if j < 128 then hd_1 j else 0 := by rw [a2, z15]
  have e15' : ∀ j, am_I h1 15 j = if j < 128 then hd_1 j else 0 := fun j => congrFun e15 j
  have b2' : ∀ j, am_I h2 15 j = if 120 ≤ j ∧ j < 128 then sm_O (sm_F (am_I h1 15) (1 : Int32).toInt64 120) (j - 120) else am_I h1 15 j := fun j => congrFun b2 j
  have eF : sm_F (am_I h1 15) (1 : Int32).toInt64 120 = hd_z := by
    unfold hd_z
    exact sm_F_ext 120 (fun j hj => by rw [e15' j]; exact if_pos (by omega))
  have e152 : ∀ j, j < 128 → am_I h2 15 j = hd_p j := by
    intro j hj
    rw [b2' j, eF]
    unfold hd_p
    by_cases e : j < 120
    · rw [if_pos e, if_neg (by omega), e15' j, if_pos (by omega)]
    · rw [if_neg e, if_pos (by omega)]
  have e19 : am_I h3 19 = fun j => if 128 ≤ j ∧ j < 256 then hd_p (j - 128) else 0 := by
    rw [c2]
    funext j
    have q1 : am_I h2 19 = fun _ => 0 := by rw [b1.2.2.2.2.2.2.1 19 (by simp), a1.2.2.2.2.2.2.1 19 (by simp), z19]
    by_cases e : 128 ≤ j ∧ j < 256
    · rw [if_pos (by omega), if_pos e, show j - 1 * 128 = j - 128 by omega, e152 _ (by omega), hd_b8]
    · rw [if_neg (by omega), if_neg e, q1]
  have e19' : ∀ j, am_I h3 19 j = if 128 ≤ j ∧ j < 256 then hd_p (j - 128) else 0 := fun j => congrFun e19 j
  refine hx _ ?_ ?_ ?_ ?_
  · exact (((a1.sub (by simp)).trans (b1.sub (by simp))).trans (c1.sub (by simp))).sI (by simp)
  · simp only [hx_nx_sI, hx_ce_sI, hx_sl_sI, hx_kd_sI, hx_ln_sI, hx_I_sI, hx_L_sI, hx_R_sI, hx_nx_sL, hx_ce_sL, hx_sl_sL, hx_kd_sL, hx_ln_sL, hx_I_sL, hx_L_sL, hx_R_sL, hx_nx_sR, hx_ce_sR, hx_sl_sR, hx_kd_sR, hx_ln_sR, hx_I_sR, hx_L_sR, hx_R_sR, hx_nx_al, hx_ce_al, hx_sl_al, hx_kd_al, hx_ln_al, hx_I_al, hx_L_al, hx_R_al, hx_nx_row, hx_ce_row, hx_sl_row, hx_kd_row, hx_ln_row, hx_I_row, hx_L_row, hx_R_row, hx_nx_mk, hx_kd_mk, hx_ln_mk, hx_I_mk, hx_L_mk, hx_R_mk]; rw [c3, b3, a4]
  · funext j
    simp only [hx_nx_sI, hx_ce_sI, hx_sl_sI, hx_kd_sI, hx_ln_sI, hx_I_sI, hx_L_sI, hx_R_sI, hx_nx_sL, hx_ce_sL, hx_sl_sL, hx_kd_sL, hx_ln_sL, hx_I_sL, hx_L_sL, hx_R_sL, hx_nx_sR, hx_ce_sR, hx_sl_sR, hx_kd_sR, hx_ln_sR, hx_I_sR, hx_L_sR, hx_R_sR, hx_nx_al, hx_ce_al, hx_sl_al, hx_kd_al, hx_ln_al, hx_I_al, hx_L_al, hx_R_al, hx_nx_row, hx_ce_row, hx_sl_row, hx_kd_row, hx_ln_row, hx_I_row, hx_L_row, hx_R_row, hx_nx_mk, hx_kd_mk, hx_ln_mk, hx_I_mk, hx_L_mk, hx_R_mk, am_wp, am_stp, am_en, am_as, am_pad, am_nth, am_set, am_st1, am_st2, am_kl, am_kill, am_mem, am_fv, am_tk, am_wt, am_bk, Option.toList, List.cons_append, List.nil_append, Nat.reduceAdd, Nat.reduceEqDiff, Nat.reduceLeDiff, reduceIte, Nat.reduceLT, or_self, true_or, or_true, if_true, if_false, and_self, and_true, true_and, not_false_eq_true, not_true_eq_false, e19]
  · funext j
    have q1 : am_I h3 20 = fun j => if j = 0 then 1 else 0 := by rw [c1.2.2.2.2.2.2.1 20 (by simp), b1.2.2.2.2.2.2.1 20 (by simp), a1.2.2.2.2.2.2.1 20 (by simp), z20]
    have q2 : (fun j => am_I h3 19 (1 * 128 + 120 + j)) = fun j => am_I h3 19 (248 + j) := rfl
    have q3 : cs_B (fun j => am_I h3 19 (1 * 128 + 120 + j)) (sm_F (fun j => am_I h3 19 (1 * 128 + j)) (nI 1).toInt64 120) 8 = 1 := by
      rw [cs_B_1]
      intro i hi
      have hc := (cs_B_1 8).mp hd_cs i hi
      have eS : sm_F (fun j => am_I h3 19 (1 * 128 + j)) (nI 1).toInt64 120 = sm_F hd_p (nI 1).toInt64 120 := sm_F_ext 120 (fun j hj => by
        rw [e19', if_pos (by omega), show 1 * 128 + j - 128 = j by omega])
      rw [eS, ← hc, e19', if_pos (by omega), show 1 * 128 + 120 + i - 128 = 120 + i by omega]
    simp only [hx_nx_sI, hx_ce_sI, hx_sl_sI, hx_kd_sI, hx_ln_sI, hx_I_sI, hx_L_sI, hx_R_sI, hx_nx_sL, hx_ce_sL, hx_sl_sL, hx_kd_sL, hx_ln_sL, hx_I_sL, hx_L_sL, hx_R_sL, hx_nx_sR, hx_ce_sR, hx_sl_sR, hx_kd_sR, hx_ln_sR, hx_I_sR, hx_L_sR, hx_R_sR, hx_nx_al, hx_ce_al, hx_sl_al, hx_kd_al, hx_ln_al, hx_I_al, hx_L_al, hx_R_al, hx_nx_row, hx_ce_row, hx_sl_row, hx_kd_row, hx_ln_row, hx_I_row, hx_L_row, hx_R_row, hx_nx_mk, hx_kd_mk, hx_ln_mk, hx_I_mk, hx_L_mk, hx_R_mk, am_wp, am_stp, am_en, am_as, am_pad, am_nth, am_set, am_st1, am_st2, am_kl, am_kill, am_mem, am_fv, am_tk, am_wt, am_bk, Option.toList, List.cons_append, List.nil_append, Nat.reduceAdd, Nat.reduceEqDiff, Nat.reduceLeDiff, reduceIte, Nat.reduceLT, or_self, true_or, or_true, if_true, if_false, and_self, and_true, true_and, not_false_eq_true, not_true_eq_false]
    rw [q3, q1]
