/-! THE SHEET -/
/-- the Sheet (14) and its octets (15) -/
def cl_Sh (h : am_H) : Prop := am_kd h 14 = 8 ∧ am_R h 14 0 = 15 ∧ am_kd h 15 = 102 ∧ am_ln h 15 = 128
theorem cl_Sh.fi {S : List Nat} {h h' : am_H} (a : cl_Sh h) (b : am_fi S h h') : cl_Sh h' := by
  obtain ⟨-, -, -, b4, b5, b6, -⟩ := b
  unfold cl_Sh
  rw [b4, b5, b6]
  exact a
theorem cl_Sh.sI {h : am_H} {a j : Nat} {v : Int32} (c : cl_Sh h) : cl_Sh (am_sI h a j v) := c
theorem cl_Sh.sL {h : am_H} {a j : Nat} {v : Int64} (c : cl_Sh h) : cl_Sh (am_sL h a j v) := c
theorem l2_clear_loop {d : Nat} {Q : am_O → am_H → Prop} : ∀ (n k : Nat) (h : am_H), n + k = 128 → cl_Sh h →
    (∀ h', am_fi [15] h h' → am_I h' 15 = (fun j => if k ≤ j ∧ j < 128 then 0 else am_I h 15 j) → am_L h' = am_L h → am_Ex nm_pr d mt_Sheet_clear (22, [.ref 14, .int (nI 128)], [], h') Q) →
    am_Ex nm_pr d mt_Sheet_clear (2, [.ref 14, .int (nI k)], [], h) Q
  | 0, k, h, hk, hS, hx => by
    have e : k = 128 := by omega
    subst e
    refine am_go [2, 22] 20 ?_
    have hlt : ¬ (nI 128 < 128) := by decide
    simp only [am_wp, am_stp, am_en, am_as, am_pad, am_nth, am_set, am_st1, am_st2, am_kl, am_kill, am_mem, am_fv, am_tk, am_wt, am_bk, Option.toList, List.cons_append, List.nil_append, Nat.reduceAdd, Nat.reduceEqDiff, Nat.reduceLeDiff, reduceIte, Nat.reduceLT, or_self, true_or, or_true, if_true, if_false, and_self, and_true, true_and, not_false_eq_true, not_true_eq_false, fd_Sheet_clear_0, fd_Sheet_clear_1, fd_Sheet_clear_2, fd_Sheet_clear_3, fd_Sheet_clear_6, fd_Sheet_clear_9, fd_Sheet_clear_10, fd_Sheet_clear_13, fd_Sheet_clear_14, fd_Sheet_clear_15, fd_Sheet_clear_16, fd_Sheet_clear_19, fd_Sheet_clear_22, fd_Sheet_clear_23, fd_Sheet_clear_24, fd_Sheet_clear_27, fd_Sheet_clear_28, fd_Sheet_clear_29, fd_Sheet_clear_32, hlt]
    refine hx h am_fi.refl ?_ rfl
    funext j
    rw [if_neg (by omega)]
  | n + 1, k, h, hk, hS, hx => by
    obtain ⟨k1, r1, k2, n2⟩ := id hS
    refine am_go [2, 22] 20 ?_
    have hlt : nI k < 128 := nI_lt (b := 128) (by omega) (by decide)
    have hin : ¬ (nI k < 0 ∨ 128 ≤ (nI k).toNatClampNeg) := nI_in (by omega) (by decide)
    have hc : (nI k).toNatClampNeg = k := nI_clamp (by omega)
    have h0 : am_b8 0 = 0 := by decide
    simp only [am_wp, am_stp, am_en, am_as, am_pad, am_nth, am_set, am_st1, am_st2, am_kl, am_kill, am_mem, am_fv, am_tk, am_wt, am_bk, Option.toList, List.cons_append, List.nil_append, Nat.reduceAdd, Nat.reduceEqDiff, Nat.reduceLeDiff, reduceIte, Nat.reduceLT, or_self, true_or, or_true, if_true, if_false, and_self, and_true, true_and, not_false_eq_true, not_true_eq_false, fd_Sheet_clear_0, fd_Sheet_clear_1, fd_Sheet_clear_2, fd_Sheet_clear_3, fd_Sheet_clear_6, fd_Sheet_clear_9, fd_Sheet_clear_10, fd_Sheet_clear_13, fd_Sheet_clear_14, fd_Sheet_clear_15, fd_Sheet_clear_16, fd_Sheet_clear_19, fd_Sheet_clear_22, fd_Sheet_clear_23, fd_Sheet_clear_24, fd_Sheet_clear_27, fd_Sheet_clear_28, fd_Sheet_clear_29, fd_Sheet_clear_32, k1, r1, k2, n2, hlt, hin, nI_1]
    rw [hc, h0]
    refine l2_clear_loop n (k + 1) (am_sI h 15 k 0) (by omega) hS (fun h' a1 a2 a3 => hx h' ((am_fi.refl.sI (by simp)).trans a1) ?_ a3)
    rw [a2]
    funext j
    rw [hx_I_sI, if_pos rfl]
    by_cases e1 : j = k
    · subst e1; rw [if_neg (by omega), if_pos rfl, if_pos (by omega)]
    · rw [if_neg e1]
      by_cases e2 : k + 1 ≤ j ∧ j < 128
      · rw [if_pos e2, if_pos (by omega)]
      · rw [if_neg e2, if_neg (by omega)]
theorem l2_clear {d : Nat} {h : am_H} (hS : cl_Sh h) : am_Rt nm_pr (d + 1) mi_Sheet_clear [.ref 14] h (fun o h' => o = .inl none ∧ am_fi [14, 15] h h' ∧ am_I h' 15 = (fun j => if j < 128 then 0 else am_I h 15 j) ∧ am_I h' 14 = (fun j => if j = 1 ∨ j = 2 then 0 else am_I h 14 j) ∧ am_L h' = am_L h) := by
  refine am_in' mt_Sheet_clear 2 rfl rfl rfl ?_
  refine am_go [2] 20 ?_
  simp only [am_wp, am_stp, am_en, am_as, am_pad, am_nth, am_set, am_st1, am_st2, am_kl, am_kill, am_mem, am_fv, am_tk, am_wt, am_bk, Option.toList, List.cons_append, List.nil_append, Nat.reduceAdd, Nat.reduceEqDiff, Nat.reduceLeDiff, reduceIte, Nat.reduceLT, or_self, true_or, or_true, if_true, if_false, and_self, and_true, true_and, not_false_eq_true, not_true_eq_false, fd_Sheet_clear_0, fd_Sheet_clear_1, fd_Sheet_clear_2, fd_Sheet_clear_3, fd_Sheet_clear_6, fd_Sheet_clear_9, fd_Sheet_clear_10, fd_Sheet_clear_13, fd_Sheet_clear_14, fd_Sheet_clear_15, fd_Sheet_clear_16, fd_Sheet_clear_19, fd_Sheet_clear_22, fd_Sheet_clear_23, fd_Sheet_clear_24, fd_Sheet_clear_27, fd_Sheet_clear_28, fd_Sheet_clear_29, fd_Sheet_clear_32]
  refine l2_clear_loop 128 0 h rfl hS (fun h' a1 a2 a3 => ?_)
  obtain ⟨k1, r1, k2, n2⟩ := hS.fi a1
  refine am_go [] 20 ?_
  simp only [am_wp, am_stp, am_en, am_as, am_pad, am_nth, am_set, am_st1, am_st2, am_kl, am_kill, am_mem, am_fv, am_tk, am_wt, am_bk, Option.toList, List.cons_append, List.nil_append, Nat.reduceAdd, Nat.reduceEqDiff, Nat.reduceLeDiff, reduceIte, Nat.reduceLT, or_self, true_or, or_true, if_true, if_false, and_self, and_true, true_and, not_false_eq_true, not_true_eq_false, fd_Sheet_clear_0, fd_Sheet_clear_1, fd_Sheet_clear_2, fd_Sheet_clear_3, fd_Sheet_clear_6, fd_Sheet_clear_9, fd_Sheet_clear_10, fd_Sheet_clear_13, fd_Sheet_clear_14, fd_Sheet_clear_15, fd_Sheet_clear_16, fd_Sheet_clear_19, fd_Sheet_clear_22, fd_Sheet_clear_23, fd_Sheet_clear_24, fd_Sheet_clear_27, fd_Sheet_clear_28, fd_Sheet_clear_29, fd_Sheet_clear_32, hx_nx_sI, hx_ce_sI, hx_sl_sI, hx_kd_sI, hx_ln_sI, hx_I_sI, hx_L_sI, hx_R_sI, hx_nx_sL, hx_ce_sL, hx_sl_sL, hx_kd_sL, hx_ln_sL, hx_I_sL, hx_L_sL, hx_R_sL, hx_nx_sR, hx_ce_sR, hx_sl_sR, hx_kd_sR, hx_ln_sR, hx_I_sR, hx_L_sR, hx_R_sR, hx_nx_al, hx_ce_al, hx_sl_al, hx_kd_al, hx_ln_al, hx_I_al, hx_L_al, hx_R_al, hx_nx_row, hx_ce_row, hx_sl_row, hx_kd_row, hx_ln_row, hx_I_row, hx_L_row, hx_R_row, hx_nx_mk, hx_kd_mk, hx_ln_mk, hx_I_mk, hx_L_mk, hx_R_mk, k1]
  refine ⟨((a1.sub (by simp)).sI (by simp)).sI (by simp), ?_, ?_, a3⟩
  · funext j
    simp only [hx_nx_sI, hx_ce_sI, hx_sl_sI, hx_kd_sI, hx_ln_sI, hx_I_sI, hx_L_sI, hx_R_sI, hx_nx_sL, hx_ce_sL, hx_sl_sL, hx_kd_sL, hx_ln_sL, hx_I_sL, hx_L_sL, hx_R_sL, hx_nx_sR, hx_ce_sR, hx_sl_sR, hx_kd_sR, hx_ln_sR, hx_I_sR, hx_L_sR, hx_R_sR, hx_nx_al, hx_ce_al, hx_sl_al, hx_kd_al, hx_ln_al, hx_I_al, hx_L_al, hx_R_al, hx_nx_row, hx_ce_row, hx_sl_row, hx_kd_row, hx_ln_row, hx_I_row, hx_L_row, hx_R_row, hx_nx_mk, hx_kd_mk, hx_ln_mk, hx_I_mk, hx_L_mk, hx_R_mk, a2]
    simp
  · funext j
    have e := congrFun (a1.2.2.2.2.2.2.1 14 (by simp)) j
    simp only [hx_nx_sI, hx_ce_sI, hx_sl_sI, hx_kd_sI, hx_ln_sI, hx_I_sI, hx_L_sI, hx_R_sI, hx_nx_sL, hx_ce_sL, hx_sl_sL, hx_kd_sL, hx_ln_sL, hx_I_sL, hx_L_sL, hx_R_sL, hx_nx_sR, hx_ce_sR, hx_sl_sR, hx_kd_sR, hx_ln_sR, hx_I_sR, hx_L_sR, hx_R_sR, hx_nx_al, hx_ce_al, hx_sl_al, hx_kd_al, hx_ln_al, hx_I_al, hx_L_al, hx_R_al, hx_nx_row, hx_ce_row, hx_sl_row, hx_kd_row, hx_ln_row, hx_I_row, hx_L_row, hx_R_row, hx_nx_mk, hx_kd_mk, hx_ln_mk, hx_I_mk, hx_L_mk, hx_R_mk, e]
    by_cases e1 : j = 1 <;> by_cases e2 : j = 2 <;> simp [e1, e2]
/-- the octet at the end -/
theorem l2_one {d u : Nat} {x : Int32} {h : am_H} (hS : cl_Sh h) (hu : am_I h 14 1 = nI u) (hlt : u < 120) : am_Rt nm_pr (d + 1) mi_Sheet_one [.ref 14, .int x] h (fun o h' => o = .inl none ∧ h' = am_sI (am_sI h 15 u (am_b8 x)) 14 1 (nI (u + 1))) := by
  obtain ⟨k1, r1, k2, n2⟩ := id hS
  refine am_in' mt_Sheet_one 2 rfl rfl rfl ?_
  refine am_go [] 30 ?_
  have h1 : nI u < 120 := nI_lt (b := 120) hlt (by decide)
  have hin := am_inb (c := u) (N := 128) (by omega) (by omega)
  have hc : (nI u).toNatClampNeg = u := nI_clamp (by omega)
  simp only [am_wp, am_stp, am_en, am_as, am_pad, am_nth, am_set, am_st1, am_st2, am_kl, am_kill, am_mem, am_fv, am_tk, am_wt, am_bk, Option.toList, List.cons_append, List.nil_append, Nat.reduceAdd, Nat.reduceEqDiff, Nat.reduceLeDiff, reduceIte, Nat.reduceLT, or_self, true_or, or_true, if_true, if_false, and_self, and_true, true_and, not_false_eq_true, not_true_eq_false, fd_Sheet_one_0, fd_Sheet_one_1, fd_Sheet_one_4, fd_Sheet_one_6, fd_Sheet_one_9, fd_Sheet_one_10, fd_Sheet_one_13, fd_Sheet_one_14, fd_Sheet_one_17, fd_Sheet_one_18, fd_Sheet_one_19, fd_Sheet_one_20, fd_Sheet_one_21, fd_Sheet_one_22, fd_Sheet_one_25, fd_Sheet_one_26, fd_Sheet_one_27, fd_Sheet_one_30, k1, r1, k2, n2, hu, h1, hin, hc, hx_nx_sI, hx_ce_sI, hx_sl_sI, hx_kd_sI, hx_ln_sI, hx_I_sI, hx_L_sI, hx_R_sI, hx_nx_sL, hx_ce_sL, hx_sl_sL, hx_kd_sL, hx_ln_sL, hx_I_sL, hx_L_sL, hx_R_sL, hx_nx_sR, hx_ce_sR, hx_sl_sR, hx_kd_sR, hx_ln_sR, hx_I_sR, hx_L_sR, hx_R_sR, hx_nx_al, hx_ce_al, hx_sl_al, hx_kd_al, hx_ln_al, hx_I_al, hx_L_al, hx_R_al, hx_nx_row, hx_ce_row, hx_sl_row, hx_kd_row, hx_ln_row, hx_I_row, hx_L_row, hx_R_row, hx_nx_mk, hx_kd_mk, hx_ln_mk, hx_I_mk, hx_L_mk, hx_R_mk, nI_1, am_b8_b8]
/-- .. two of them -/
theorem l2_two {d u : Nat} {x : Int32} {h : am_H} (hS : cl_Sh h) (hu : am_I h 14 1 = nI u) (hlt : u + 1 < 120) : am_Rt nm_pr (d + 2) mi_Sheet_two [.ref 14, .int x] h (fun o h' => o = .inl none ∧ h' = am_sI (am_sI (am_sI (am_sI h 15 u (am_b8 (x.toUInt32 >>> (Int32.toUInt32 8 &&& Int32.toUInt32 31)).toInt32)) 14 1 (nI (u + 1))) 15 (u + 1) (am_b8 x)) 14 1 (nI (u + 2))) := by
  obtain ⟨k1, r1, k2, n2⟩ := id hS
  refine am_in' mt_Sheet_two 2 rfl rfl rfl ?_
  refine am_go [] 5 ?_
  simp only [am_wp, am_stp, am_en, am_as, am_pad, am_nth, am_set, am_st1, am_st2, am_kl, am_kill, am_mem, am_fv, am_tk, am_wt, am_bk, Option.toList, List.cons_append, List.nil_append, Nat.reduceAdd, Nat.reduceEqDiff, Nat.reduceLeDiff, reduceIte, Nat.reduceLT, or_self, true_or, or_true, if_true, if_false, and_self, and_true, true_and, not_false_eq_true, not_true_eq_false, fd_Sheet_two_0, fd_Sheet_two_1, fd_Sheet_two_2, fd_Sheet_two_4, fd_Sheet_two_5, fd_Sheet_two_8, fd_Sheet_two_9, fd_Sheet_two_10, fd_Sheet_two_13, k1]
  refine am_call (l2_one hS hu (by omega)) (fun o h1 q => ?_)
  obtain ⟨rfl, rfl⟩ := q
  simp only [am_wp, am_stp, am_en, am_as, am_pad, am_nth, am_set, am_st1, am_st2, am_kl, am_kill, am_mem, am_fv, am_tk, am_wt, am_bk, Option.toList, List.cons_append, List.nil_append, Nat.reduceAdd, Nat.reduceEqDiff, Nat.reduceLeDiff, reduceIte, Nat.reduceLT, or_self, true_or, or_true, if_true, if_false, and_self, and_true, true_and, not_false_eq_true, not_true_eq_false]
  refine am_go [] 3 ?_
  simp only [am_wp, am_stp, am_en, am_as, am_pad, am_nth, am_set, am_st1, am_st2, am_kl, am_kill, am_mem, am_fv, am_tk, am_wt, am_bk, Option.toList, List.cons_append, List.nil_append, Nat.reduceAdd, Nat.reduceEqDiff, Nat.reduceLeDiff, reduceIte, Nat.reduceLT, or_self, true_or, or_true, if_true, if_false, and_self, and_true, true_and, not_false_eq_true, not_true_eq_false, fd_Sheet_two_0, fd_Sheet_two_1, fd_Sheet_two_2, fd_Sheet_two_4, fd_Sheet_two_5, fd_Sheet_two_8, fd_Sheet_two_9, fd_Sheet_two_10, fd_Sheet_two_13, hx_nx_sI, hx_ce_sI, hx_sl_sI, hx_kd_sI, hx_ln_sI, hx_I_sI, hx_L_sI, hx_R_sI, hx_nx_sL, hx_ce_sL, hx_sl_sL, hx_kd_sL, hx_ln_sL, hx_I_sL, hx_L_sL, hx_R_sL, hx_nx_sR, hx_ce_sR, hx_sl_sR, hx_kd_sR, hx_ln_sR, hx_I_sR, hx_L_sR, hx_R_sR, hx_nx_al, hx_ce_al, hx_sl_al, hx_kd_al, hx_ln_al, hx_I_al, hx_L_al, hx_R_al, hx_nx_row, hx_ce_row, hx_sl_row, hx_kd_row, hx_ln_row, hx_I_row, hx_L_row, hx_R_row, hx_nx_mk, hx_kd_mk, hx_ln_mk, hx_I_mk, hx_L_mk, hx_R_mk, k1]
  refine am_call (l2_one (u := u + 1) ?_ ?_ (by omega)) (fun o h1 q => ?_)
  · exact hS
  · simp only [hx_nx_sI, hx_ce_sI, hx_sl_sI, hx_kd_sI, hx_ln_sI, hx_I_sI, hx_L_sI, hx_R_sI, hx_nx_sL, hx_ce_sL, hx_sl_sL, hx_kd_sL, hx_ln_sL, hx_I_sL, hx_L_sL, hx_R_sL, hx_nx_sR, hx_ce_sR, hx_sl_sR, hx_kd_sR, hx_ln_sR, hx_I_sR, hx_L_sR, hx_R_sR, hx_nx_al, hx_ce_al, hx_sl_al, hx_kd_al, hx_ln_al, hx_I_al, hx_L_al, hx_R_al, hx_nx_row, hx_ce_row, hx_sl_row, hx_kd_row, hx_ln_row, hx_I_row, hx_L_row, hx_R_row, hx_nx_mk, hx_kd_mk, hx_ln_mk, hx_I_mk, hx_L_mk, hx_R_mk, am_wp, am_stp, am_en, am_as, am_pad, am_nth, am_set, am_st1, am_st2, am_kl, am_kill, am_mem, am_fv, am_tk, am_wt, am_bk, Option.toList, List.cons_append, List.nil_append, Nat.reduceAdd, Nat.reduceEqDiff, Nat.reduceLeDiff, reduceIte, Nat.reduceLT, or_self, true_or, or_true, if_true, if_false, and_self, and_true, true_and, not_false_eq_true, not_true_eq_false]
  · obtain ⟨rfl, rfl⟩ := q
    simp only [am_wp, am_stp, am_en, am_as, am_pad, am_nth, am_set, am_st1, am_st2, am_kl, am_kill, am_mem, am_fv, am_tk, am_wt, am_bk, Option.toList, List.cons_append, List.nil_append, Nat.reduceAdd, Nat.reduceEqDiff, Nat.reduceLeDiff, reduceIte, Nat.reduceLT, or_self, true_or, or_true, if_true, if_false, and_self, and_true, true_and, not_false_eq_true, not_true_eq_false]
    refine am_go [] 5 ?_
    simp only [am_wp, am_stp, am_en, am_as, am_pad, am_nth, am_set, am_st1, am_st2, am_kl, am_kill, am_mem, am_fv, am_tk, am_wt, am_bk, Option.toList, List.cons_append, List.nil_append, Nat.reduceAdd, Nat.reduceEqDiff, Nat.reduceLeDiff, reduceIte, Nat.reduceLT, or_self, true_or, or_true, if_true, if_false, and_self, and_true, true_and, not_false_eq_true, not_true_eq_false, fd_Sheet_two_0, fd_Sheet_two_1, fd_Sheet_two_2, fd_Sheet_two_4, fd_Sheet_two_5, fd_Sheet_two_8, fd_Sheet_two_9, fd_Sheet_two_10, fd_Sheet_two_13]
