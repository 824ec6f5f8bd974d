/-! poke ON A NEW OBJECT -/
def pk_c (P : Nat) (p i m : Int32) : Int32 := match oc_ok P p i with
  | false => 1
  | true => if 2 ≤ p.toNatClampNeg then 2 else if m < 1 then 3 else if 255 < m then 3 else 0
theorem l2_SR_poke {d P : Nat} {p i m : Int32} {h : am_H} (k2 : am_kd h 2 = 1) (r0 : am_R h 2 0 = 18) (hP : cl_Pg P h) (h20 : am_I h 20 = fun j => if j = 1 then 1 else if j = 0 then 1 else 0) : am_Rt nm_pr (d + 5) mi_SR_poke [.ref 2, .int p, .int i, .int m] h (fun o h' =>
    (pk_c P p i m = 1 ∧ o = .inr (2, am_nx h) ∧ h' = am_al h 0 0 6) ∨ (pk_c P p i m = 2 ∧ o = .inr (0, am_nx h) ∧ h' = am_al h 0 0 6) ∨ (pk_c P p i m = 3 ∧ o = .inr (1, am_nx h) ∧ h' = am_al h 0 0 6) ∨ (pk_c P p i m = 0 ∧ o = .inl none ∧ am_fi [19, 20] h h')) := by
  have h3 : mt_SR_poke.2.2 = [] := rfl
  obtain ⟨q1, q2, q3, q4, q5, q6, q7, q8, q9, q10⟩ := id hP
  refine am_in' (d := d + 4) mt_SR_poke 4 rfl rfl rfl ?_
  refine am_go [] 4 ?_
  simp only [am_wp, am_stp, am_en, am_as, am_pad, am_nth, am_set, am_st1, am_st2, am_kl, am_kill, am_mem, am_fv, am_tk, am_wt, am_bk, Option.toList, List.cons_append, List.nil_append, Nat.reduceAdd, Nat.reduceEqDiff, Nat.reduceLeDiff, reduceIte, Nat.reduceLT, or_self, true_or, or_true, if_true, if_false, and_self, and_true, true_and, not_false_eq_true, not_true_eq_false, fd_SR_poke_0, fd_SR_poke_1, fd_SR_poke_2, fd_SR_poke_3, k2]
  refine am_call (l2_requireOctet k2 r0 hP) (fun o h1 q => ?_)
  cases e : oc_ok P p i with
  | false =>
    rw [e] at q
    obtain ⟨rfl, rfl⟩ := q
    simp only [am_wp, am_stp, am_en, am_as, am_pad, am_nth, am_set, am_st1, am_st2, am_kl, am_kill, am_mem, am_fv, am_tk, am_wt, am_bk, Option.toList, List.cons_append, List.nil_append, Nat.reduceAdd, Nat.reduceEqDiff, Nat.reduceLeDiff, reduceIte, Nat.reduceLT, or_self, true_or, or_true, if_true, if_false, and_self, and_true, true_and, not_false_eq_true, not_true_eq_false, h3, am_hd]
    exact Or.inl (by unfold pk_c; rw [e])
  | true =>
    rw [e] at q
    obtain ⟨rfl, rfl⟩ := q
    obtain ⟨a, b, rfl, rfl, ha, hb⟩ := oc_spec q10 e
    have ca : (nI a).toNatClampNeg = a := nI_clamp (by omega)
    have ev : pk_c P (nI a) (nI b) m = if 2 ≤ a then 2 else if m < 1 then 3 else if 255 < m then 3 else 0 := by
      unfold pk_c
      rw [e, ca]
    rw [ev]
    simp only [am_wp, am_stp, am_en, am_as, am_pad, am_nth, am_set, am_st1, am_st2, am_kl, am_kill, am_mem, am_fv, am_tk, am_wt, am_bk, Option.toList, List.cons_append, List.nil_append, Nat.reduceAdd, Nat.reduceEqDiff, Nat.reduceLeDiff, reduceIte, Nat.reduceLT, or_self, true_or, or_true, if_true, if_false, and_self, and_true, true_and, not_false_eq_true, not_true_eq_false]
    refine am_go [] 4 ?_
    simp only [am_wp, am_stp, am_en, am_as, am_pad, am_nth, am_set, am_st1, am_st2, am_kl, am_kill, am_mem, am_fv, am_tk, am_wt, am_bk, Option.toList, List.cons_append, List.nil_append, Nat.reduceAdd, Nat.reduceEqDiff, Nat.reduceLeDiff, reduceIte, Nat.reduceLT, or_self, true_or, or_true, if_true, if_false, and_self, and_true, true_and, not_false_eq_true, not_true_eq_false, fd_SR_poke_6, fd_SR_poke_7, fd_SR_poke_10, fd_SR_poke_11, k2, r0, q1]
    refine am_call (Q := fun o h' => o = .inl (some (.int (am_I h1 20 a))) ∧ h' = h1) ?_ (fun o h2 q => ?_)
    · refine am_in' (d := d + 3) mt_Pages_isRight 2 rfl rfl rfl ?_
      refine am_go [] 3 ?_
      simp only [am_wp, am_stp, am_en, am_as, am_pad, am_nth, am_set, am_st1, am_st2, am_kl, am_kill, am_mem, am_fv, am_tk, am_wt, am_bk, Option.toList, List.cons_append, List.nil_append, Nat.reduceAdd, Nat.reduceEqDiff, Nat.reduceLeDiff, reduceIte, Nat.reduceLT, or_self, true_or, or_true, if_true, if_false, and_self, and_true, true_and, not_false_eq_true, not_true_eq_false, fd_Pages_isRight_0, fd_Pages_isRight_1, fd_Pages_isRight_2, q1]
      refine am_call (l2_has1 hP ha) (fun o h2 q => ?_)
      obtain ⟨rfl, rfl⟩ := q
      simp only [am_wp, am_stp, am_en, am_as, am_pad, am_nth, am_set, am_st1, am_st2, am_kl, am_kill, am_mem, am_fv, am_tk, am_wt, am_bk, Option.toList, List.cons_append, List.nil_append, Nat.reduceAdd, Nat.reduceEqDiff, Nat.reduceLeDiff, reduceIte, Nat.reduceLT, or_self, true_or, or_true, if_true, if_false, and_self, and_true, true_and, not_false_eq_true, not_true_eq_false]
      have one0 : ¬ ((1 : Int32) = 0) := by decide
      have i1 := am_inb (c := a) (N := P) ha (by omega)
      have v := congrFun h20 a
      refine am_go [21, 17] 6 ?_
      simp only [am_wp, am_stp, am_en, am_as, am_pad, am_nth, am_set, am_st1, am_st2, am_kl, am_kill, am_mem, am_fv, am_tk, am_wt, am_bk, Option.toList, List.cons_append, List.nil_append, Nat.reduceAdd, Nat.reduceEqDiff, Nat.reduceLeDiff, reduceIte, Nat.reduceLT, or_self, true_or, or_true, if_true, if_false, and_self, and_true, true_and, not_false_eq_true, not_true_eq_false, fd_Pages_isRight_5, fd_Pages_isRight_8, fd_Pages_isRight_9, fd_Pages_isRight_12, fd_Pages_isRight_13, fd_Pages_isRight_14, one0, q1, q3, q7, q8, i1, ca]
      have o0 : (0 : Int32) = 0 ∨ (0 : Int32) = 1 := by decide
      have o1 : (1 : Int32) = 0 ∨ (1 : Int32) = 1 := by decide
      by_cases z : a < 2
      · have v1 : am_I h2 20 a = 1 := v.trans (by rcases (by omega : a = 0 ∨ a = 1) with r | r <;> subst r <;> rfl)
        simp only [v1, one0, am_wp, am_stp, am_en, am_as, am_pad, am_nth, am_set, am_st1, am_st2, am_kl, am_kill, am_mem, am_fv, am_tk, am_wt, am_bk, Option.toList, List.cons_append, List.nil_append, Nat.reduceAdd, Nat.reduceEqDiff, Nat.reduceLeDiff, reduceIte, Nat.reduceLT, or_self, true_or, or_true, if_true, if_false, and_self, and_true, true_and, not_false_eq_true, not_true_eq_false]
        refine am_go [] 4 ?_
        simp only [am_wp, am_stp, am_en, am_as, am_pad, am_nth, am_set, am_st1, am_st2, am_kl, am_kill, am_mem, am_fv, am_tk, am_wt, am_bk, Option.toList, List.cons_append, List.nil_append, Nat.reduceAdd, Nat.reduceEqDiff, Nat.reduceLeDiff, reduceIte, Nat.reduceLT, or_self, true_or, or_true, if_true, if_false, and_self, and_true, true_and, not_false_eq_true, not_true_eq_false, fd_Pages_isRight_17, fd_Pages_isRight_18, fd_Pages_isRight_21, fd_Pages_isRight_22, o1]
      · have v1 : am_I h2 20 a = 0 := v.trans (by simp only [show ¬ a = 1 by omega, show ¬ a = 0 by omega, if_false])
        simp only [v1, am_wp, am_stp, am_en, am_as, am_pad, am_nth, am_set, am_st1, am_st2, am_kl, am_kill, am_mem, am_fv, am_tk, am_wt, am_bk, Option.toList, List.cons_append, List.nil_append, Nat.reduceAdd, Nat.reduceEqDiff, Nat.reduceLeDiff, reduceIte, Nat.reduceLT, or_self, true_or, or_true, if_true, if_false, and_self, and_true, true_and, not_false_eq_true, not_true_eq_false]
        refine am_go [] 4 ?_
        simp only [am_wp, am_stp, am_en, am_as, am_pad, am_nth, am_set, am_st1, am_st2, am_kl, am_kill, am_mem, am_fv, am_tk, am_wt, am_bk, Option.toList, List.cons_append, List.nil_append, Nat.reduceAdd, Nat.reduceEqDiff, Nat.reduceLeDiff, reduceIte, Nat.reduceLT, or_self, true_or, or_true, if_true, if_false, and_self, and_true, true_and, not_false_eq_true, not_true_eq_false, fd_Pages_isRight_21, fd_Pages_isRight_22, o0]
    · obtain ⟨rfl, rfl⟩ := q
      simp only [am_wp, am_stp, am_en, am_as, am_pad, am_nth, am_set, am_st1, am_st2, am_kl, am_kill, am_mem, am_fv, am_tk, am_wt, am_bk, Option.toList, List.cons_append, List.nil_append, Nat.reduceAdd, Nat.reduceEqDiff, Nat.reduceLeDiff, reduceIte, Nat.reduceLT, or_self, true_or, or_true, if_true, if_false, and_self, and_true, true_and, not_false_eq_true, not_true_eq_false]
      have one0 : ¬ ((1 : Int32) = 0) := by decide
      have v := congrFun h20 a
      refine am_go [17, 28] 2 ?_
      simp only [am_wp, am_stp, am_en, am_as, am_pad, am_nth, am_set, am_st1, am_st2, am_kl, am_kill, am_mem, am_fv, am_tk, am_wt, am_bk, Option.toList, List.cons_append, List.nil_append, Nat.reduceAdd, Nat.reduceEqDiff, Nat.reduceLeDiff, reduceIte, Nat.reduceLT, or_self, true_or, or_true, if_true, if_false, and_self, and_true, true_and, not_false_eq_true, not_true_eq_false, fd_SR_poke_14]
      by_cases z : a < 2
      · have v1 : am_I h2 20 a = 1 := v.trans (by rcases (by omega : a = 0 ∨ a = 1) with r | r <;> subst r <;> rfl)
        have z' : ¬ 2 ≤ a := by omega
        simp only [v1, one0, am_wp, am_stp, am_en, am_as, am_pad, am_nth, am_set, am_st1, am_st2, am_kl, am_kill, am_mem, am_fv, am_tk, am_wt, am_bk, Option.toList, List.cons_append, List.nil_append, Nat.reduceAdd, Nat.reduceEqDiff, Nat.reduceLeDiff, reduceIte, Nat.reduceLT, or_self, true_or, or_true, if_true, if_false, and_self, and_true, true_and, not_false_eq_true, not_true_eq_false, z']
        have bad : (if m < 1 then (3 : Int32) else if 255 < m then 3 else 0) = 3 → am_Ex nm_pr (d + 4) mt_SR_poke (40, [.ref 2, .int (nI a), .int (nI b), .int m], [], h2) (fun o h' =>
    ((if m < 1 then (3 : Int32) else if 255 < m then 3 else 0) = 1 ∧ o = .inr (2, am_nx h2) ∧ h' = am_al h2 0 0 6) ∨ ((if m < 1 then (3 : Int32) else if 255 < m then 3 else 0) = 2 ∧ o = .inr (0, am_nx h2) ∧ h' = am_al h2 0 0 6) ∨ ((if m < 1 then (3 : Int32) else if 255 < m then 3 else 0) = 3 ∧ o = .inr (1, am_nx h2) ∧ h' = am_al h2 0 0 6) ∨ ((if m < 1 then (3 : Int32) else if 255 < m then 3 else 0) = 0 ∧ o = .inl none ∧ am_fi [19, 20] h2 h')) := by
          intro w
          refine am_go [] 3 ?_
          simp only [am_wp, am_stp, am_en, am_as, am_pad, am_nth, am_set, am_st1, am_st2, am_kl, am_kill, am_mem, am_fv, am_tk, am_wt, am_bk, Option.toList, List.cons_append, List.nil_append, Nat.reduceAdd, Nat.reduceEqDiff, Nat.reduceLeDiff, reduceIte, Nat.reduceLT, or_self, true_or, or_true, if_true, if_false, and_self, and_true, true_and, not_false_eq_true, not_true_eq_false, fd_SR_poke_40]
          exact Or.inr (Or.inr (Or.inl w))
        refine am_go [40, 33] 3 ?_
        simp only [am_wp, am_stp, am_en, am_as, am_pad, am_nth, am_set, am_st1, am_st2, am_kl, am_kill, am_mem, am_fv, am_tk, am_wt, am_bk, Option.toList, List.cons_append, List.nil_append, Nat.reduceAdd, Nat.reduceEqDiff, Nat.reduceLeDiff, reduceIte, Nat.reduceLT, or_self, true_or, or_true, if_true, if_false, and_self, and_true, true_and, not_false_eq_true, not_true_eq_false, fd_SR_poke_28, fd_SR_poke_29, fd_SR_poke_30]
        by_cases e1 : m < 1
        · simp only [e1, am_wp, am_stp, am_en, am_as, am_pad, am_nth, am_set, am_st1, am_st2, am_kl, am_kill, am_mem, am_fv, am_tk, am_wt, am_bk, Option.toList, List.cons_append, List.nil_append, Nat.reduceAdd, Nat.reduceEqDiff, Nat.reduceLeDiff, reduceIte, Nat.reduceLT, or_self, true_or, or_true, if_true, if_false, and_self, and_true, true_and, not_false_eq_true, not_true_eq_false] at bad ⊢
          exact bad trivial
        simp only [e1, am_wp, am_stp, am_en, am_as, am_pad, am_nth, am_set, am_st1, am_st2, am_kl, am_kill, am_mem, am_fv, am_tk, am_wt, am_bk, Option.toList, List.cons_append, List.nil_append, Nat.reduceAdd, Nat.reduceEqDiff, Nat.reduceLeDiff, reduceIte, Nat.reduceLT, or_self, true_or, or_true, if_true, if_false, and_self, and_true, true_and, not_false_eq_true, not_true_eq_false] at bad ⊢
        refine am_go [40, 51] 3 ?_
        simp only [am_wp, am_stp, am_en, am_as, am_pad, am_nth, am_set, am_st1, am_st2, am_kl, am_kill, am_mem, am_fv, am_tk, am_wt, am_bk, Option.toList, List.cons_append, List.nil_append, Nat.reduceAdd, Nat.reduceEqDiff, Nat.reduceLeDiff, reduceIte, Nat.reduceLT, or_self, true_or, or_true, if_true, if_false, and_self, and_true, true_and, not_false_eq_true, not_true_eq_false, fd_SR_poke_33, fd_SR_poke_34, fd_SR_poke_37]
        by_cases e2 : 255 < m
        · simp only [e2, am_wp, am_stp, am_en, am_as, am_pad, am_nth, am_set, am_st1, am_st2, am_kl, am_kill, am_mem, am_fv, am_tk, am_wt, am_bk, Option.toList, List.cons_append, List.nil_append, Nat.reduceAdd, Nat.reduceEqDiff, Nat.reduceLeDiff, reduceIte, Nat.reduceLT, or_self, true_or, or_true, if_true, if_false, and_self, and_true, true_and, not_false_eq_true, not_true_eq_false] at bad ⊢
          exact bad trivial
        simp only [e2, am_wp, am_stp, am_en, am_as, am_pad, am_nth, am_set, am_st1, am_st2, am_kl, am_kill, am_mem, am_fv, am_tk, am_wt, am_bk, Option.toList, List.cons_append, List.nil_append, Nat.reduceAdd, Nat.reduceEqDiff, Nat.reduceLeDiff, reduceIte, Nat.reduceLT, or_self, true_or, or_true, if_true, if_false, and_self, and_true, true_and, not_false_eq_true, not_true_eq_false] at bad ⊢
        refine am_go [] 6 ?_
        simp only [am_wp, am_stp, am_en, am_as, am_pad, am_nth, am_set, am_st1, am_st2, am_kl, am_kill, am_mem, am_fv, am_tk, am_wt, am_bk, Option.toList, List.cons_append, List.nil_append, Nat.reduceAdd, Nat.reduceEqDiff, Nat.reduceLeDiff, reduceIte, Nat.reduceLT, or_self, true_or, or_true, if_true, if_false, and_self, and_true, true_and, not_false_eq_true, not_true_eq_false, fd_SR_poke_51, fd_SR_poke_52, fd_SR_poke_55, fd_SR_poke_56, fd_SR_poke_57, fd_SR_poke_58, k2, r0, q1]
        refine am_call (Q := fun o h' => o = .inl none ∧ am_fi [19, 20] h2 h') ?_ (fun o h3 q => ?_)
        · refine am_in' (d := d + 3) mt_Pages_turn 4 rfl rfl rfl ?_
          refine am_go [] 3 ?_
          simp only [am_wp, am_stp, am_en, am_as, am_pad, am_nth, am_set, am_st1, am_st2, am_kl, am_kill, am_mem, am_fv, am_tk, am_wt, am_bk, Option.toList, List.cons_append, List.nil_append, Nat.reduceAdd, Nat.reduceEqDiff, Nat.reduceLeDiff, reduceIte, Nat.reduceLT, or_self, true_or, or_true, if_true, if_false, and_self, and_true, true_and, not_false_eq_true, not_true_eq_false, fd_Pages_turn_0, fd_Pages_turn_1, fd_Pages_turn_2, q1]
          refine am_call (l2_has1 hP ha) (fun o h3 q => ?_)
          obtain ⟨rfl, rfl⟩ := q
          simp only [am_wp, am_stp, am_en, am_as, am_pad, am_nth, am_set, am_st1, am_st2, am_kl, am_kill, am_mem, am_fv, am_tk, am_wt, am_bk, Option.toList, List.cons_append, List.nil_append, Nat.reduceAdd, Nat.reduceEqDiff, Nat.reduceLeDiff, reduceIte, Nat.reduceLT, or_self, true_or, or_true, if_true, if_false, and_self, and_true, true_and, not_false_eq_true, not_true_eq_false]
          have hb0 : ¬ nI b < 0 := nI_pos (by omega)
          have hb1 : nI b < 128 := nI_lt (b := 128) hb (by decide)
          have ea : nI a * 128 = nI (a * 128) := (Int32.ofNat_mul a 128).symm
          have i2 := am_inb (c := a * 128 + b) (N := P * 128) (by omega) (by omega)
          have c2 : (nI (a * 128 + b)).toNatClampNeg = a * 128 + b := nI_clamp (by omega)
          refine am_go [42, 19] 7 ?_
          simp only [am_wp, am_stp, am_en, am_as, am_pad, am_nth, am_set, am_st1, am_st2, am_kl, am_kill, am_mem, am_fv, am_tk, am_wt, am_bk, Option.toList, List.cons_append, List.nil_append, Nat.reduceAdd, Nat.reduceEqDiff, Nat.reduceLeDiff, reduceIte, Nat.reduceLT, or_self, true_or, or_true, if_true, if_false, and_self, and_true, true_and, not_false_eq_true, not_true_eq_false, fd_Pages_turn_5, fd_Pages_turn_8, fd_Pages_turn_9, fd_Pages_turn_12, fd_Pages_turn_13, fd_Pages_turn_16, one0, hb0, hb1]
          refine am_go [] 14 ?_
          simp only [am_wp, am_stp, am_en, am_as, am_pad, am_nth, am_set, am_st1, am_st2, am_kl, am_kill, am_mem, am_fv, am_tk, am_wt, am_bk, Option.toList, List.cons_append, List.nil_append, Nat.reduceAdd, Nat.reduceEqDiff, Nat.reduceLeDiff, reduceIte, Nat.reduceLT, or_self, true_or, or_true, if_true, if_false, and_self, and_true, true_and, not_false_eq_true, not_true_eq_false, fd_Pages_turn_19, fd_Pages_turn_20, fd_Pages_turn_23, fd_Pages_turn_24, fd_Pages_turn_27, fd_Pages_turn_28, fd_Pages_turn_29, fd_Pages_turn_30, fd_Pages_turn_31, fd_Pages_turn_32, fd_Pages_turn_33, fd_Pages_turn_34, fd_Pages_turn_35, fd_Pages_turn_36, q1, q2, q5, q6, ea, nI_add, i2, c2]
          refine am_go [] 3 ?_
          simp only [am_wp, am_stp, am_en, am_as, am_pad, am_nth, am_set, am_st1, am_st2, am_kl, am_kill, am_mem, am_fv, am_tk, am_wt, am_bk, Option.toList, List.cons_append, List.nil_append, Nat.reduceAdd, Nat.reduceEqDiff, Nat.reduceLeDiff, reduceIte, Nat.reduceLT, or_self, true_or, or_true, if_true, if_false, and_self, and_true, true_and, not_false_eq_true, not_true_eq_false, fd_Pages_turn_37, fd_Pages_turn_38, fd_Pages_turn_39, hx_nx_sI, hx_ce_sI, hx_sl_sI, hx_kd_sI, hx_ln_sI, hx_I_sI, hx_L_sI, hx_R_sI, hx_nx_sL, hx_ce_sL, hx_sl_sL, hx_kd_sL, hx_ln_sL, hx_I_sL, hx_L_sL, hx_R_sL, hx_nx_sR, hx_ce_sR, hx_sl_sR, hx_kd_sR, hx_ln_sR, hx_I_sR, hx_L_sR, hx_R_sR, hx_nx_al, hx_ce_al, hx_sl_al, hx_kd_al, hx_ln_al, hx_I_al, hx_L_al, hx_R_al, hx_nx_row, hx_ce_row, hx_sl_row, hx_kd_row, hx_ln_row, hx_I_row, hx_L_row, hx_R_row, hx_nx_mk, hx_kd_mk, hx_ln_mk, hx_I_mk, hx_L_mk, hx_R_mk, q1]
          refine am_call (l2_checkSum ha (hP.sI (Or.inl (by decide)))) (fun o h4 q => ?_)
          obtain ⟨rfl, rfl⟩ := q
          simp only [am_wp, am_stp, am_en, am_as, am_pad, am_nth, am_set, am_st1, am_st2, am_kl, am_kill, am_mem, am_fv, am_tk, am_wt, am_bk, Option.toList, List.cons_append, List.nil_append, Nat.reduceAdd, Nat.reduceEqDiff, Nat.reduceLeDiff, reduceIte, Nat.reduceLT, or_self, true_or, or_true, if_true, if_false, and_self, and_true, true_and, not_false_eq_true, not_true_eq_false]
          refine am_go [] 2 ?_
          simp only [am_wp, am_stp, am_en, am_as, am_pad, am_nth, am_set, am_st1, am_st2, am_kl, am_kill, am_mem, am_fv, am_tk, am_wt, am_bk, Option.toList, List.cons_append, List.nil_append, Nat.reduceAdd, Nat.reduceEqDiff, Nat.reduceLeDiff, reduceIte, Nat.reduceLT, or_self, true_or, or_true, if_true, if_false, and_self, and_true, true_and, not_false_eq_true, not_true_eq_false, fd_Pages_turn_42]
          exact (am_fi.refl.sI (by simp)).sI (by simp)
        · obtain ⟨rfl, hf⟩ := q
          simp only [am_wp, am_stp, am_en, am_as, am_pad, am_nth, am_set, am_st1, am_st2, am_kl, am_kill, am_mem, am_fv, am_tk, am_wt, am_bk, Option.toList, List.cons_append, List.nil_append, Nat.reduceAdd, Nat.reduceEqDiff, Nat.reduceLeDiff, reduceIte, Nat.reduceLT, or_self, true_or, or_true, if_true, if_false, and_self, and_true, true_and, not_false_eq_true, not_true_eq_false]
          refine am_go [] 2 ?_
          simp only [am_wp, am_stp, am_en, am_as, am_pad, am_nth, am_set, am_st1, am_st2, am_kl, am_kill, am_mem, am_fv, am_tk, am_wt, am_bk, Option.toList, List.cons_append, List.nil_append, Nat.reduceAdd, Nat.reduceEqDiff, Nat.reduceLeDiff, reduceIte, Nat.reduceLT, or_self, true_or, or_true, if_true, if_false, and_self, and_true, true_and, not_false_eq_true, not_true_eq_false, fd_SR_poke_61]
          exact Or.inr (Or.inr (Or.inr hf))
      · have v1 : am_I h2 20 a = 0 := v.trans (by simp only [show ¬ a = 1 by omega, show ¬ a = 0 by omega, if_false])
        have z' : 2 ≤ a := by omega
        simp only [v1, am_wp, am_stp, am_en, am_as, am_pad, am_nth, am_set, am_st1, am_st2, am_kl, am_kill, am_mem, am_fv, am_tk, am_wt, am_bk, Option.toList, List.cons_append, List.nil_append, Nat.reduceAdd, Nat.reduceEqDiff, Nat.reduceLeDiff, reduceIte, Nat.reduceLT, or_self, true_or, or_true, if_true, if_false, and_self, and_true, true_and, not_false_eq_true, not_true_eq_false, z']
        refine am_go [] 3 ?_
        simp only [am_wp, am_stp, am_en, am_as, am_pad, am_nth, am_set, am_st1, am_st2, am_kl, am_kill, am_mem, am_fv, am_tk, am_wt, am_bk, Option.toList, List.cons_append, List.nil_append, Nat.reduceAdd, Nat.reduceEqDiff, Nat.reduceLeDiff, reduceIte, Nat.reduceLT, or_self, true_or, or_true, if_true, if_false, and_self, and_true, true_and, not_false_eq_true, not_true_eq_false, fd_SR_poke_17]
theorem l2_La_poke {d P : Nat} {p i m : Int32} {xs : Nat → Int32} {h : am_H} (G : lw_G 8 xs h) (k2 : am_kd h 2 = 1) (r0 : am_R h 2 0 = 18) (hP : cl_Pg P h) (h20 : am_I h 20 = fun j => if j = 1 then 1 else if j = 0 then 1 else 0) : am_Rt nm_pr (d + 6) mi_La_poke [.ref 2, .int p, .int i, .int m] h (fun o h' => o = .inl (some (.int (pk_c P p i m))) ∧ lw_C h h') := by
  have hh : mt_La_poke.2.2 = [(0, 7, 10, 2), (0, 7, 14, 0), (0, 7, 18, 1)] := rfl
  refine am_in' (d := d + 5) mt_La_poke 5 rfl rfl rfl ?_
  refine am_go [] 5 ?_
  simp only [am_wp, am_stp, am_en, am_as, am_pad, am_nth, am_set, am_st1, am_st2, am_kl, am_kill, am_mem, am_fv, am_tk, am_wt, am_bk, Option.toList, List.cons_append, List.nil_append, Nat.reduceAdd, Nat.reduceEqDiff, Nat.reduceLeDiff, reduceIte, Nat.reduceLT, or_self, true_or, or_true, if_true, if_false, and_self, and_true, true_and, not_false_eq_true, not_true_eq_false, fd_La_poke_0, fd_La_poke_1, fd_La_poke_2, fd_La_poke_3, fd_La_poke_4, k2]
  refine am_call (l2_SR_poke k2 r0 hP h20) (fun o h1 q => ?_)
  rcases q with ⟨e, rfl, rfl⟩ | ⟨e, rfl, rfl⟩ | ⟨e, rfl, rfl⟩ | ⟨e, rfl, f⟩
  · simp only [am_wp, am_stp, am_en, am_as, am_pad, am_nth, am_set, am_st1, am_st2, am_kl, am_kill, am_mem, am_fv, am_tk, am_wt, am_bk, Option.toList, List.cons_append, List.nil_append, Nat.reduceAdd, Nat.reduceEqDiff, Nat.reduceLeDiff, reduceIte, Nat.reduceLT, or_self, true_or, or_true, if_true, if_false, and_self, and_true, true_and, not_false_eq_true, not_true_eq_false, hh, am_hd]
    refine am_go [] 4 ?_
    simp only [am_wp, am_stp, am_en, am_as, am_pad, am_nth, am_set, am_st1, am_st2, am_kl, am_kill, am_mem, am_fv, am_tk, am_wt, am_bk, Option.toList, List.cons_append, List.nil_append, Nat.reduceAdd, Nat.reduceEqDiff, Nat.reduceLeDiff, reduceIte, Nat.reduceLT, or_self, true_or, or_true, if_true, if_false, and_self, and_true, true_and, not_false_eq_true, not_true_eq_false, fd_La_poke_10, fd_La_poke_12, fd_La_poke_13, e]
    exact lw_C.ex G
  · simp only [am_wp, am_stp, am_en, am_as, am_pad, am_nth, am_set, am_st1, am_st2, am_kl, am_kill, am_mem, am_fv, am_tk, am_wt, am_bk, Option.toList, List.cons_append, List.nil_append, Nat.reduceAdd, Nat.reduceEqDiff, Nat.reduceLeDiff, reduceIte, Nat.reduceLT, or_self, true_or, or_true, if_true, if_false, and_self, and_true, true_and, not_false_eq_true, not_true_eq_false, hh, am_hd]
    refine am_go [] 4 ?_
    simp only [am_wp, am_stp, am_en, am_as, am_pad, am_nth, am_set, am_st1, am_st2, am_kl, am_kill, am_mem, am_fv, am_tk, am_wt, am_bk, Option.toList, List.cons_append, List.nil_append, Nat.reduceAdd, Nat.reduceEqDiff, Nat.reduceLeDiff, reduceIte, Nat.reduceLT, or_self, true_or, or_true, if_true, if_false, and_self, and_true, true_and, not_false_eq_true, not_true_eq_false, fd_La_poke_14, fd_La_poke_16, fd_La_poke_17, e]
    exact lw_C.ex G
  · simp only [am_wp, am_stp, am_en, am_as, am_pad, am_nth, am_set, am_st1, am_st2, am_kl, am_kill, am_mem, am_fv, am_tk, am_wt, am_bk, Option.toList, List.cons_append, List.nil_append, Nat.reduceAdd, Nat.reduceEqDiff, Nat.reduceLeDiff, reduceIte, Nat.reduceLT, or_self, true_or, or_true, if_true, if_false, and_self, and_true, true_and, not_false_eq_true, not_true_eq_false, hh, am_hd]
    refine am_go [] 4 ?_
    simp only [am_wp, am_stp, am_en, am_as, am_pad, am_nth, am_set, am_st1, am_st2, am_kl, am_kill, am_mem, am_fv, am_tk, am_wt, am_bk, Option.toList, List.cons_append, List.nil_append, Nat.reduceAdd, Nat.reduceEqDiff, Nat.reduceLeDiff, reduceIte, Nat.reduceLT, or_self, true_or, or_true, if_true, if_false, and_self, and_true, true_and, not_false_eq_true, not_true_eq_false, fd_La_poke_18, fd_La_poke_20, fd_La_poke_21, e]
    exact lw_C.ex G
  · simp only [am_wp, am_stp, am_en, am_as, am_pad, am_nth, am_set, am_st1, am_st2, am_kl, am_kill, am_mem, am_fv, am_tk, am_wt, am_bk, Option.toList, List.cons_append, List.nil_append, Nat.reduceAdd, Nat.reduceEqDiff, Nat.reduceLeDiff, reduceIte, Nat.reduceLT, or_self, true_or, or_true, if_true, if_false, and_self, and_true, true_and, not_false_eq_true, not_true_eq_false]
    refine am_go [] 4 ?_
    simp only [am_wp, am_stp, am_en, am_as, am_pad, am_nth, am_set, am_st1, am_st2, am_kl, am_kill, am_mem, am_fv, am_tk, am_wt, am_bk, Option.toList, List.cons_append, List.nil_append, Nat.reduceAdd, Nat.reduceEqDiff, Nat.reduceLeDiff, reduceIte, Nat.reduceLT, or_self, true_or, or_true, if_true, if_false, and_self, and_true, true_and, not_false_eq_true, not_true_eq_false, fd_La_poke_7, fd_La_poke_22, fd_La_poke_23, e]
    exact lw_C.fi G f (by simp)
theorem l2_Mo_poke {d P : Nat} {p i m : Int32} {h : am_H} (hM : mo_All P h) (hP : P ≤ 1024) : am_Rt nm_pr (d + 3) mi_Mo_poke [.ref 72, .int p, .int i, .int m] h (fun o h' => o = .inl none ∧ am_fi [72, 73] h h' ∧ am_I h' 72 0 = pk_c P p i m) := by
  obtain ⟨m1, m2, m3, m4, m5, m6, m7⟩ := id hM
  obtain ⟨k72, rr2, -, k73, n73, -⟩ := id m1
  have j1 : am_I h 72 1 = nI P := by rw [m2]; rfl
  have one0 : ¬ ((1 : Int32) = 0) := by decide
  refine am_in' (d := d + 2) mt_Mo_poke 4 rfl rfl rfl ?_
  -- a code that is not 0
  have bad : ∀ c : Int32, c ≠ 0 → pk_c P p i m = c → am_Ex nm_pr (d + 2) mt_Mo_poke (43, [.ref 72, .int p, .int i, .int m], [.int c, .ref 72], h) (fun o h' => o = .inl none ∧ am_fi [72, 73] h h' ∧ am_I h' 72 0 = pk_c P p i m) := by
    intro c hc w
    refine am_go [53] 6 ?_
    simp only [am_wp, am_stp, am_en, am_as, am_pad, am_nth, am_set, am_st1, am_st2, am_kl, am_kill, am_mem, am_fv, am_tk, am_wt, am_bk, Option.toList, List.cons_append, List.nil_append, Nat.reduceAdd, Nat.reduceEqDiff, Nat.reduceLeDiff, reduceIte, Nat.reduceLT, or_self, true_or, or_true, if_true, if_false, and_self, and_true, true_and, not_false_eq_true, not_true_eq_false, fd_Mo_poke_43, fd_Mo_poke_46, fd_Mo_poke_47, fd_Mo_poke_50, fd_Mo_poke_71, hx_nx_sI, hx_ce_sI, hx_sl_sI, hx_kd_sI, hx_ln_sI, hx_I_sI, hx_L_sI, hx_R_sI, hx_nx_sL, hx_ce_sL, hx_sl_sL, hx_kd_sL, hx_ln_sL, hx_I_sL, hx_L_sL, hx_R_sL, hx_nx_sR, hx_ce_sR, hx_sl_sR, hx_kd_sR, hx_ln_sR, hx_I_sR, hx_L_sR, hx_R_sR, hx_nx_al, hx_ce_al, hx_sl_al, hx_kd_al, hx_ln_al, hx_I_al, hx_L_al, hx_R_al, hx_nx_row, hx_ce_row, hx_sl_row, hx_kd_row, hx_ln_row, hx_I_row, hx_L_row, hx_R_row, hx_nx_mk, hx_kd_mk, hx_ln_mk, hx_I_mk, hx_L_mk, hx_R_mk, k72, hc, w]
    exact am_fi.refl.sI (by simp)
  refine am_go [] 5 ?_
  simp only [am_wp, am_stp, am_en, am_as, am_pad, am_nth, am_set, am_st1, am_st2, am_kl, am_kill, am_mem, am_fv, am_tk, am_wt, am_bk, Option.toList, List.cons_append, List.nil_append, Nat.reduceAdd, Nat.reduceEqDiff, Nat.reduceLeDiff, reduceIte, Nat.reduceLT, or_self, true_or, or_true, if_true, if_false, and_self, and_true, true_and, not_false_eq_true, not_true_eq_false, fd_Mo_poke_0, fd_Mo_poke_1, fd_Mo_poke_2, fd_Mo_poke_3, fd_Mo_poke_4, k72]
  refine am_call (l2_Mo_isOctet k72 j1) (fun o h1 q => ?_)
  obtain ⟨rfl, rfl⟩ := q
  simp only [am_wp, am_stp, am_en, am_as, am_pad, am_nth, am_set, am_st1, am_st2, am_kl, am_kill, am_mem, am_fv, am_tk, am_wt, am_bk, Option.toList, List.cons_append, List.nil_append, Nat.reduceAdd, Nat.reduceEqDiff, Nat.reduceLeDiff, reduceIte, Nat.reduceLT, or_self, true_or, or_true, if_true, if_false, and_self, and_true, true_and, not_false_eq_true, not_true_eq_false]
  cases e : oc_ok P p i with
  | false =>
    refine am_go [14, 43] 4 ?_
    simp only [am_wp, am_stp, am_en, am_as, am_pad, am_nth, am_set, am_st1, am_st2, am_kl, am_kill, am_mem, am_fv, am_tk, am_wt, am_bk, Option.toList, List.cons_append, List.nil_append, Nat.reduceAdd, Nat.reduceEqDiff, Nat.reduceLeDiff, reduceIte, Nat.reduceLT, or_self, true_or, or_true, if_true, if_false, and_self, and_true, true_and, not_false_eq_true, not_true_eq_false, fd_Mo_poke_7, fd_Mo_poke_10, fd_Mo_poke_11]
    exact bad 1 one0 (by unfold pk_c; rw [e])
  | true =>
    obtain ⟨a, b, rfl, rfl, ha, hb⟩ := oc_spec hP e
    have ca : (nI a).toNatClampNeg = a := nI_clamp (by omega)
    have ev : pk_c P (nI a) (nI b) m = if 2 ≤ a then 2 else if m < 1 then 3 else if 255 < m then 3 else 0 := by
      unfold pk_c
      rw [e, ca]
    rw [ev] at bad ⊢
    refine am_go [10, 14] 1 ?_
    simp only [am_wp, am_stp, am_en, am_as, am_pad, am_nth, am_set, am_st1, am_st2, am_kl, am_kill, am_mem, am_fv, am_tk, am_wt, am_bk, Option.toList, List.cons_append, List.nil_append, Nat.reduceAdd, Nat.reduceEqDiff, Nat.reduceLeDiff, reduceIte, Nat.reduceLT, or_self, true_or, or_true, if_true, if_false, and_self, and_true, true_and, not_false_eq_true, not_true_eq_false, fd_Mo_poke_7, one0]
    refine am_go [] 3 ?_
    simp only [am_wp, am_stp, am_en, am_as, am_pad, am_nth, am_set, am_st1, am_st2, am_kl, am_kill, am_mem, am_fv, am_tk, am_wt, am_bk, Option.toList, List.cons_append, List.nil_append, Nat.reduceAdd, Nat.reduceEqDiff, Nat.reduceLeDiff, reduceIte, Nat.reduceLT, or_self, true_or, or_true, if_true, if_false, and_self, and_true, true_and, not_false_eq_true, not_true_eq_false, fd_Mo_poke_14, fd_Mo_poke_15, fd_Mo_poke_16, k72]
    refine am_call (l2_Mo_isRight m1 (by omega)) (fun o h2 q => ?_)
    rw [mo_Rt_new hM (by omega)] at q
    rcases q with ⟨rfl, ⟨rfl, z⟩ | ⟨rfl, z⟩⟩
    · have z' : ¬ 2 ≤ a := by omega
      simp only [am_wp, am_stp, am_en, am_as, am_pad, am_nth, am_set, am_st1, am_st2, am_kl, am_kill, am_mem, am_fv, am_tk, am_wt, am_bk, Option.toList, List.cons_append, List.nil_append, Nat.reduceAdd, Nat.reduceEqDiff, Nat.reduceLeDiff, reduceIte, Nat.reduceLT, or_self, true_or, or_true, if_true, if_false, and_self, and_true, true_and, not_false_eq_true, not_true_eq_false, z'] at bad ⊢
      refine am_go [22, 26] 2 ?_
      simp only [am_wp, am_stp, am_en, am_as, am_pad, am_nth, am_set, am_st1, am_st2, am_kl, am_kill, am_mem, am_fv, am_tk, am_wt, am_bk, Option.toList, List.cons_append, List.nil_append, Nat.reduceAdd, Nat.reduceEqDiff, Nat.reduceLeDiff, reduceIte, Nat.reduceLT, or_self, true_or, or_true, if_true, if_false, and_self, and_true, true_and, not_false_eq_true, not_true_eq_false, fd_Mo_poke_19, one0]
      refine am_go [38, 31] 3 ?_
      simp only [am_wp, am_stp, am_en, am_as, am_pad, am_nth, am_set, am_st1, am_st2, am_kl, am_kill, am_mem, am_fv, am_tk, am_wt, am_bk, Option.toList, List.cons_append, List.nil_append, Nat.reduceAdd, Nat.reduceEqDiff, Nat.reduceLeDiff, reduceIte, Nat.reduceLT, or_self, true_or, or_true, if_true, if_false, and_self, and_true, true_and, not_false_eq_true, not_true_eq_false, fd_Mo_poke_26, fd_Mo_poke_27, fd_Mo_poke_28]
      by_cases e1 : m < 1
      · simp only [e1, am_wp, am_stp, am_en, am_as, am_pad, am_nth, am_set, am_st1, am_st2, am_kl, am_kill, am_mem, am_fv, am_tk, am_wt, am_bk, Option.toList, List.cons_append, List.nil_append, Nat.reduceAdd, Nat.reduceEqDiff, Nat.reduceLeDiff, reduceIte, Nat.reduceLT, or_self, true_or, or_true, if_true, if_false, and_self, and_true, true_and, not_false_eq_true, not_true_eq_false] at bad ⊢
        refine am_go [43] 3 ?_
        simp only [am_wp, am_stp, am_en, am_as, am_pad, am_nth, am_set, am_st1, am_st2, am_kl, am_kill, am_mem, am_fv, am_tk, am_wt, am_bk, Option.toList, List.cons_append, List.nil_append, Nat.reduceAdd, Nat.reduceEqDiff, Nat.reduceLeDiff, reduceIte, Nat.reduceLT, or_self, true_or, or_true, if_true, if_false, and_self, and_true, true_and, not_false_eq_true, not_true_eq_false, fd_Mo_poke_38, fd_Mo_poke_39]
        exact bad 3 (by decide) rfl
      simp only [e1, am_wp, am_stp, am_en, am_as, am_pad, am_nth, am_set, am_st1, am_st2, am_kl, am_kill, am_mem, am_fv, am_tk, am_wt, am_bk, Option.toList, List.cons_append, List.nil_append, Nat.reduceAdd, Nat.reduceEqDiff, Nat.reduceLeDiff, reduceIte, Nat.reduceLT, or_self, true_or, or_true, if_true, if_false, and_self, and_true, true_and, not_false_eq_true, not_true_eq_false] at bad ⊢
      refine am_go [38, 42] 3 ?_
      simp only [am_wp, am_stp, am_en, am_as, am_pad, am_nth, am_set, am_st1, am_st2, am_kl, am_kill, am_mem, am_fv, am_tk, am_wt, am_bk, Option.toList, List.cons_append, List.nil_append, Nat.reduceAdd, Nat.reduceEqDiff, Nat.reduceLeDiff, reduceIte, Nat.reduceLT, or_self, true_or, or_true, if_true, if_false, and_self, and_true, true_and, not_false_eq_true, not_true_eq_false, fd_Mo_poke_31, fd_Mo_poke_32, fd_Mo_poke_35]
      by_cases e2 : 255 < m
      · simp only [e2, am_wp, am_stp, am_en, am_as, am_pad, am_nth, am_set, am_st1, am_st2, am_kl, am_kill, am_mem, am_fv, am_tk, am_wt, am_bk, Option.toList, List.cons_append, List.nil_append, Nat.reduceAdd, Nat.reduceEqDiff, Nat.reduceLeDiff, reduceIte, Nat.reduceLT, or_self, true_or, or_true, if_true, if_false, and_self, and_true, true_and, not_false_eq_true, not_true_eq_false] at bad ⊢
        refine am_go [43] 3 ?_
        simp only [am_wp, am_stp, am_en, am_as, am_pad, am_nth, am_set, am_st1, am_st2, am_kl, am_kill, am_mem, am_fv, am_tk, am_wt, am_bk, Option.toList, List.cons_append, List.nil_append, Nat.reduceAdd, Nat.reduceEqDiff, Nat.reduceLeDiff, reduceIte, Nat.reduceLT, or_self, true_or, or_true, if_true, if_false, and_self, and_true, true_and, not_false_eq_true, not_true_eq_false, fd_Mo_poke_38, fd_Mo_poke_39]
        exact bad 3 (by decide) rfl
      simp only [e2, am_wp, am_stp, am_en, am_as, am_pad, am_nth, am_set, am_st1, am_st2, am_kl, am_kill, am_mem, am_fv, am_tk, am_wt, am_bk, Option.toList, List.cons_append, List.nil_append, Nat.reduceAdd, Nat.reduceEqDiff, Nat.reduceLeDiff, reduceIte, Nat.reduceLT, or_self, true_or, or_true, if_true, if_false, and_self, and_true, true_and, not_false_eq_true, not_true_eq_false] at bad ⊢
      have e1 : 128 * nI a = nI (128 * a) := (Int32.ofNat_mul 128 a).symm
      have i2 := am_inb (c := 128 * a + b) (N := 131072) (by omega) (by omega)
      have c2 : (nI (128 * a + b)).toNatClampNeg = 128 * a + b := nI_clamp (by omega)
      refine am_go [71, 53] 6 ?_
      simp only [am_wp, am_stp, am_en, am_as, am_pad, am_nth, am_set, am_st1, am_st2, am_kl, am_kill, am_mem, am_fv, am_tk, am_wt, am_bk, Option.toList, List.cons_append, List.nil_append, Nat.reduceAdd, Nat.reduceEqDiff, Nat.reduceLeDiff, reduceIte, Nat.reduceLT, or_self, true_or, or_true, if_true, if_false, and_self, and_true, true_and, not_false_eq_true, not_true_eq_false, fd_Mo_poke_42, fd_Mo_poke_43, fd_Mo_poke_46, fd_Mo_poke_47, fd_Mo_poke_50, hx_nx_sI, hx_ce_sI, hx_sl_sI, hx_kd_sI, hx_ln_sI, hx_I_sI, hx_L_sI, hx_R_sI, hx_nx_sL, hx_ce_sL, hx_sl_sL, hx_kd_sL, hx_ln_sL, hx_I_sL, hx_L_sL, hx_R_sL, hx_nx_sR, hx_ce_sR, hx_sl_sR, hx_kd_sR, hx_ln_sR, hx_I_sR, hx_L_sR, hx_R_sR, hx_nx_al, hx_ce_al, hx_sl_al, hx_kd_al, hx_ln_al, hx_I_al, hx_L_al, hx_R_al, hx_nx_row, hx_ce_row, hx_sl_row, hx_kd_row, hx_ln_row, hx_I_row, hx_L_row, hx_R_row, hx_nx_mk, hx_kd_mk, hx_ln_mk, hx_I_mk, hx_L_mk, hx_R_mk, k72]
      refine am_go [] 20 ?_
      simp only [am_wp, am_stp, am_en, am_as, am_pad, am_nth, am_set, am_st1, am_st2, am_kl, am_kill, am_mem, am_fv, am_tk, am_wt, am_bk, Option.toList, List.cons_append, List.nil_append, Nat.reduceAdd, Nat.reduceEqDiff, Nat.reduceLeDiff, reduceIte, Nat.reduceLT, or_self, true_or, or_true, if_true, if_false, and_self, and_true, true_and, not_false_eq_true, not_true_eq_false, fd_Mo_poke_53, fd_Mo_poke_54, fd_Mo_poke_57, fd_Mo_poke_60, fd_Mo_poke_61, fd_Mo_poke_62, fd_Mo_poke_63, fd_Mo_poke_64, fd_Mo_poke_65, fd_Mo_poke_66, fd_Mo_poke_67, fd_Mo_poke_68, fd_Mo_poke_69, fd_Mo_poke_70, fd_Mo_poke_71, hx_nx_sI, hx_ce_sI, hx_sl_sI, hx_kd_sI, hx_ln_sI, hx_I_sI, hx_L_sI, hx_R_sI, hx_nx_sL, hx_ce_sL, hx_sl_sL, hx_kd_sL, hx_ln_sL, hx_I_sL, hx_L_sL, hx_R_sL, hx_nx_sR, hx_ce_sR, hx_sl_sR, hx_kd_sR, hx_ln_sR, hx_I_sR, hx_L_sR, hx_R_sR, hx_nx_al, hx_ce_al, hx_sl_al, hx_kd_al, hx_ln_al, hx_I_al, hx_L_al, hx_R_al, hx_nx_row, hx_ce_row, hx_sl_row, hx_kd_row, hx_ln_row, hx_I_row, hx_L_row, hx_R_row, hx_nx_mk, hx_kd_mk, hx_ln_mk, hx_I_mk, hx_L_mk, hx_R_mk, k72, rr2, k73, n73, e1, nI_add, i2, c2]
      exact (am_fi.refl.sI (by simp)).sI (by simp)
    · have z' : 2 ≤ a := by omega
      simp only [am_wp, am_stp, am_en, am_as, am_pad, am_nth, am_set, am_st1, am_st2, am_kl, am_kill, am_mem, am_fv, am_tk, am_wt, am_bk, Option.toList, List.cons_append, List.nil_append, Nat.reduceAdd, Nat.reduceEqDiff, Nat.reduceLeDiff, reduceIte, Nat.reduceLT, or_self, true_or, or_true, if_true, if_false, and_self, and_true, true_and, not_false_eq_true, not_true_eq_false, z'] at bad ⊢
      refine am_go [26, 43] 4 ?_
      simp only [am_wp, am_stp, am_en, am_as, am_pad, am_nth, am_set, am_st1, am_st2, am_kl, am_kill, am_mem, am_fv, am_tk, am_wt, am_bk, Option.toList, List.cons_append, List.nil_append, Nat.reduceAdd, Nat.reduceEqDiff, Nat.reduceLeDiff, reduceIte, Nat.reduceLT, or_self, true_or, or_true, if_true, if_false, and_self, and_true, true_and, not_false_eq_true, not_true_eq_false, fd_Mo_poke_19, fd_Mo_poke_22, fd_Mo_poke_23]
      exact bad 2 (by decide) rfl
theorem op_poke (xs : Nat → Int32) : lw_op xs 1400 := by
  intro d h G
  obtain ⟨g1, g2, g3, g4, g5, g6, g7, g8, g9, g10⟩ := id G
  obtain ⟨s1, s2, s3⟩ := g4.2.2.2.2.2.2.2.2.2.2.2.2.2.2
  have r0 : am_R h 2 0 = 18 := by rw [s2]; rfl
  have hP := g4.2.2.2.1
  have h20 := g4.2.2.2.2.2.2.1
  have hPb := hP.2.2.2.2.2.2.2.2.2
  have n1 : ¬ (99 = 100) := by decide
  have e2 : (1 : Int32) + 1 = nI 2 := by decide
  have e3 : (1 : Int32) + 2 = nI 3 := by decide
  have e4 : (1 : Int32) + 3 = nI 4 := by decide
  obtain ⟨i2, c2⟩ := lw_rd 2 (by decide)
  obtain ⟨i3, c3⟩ := lw_rd 3 (by decide)
  obtain ⟨i4, c4⟩ := lw_rd 4 (by decide)
  have x2 : am_I h 1 2 = xs 2 := by rw [g8]
  have x3 : am_I h 1 3 = xs 3 := by rw [g8]
  have x4 : am_I h 1 4 = xs 4 := by rw [g8]
  refine am_go [] 10 ?_
  simp only [am_wp, am_stp, am_en, am_as, am_pad, am_nth, am_set, am_st1, am_st2, am_kl, am_kill, am_mem, am_fv, am_tk, am_wt, am_bk, Option.toList, List.cons_append, List.nil_append, Nat.reduceAdd, Nat.reduceEqDiff, Nat.reduceLeDiff, reduceIte, Nat.reduceLT, or_self, true_or, or_true, if_true, if_false, and_self, and_true, true_and, not_false_eq_true, not_true_eq_false, fd_La_law_1400, fd_La_law_1401, fd_La_law_1402, fd_La_law_1404, fd_La_law_1405, fd_La_law_1406, fd_La_law_1407, fd_La_law_1408, fd_La_law_1410, fd_La_law_1411, g6, g7, n1, e2, e3, e4, i2, i3, i4]
  simp only [c2, x2]
  refine am_go [] 7 ?_
  simp only [am_wp, am_stp, am_en, am_as, am_pad, am_nth, am_set, am_st1, am_st2, am_kl, am_kill, am_mem, am_fv, am_tk, am_wt, am_bk, Option.toList, List.cons_append, List.nil_append, Nat.reduceAdd, Nat.reduceEqDiff, Nat.reduceLeDiff, reduceIte, Nat.reduceLT, or_self, true_or, or_true, if_true, if_false, and_self, and_true, true_and, not_false_eq_true, not_true_eq_false, fd_La_law_1412, fd_La_law_1413, fd_La_law_1414, fd_La_law_1416, fd_La_law_1417, fd_La_law_1418, fd_La_law_1419, g6, g7, n1, e2, e3, e4, i2, i3, i4]
  simp only [c3, c4, x3, x4]
  refine am_call (l2_La_poke G s1 r0 hP h20) (fun o h1 q => ?_)
  obtain ⟨rfl, C⟩ := q
  simp only [am_wp, am_stp, am_en, am_as, am_pad, am_nth, am_set, am_st1, am_st2, am_kl, am_kill, am_mem, am_fv, am_tk, am_wt, am_bk, Option.toList, List.cons_append, List.nil_append, Nat.reduceAdd, Nat.reduceEqDiff, Nat.reduceLeDiff, reduceIte, Nat.reduceLT, or_self, true_or, or_true, if_true, if_false, and_self, and_true, true_and, not_false_eq_true, not_true_eq_false]
  have hM := C.mo g5
  obtain ⟨b1, b2, b3, -, -⟩ := C.1 1 (Or.inl (by decide))
  rw [g6] at b1
  rw [g7] at b2
  rw [g8] at b3
  have b4 : am_kd h1 72 = 12 := hM.1.1
  have y2 : am_I h1 1 2 = xs 2 := by rw [b3]
  have y3 : am_I h1 1 3 = xs 3 := by rw [b3]
  have y4 : am_I h1 1 4 = xs 4 := by rw [b3]
  refine am_go [] 10 ?_
  simp only [am_wp, am_stp, am_en, am_as, am_pad, am_nth, am_set, am_st1, am_st2, am_kl, am_kill, am_mem, am_fv, am_tk, am_wt, am_bk, Option.toList, List.cons_append, List.nil_append, Nat.reduceAdd, Nat.reduceEqDiff, Nat.reduceLeDiff, reduceIte, Nat.reduceLT, or_self, true_or, or_true, if_true, if_false, and_self, and_true, true_and, not_false_eq_true, not_true_eq_false, fd_La_law_1422, fd_La_law_1424, fd_La_law_1425, fd_La_law_1426, fd_La_law_1428, fd_La_law_1429, fd_La_law_1430, fd_La_law_1431, fd_La_law_1432, fd_La_law_1434, b1, b2, n1, e2, e3, e4, i2, i3, i4]
  simp only [c2, y2]
  refine am_go [] 8 ?_
  simp only [am_wp, am_stp, am_en, am_as, am_pad, am_nth, am_set, am_st1, am_st2, am_kl, am_kill, am_mem, am_fv, am_tk, am_wt, am_bk, Option.toList, List.cons_append, List.nil_append, Nat.reduceAdd, Nat.reduceEqDiff, Nat.reduceLeDiff, reduceIte, Nat.reduceLT, or_self, true_or, or_true, if_true, if_false, and_self, and_true, true_and, not_false_eq_true, not_true_eq_false, fd_La_law_1435, fd_La_law_1436, fd_La_law_1437, fd_La_law_1438, fd_La_law_1440, fd_La_law_1441, fd_La_law_1442, fd_La_law_1443, b1, b2, b4, n1, e2, e3, e4, i2, i3, i4]
  simp only [c3, c4, y3, y4]
  refine am_call (l2_Mo_poke hM hPb) (fun o h2 q => ?_)
  obtain ⟨rfl, f1, f2⟩ := q
  simp only [am_wp, am_stp, am_en, am_as, am_pad, am_nth, am_set, am_st1, am_st2, am_kl, am_kill, am_mem, am_fv, am_tk, am_wt, am_bk, Option.toList, List.cons_append, List.nil_append, Nat.reduceAdd, Nat.reduceEqDiff, Nat.reduceLeDiff, reduceIte, Nat.reduceLT, or_self, true_or, or_true, if_true, if_false, and_self, and_true, true_and, not_false_eq_true, not_true_eq_false]
  have k722 : am_kd h2 72 = 12 := by rw [f1.2.2.2.1]; exact b4
  refine am_go [] 2 ?_
  simp only [am_wp, am_stp, am_en, am_as, am_pad, am_nth, am_set, am_st1, am_st2, am_kl, am_kill, am_mem, am_fv, am_tk, am_wt, am_bk, Option.toList, List.cons_append, List.nil_append, Nat.reduceAdd, Nat.reduceEqDiff, Nat.reduceLeDiff, reduceIte, Nat.reduceLT, or_self, true_or, or_true, if_true, if_false, and_self, and_true, true_and, not_false_eq_true, not_true_eq_false, fd_La_law_1446, fd_La_law_1447, k722]
  refine am_call (Q := fun o h' => o = .inl (some (.int (am_I h2 72 0))) ∧ h' = h2) ?_ (fun o h3 q => ?_)
  · refine am_in' (d := d + 11) mt_Mo_thrown 1 rfl rfl rfl ?_
    refine am_go [] 10 ?_
    simp only [am_wp, am_stp, am_en, am_as, am_pad, am_nth, am_set, am_st1, am_st2, am_kl, am_kill, am_mem, am_fv, am_tk, am_wt, am_bk, Option.toList, List.cons_append, List.nil_append, Nat.reduceAdd, Nat.reduceEqDiff, Nat.reduceLeDiff, reduceIte, Nat.reduceLT, or_self, true_or, or_true, if_true, if_false, and_self, and_true, true_and, not_false_eq_true, not_true_eq_false, fd_Mo_thrown_0, fd_Mo_thrown_1, fd_Mo_thrown_4, k722]
  · obtain ⟨rfl, rfl⟩ := q
    simp only [am_wp, am_stp, am_en, am_as, am_pad, am_nth, am_set, am_st1, am_st2, am_kl, am_kill, am_mem, am_fv, am_tk, am_wt, am_bk, Option.toList, List.cons_append, List.nil_append, Nat.reduceAdd, Nat.reduceEqDiff, Nat.reduceLeDiff, reduceIte, Nat.reduceLT, or_self, true_or, or_true, if_true, if_false, and_self, and_true, true_and, not_false_eq_true, not_true_eq_false]
    refine am_go [1455, 1634] 5 ?_
    simp only [am_wp, am_stp, am_en, am_as, am_pad, am_nth, am_set, am_st1, am_st2, am_kl, am_kill, am_mem, am_fv, am_tk, am_wt, am_bk, Option.toList, List.cons_append, List.nil_append, Nat.reduceAdd, Nat.reduceEqDiff, Nat.reduceLeDiff, reduceIte, Nat.reduceLT, or_self, true_or, or_true, if_true, if_false, and_self, and_true, true_and, not_false_eq_true, not_true_eq_false, fd_La_law_1450, fd_La_law_1452, fd_La_law_1457, f2]
    have := C.2.2.2.1
    have := C.2.2.2.2
    exact lw_fin G (by rw [f1.2.2.2.1]; exact b1) (by rw [f1.2.2.2.2.1]; exact b2) (by rw [f1.2.1]; omega) (by rw [f1.2.2.1]; omega)
