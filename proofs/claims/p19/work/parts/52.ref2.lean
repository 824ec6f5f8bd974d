/-! THE REFERENCE's PAGES: octets 73, draft 91 -/
def mo_Pg (h : am_H) : Prop := am_kd h 72 = 12 ∧ am_R h 72 2 = 73 ∧ am_R h 72 30 = 91 ∧ am_kd h 73 = 102 ∧ am_ln h 73 = 131072 ∧ am_kd h 91 = 102 ∧ am_ln h 91 = 128
theorem mo_Pg.fi {S : List Nat} {h h' : am_H} (a : mo_Pg h) (b : am_fi S h h') : mo_Pg h' := by
  obtain ⟨-, -, -, b4, b5, b6, -⟩ := b
  unfold mo_Pg
  rw [b4, b5, b6]
  exact a
theorem mo_Pg.sI {h : am_H} {a j : Nat} {v : Int32} (c : mo_Pg h) : mo_Pg (am_sI h a j v) := c
theorem l2_Mo_clear_loop {d : Nat} {Q : am_O → am_H → Prop} : ∀ (n k : Nat) (h : am_H), n + k = 128 → mo_Pg h →
    (∀ h', am_fi [91] h h' → am_I h' 91 = (fun j => if k ≤ j ∧ j < 128 then 0 else am_I h 91 j) → am_L h' = am_L h → Q (.inl none) h') →
    am_Ex nm_pr d mt_Mo_clearDraft (2, [.ref 72, .int (nI k)], [], h) Q
  | 0, k, h, hk, hS, hx => by
    have e : k = 128 := by omega
    subst e
    refine am_go [9] 20 ?_
    have hlt : ¬ (nI 128 < 128) := by decide
    simp only [am_wp, am_stp, am_en, am_as, am_pad, am_nth, am_set, am_st1, am_st2, am_kl, am_kill, am_mem, am_fv, am_tk, am_wt, am_bk, Option.toList, List.cons_append, List.nil_append, Nat.reduceAdd, Nat.reduceEqDiff, Nat.reduceLeDiff, reduceIte, Nat.reduceLT, or_self, true_or, or_true, if_true, if_false, and_self, and_true, true_and, not_false_eq_true, not_true_eq_false, fd_Mo_clearDraft_0, fd_Mo_clearDraft_1, fd_Mo_clearDraft_2, fd_Mo_clearDraft_3, fd_Mo_clearDraft_6, fd_Mo_clearDraft_9, fd_Mo_clearDraft_10, fd_Mo_clearDraft_13, fd_Mo_clearDraft_14, fd_Mo_clearDraft_15, fd_Mo_clearDraft_16, fd_Mo_clearDraft_19, fd_Mo_clearDraft_22, hlt]
    refine hx h am_fi.refl ?_ rfl
    funext j
    rw [if_neg (by omega)]
  | n + 1, k, h, hk, hS, hx => by
    obtain ⟨k1, r1, r2, k2, n2, k3, n3⟩ := id hS
    refine am_go [2, 22] 20 ?_
    have hlt : nI k < 128 := nI_lt (b := 128) (by omega) (by decide)
    have hin := am_inb (c := k) (N := 128) (by omega) (by omega)
    have hc : (nI k).toNatClampNeg = k := nI_clamp (by omega)
    have h0 : am_b8 0 = 0 := by decide
    simp only [am_wp, am_stp, am_en, am_as, am_pad, am_nth, am_set, am_st1, am_st2, am_kl, am_kill, am_mem, am_fv, am_tk, am_wt, am_bk, Option.toList, List.cons_append, List.nil_append, Nat.reduceAdd, Nat.reduceEqDiff, Nat.reduceLeDiff, reduceIte, Nat.reduceLT, or_self, true_or, or_true, if_true, if_false, and_self, and_true, true_and, not_false_eq_true, not_true_eq_false, fd_Mo_clearDraft_0, fd_Mo_clearDraft_1, fd_Mo_clearDraft_2, fd_Mo_clearDraft_3, fd_Mo_clearDraft_6, fd_Mo_clearDraft_9, fd_Mo_clearDraft_10, fd_Mo_clearDraft_13, fd_Mo_clearDraft_14, fd_Mo_clearDraft_15, fd_Mo_clearDraft_16, fd_Mo_clearDraft_19, fd_Mo_clearDraft_22, k1, r2, k3, n3, hlt, hin, hc, h0, nI_1]
    refine l2_Mo_clear_loop n (k + 1) (am_sI h 91 k 0) (by omega) hS.sI (fun h' a1 a2 a3 => hx h' ((am_fi.refl.sI (by simp)).trans a1) ?_ a3)
    rw [a2]
    funext j
    rw [hx_I_sI, if_pos rfl]
    by_cases e1 : j = k
    · subst e1; rw [if_neg (by omega), if_pos rfl, if_pos (by omega)]
    · rw [if_neg e1]
      by_cases e2 : k + 1 ≤ j ∧ j < 128
      · rw [if_pos e2, if_pos (by omega)]
      · rw [if_neg e2, if_neg (by omega)]
theorem l2_Mo_clear {d : Nat} {h : am_H} (hS : mo_Pg h) : am_Rt nm_pr (d + 1) mi_Mo_clearDraft [.ref 72] h (fun o h' => o = .inl none ∧ am_fi [91] h h' ∧ am_I h' 91 = (fun j => if j < 128 then 0 else am_I h 91 j) ∧ am_L h' = am_L h) := by
  refine am_in' mt_Mo_clearDraft 2 rfl rfl rfl ?_
  refine am_go [2] 20 ?_
  simp only [am_wp, am_stp, am_en, am_as, am_pad, am_nth, am_set, am_st1, am_st2, am_kl, am_kill, am_mem, am_fv, am_tk, am_wt, am_bk, Option.toList, List.cons_append, List.nil_append, Nat.reduceAdd, Nat.reduceEqDiff, Nat.reduceLeDiff, reduceIte, Nat.reduceLT, or_self, true_or, or_true, if_true, if_false, and_self, and_true, true_and, not_false_eq_true, not_true_eq_false, fd_Mo_clearDraft_0, fd_Mo_clearDraft_1, fd_Mo_clearDraft_2, fd_Mo_clearDraft_3, fd_Mo_clearDraft_6, fd_Mo_clearDraft_9, fd_Mo_clearDraft_10, fd_Mo_clearDraft_13, fd_Mo_clearDraft_14, fd_Mo_clearDraft_15, fd_Mo_clearDraft_16, fd_Mo_clearDraft_19, fd_Mo_clearDraft_22]
  refine l2_Mo_clear_loop 128 0 h rfl hS (fun h' a1 a2 a3 => ⟨rfl, a1, ?_, a3⟩)
  rw [a2]
  funext j
  simp
theorem l2_Mo_put2 {d u : Nat} {v : Int32} {h : am_H} (hS : mo_Pg h) (hu : u + 1 < 128) : am_Rt nm_pr (d + 1) mi_Mo_put2 [.ref 72, .int (nI u), .int v] h (fun o h' => o = .inl (some (.int (nI (u + 2)))) ∧ h' = am_sI (am_sI h 91 u (am_b8 (v >>> (8 &&& 31)))) 91 (u + 1) (am_b8 v)) := by
  obtain ⟨k1, r1, r2, k2, n2, k3, n3⟩ := id hS
  refine am_in' mt_Mo_put2 3 rfl rfl rfl ?_
  refine am_go [] 40 ?_
  have i1 := am_inb (c := u) (N := 128) (by omega) (by omega)
  have i2 : (nI (u + 1) < 0 ∨ 127 ≤ u) = False := eq_false (fun q => by rcases q with q | q; exact nI_pos (by omega) q; omega)
  have c1 : (nI u).toNatClampNeg = u := nI_clamp (by omega)
  have c2 : (nI (u + 1)).toNatClampNeg = u + 1 := nI_clamp (by omega)
  have e2 : nI u + 2 = nI (u + 2) := nI_add u 2
  simp only [am_wp, am_stp, am_en, am_as, am_pad, am_nth, am_set, am_st1, am_st2, am_kl, am_kill, am_mem, am_fv, am_tk, am_wt, am_bk, Option.toList, List.cons_append, List.nil_append, Nat.reduceAdd, Nat.reduceEqDiff, Nat.reduceLeDiff, reduceIte, Nat.reduceLT, or_self, true_or, or_true, if_true, if_false, and_self, and_true, true_and, not_false_eq_true, not_true_eq_false, fd_Mo_put2_0, fd_Mo_put2_1, fd_Mo_put2_4, fd_Mo_put2_5, fd_Mo_put2_6, fd_Mo_put2_8, fd_Mo_put2_9, fd_Mo_put2_10, fd_Mo_put2_11, fd_Mo_put2_12, fd_Mo_put2_15, fd_Mo_put2_16, fd_Mo_put2_17, fd_Mo_put2_18, fd_Mo_put2_19, fd_Mo_put2_20, fd_Mo_put2_21, fd_Mo_put2_22, fd_Mo_put2_23, fd_Mo_put2_24, hx_nx_sI, hx_ce_sI, hx_sl_sI, hx_kd_sI, hx_ln_sI, hx_I_sI, hx_L_sI, hx_R_sI, hx_nx_sL, hx_ce_sL, hx_sl_sL, hx_kd_sL, hx_ln_sL, hx_I_sL, hx_L_sL, hx_R_sL, hx_nx_sR, hx_ce_sR, hx_sl_sR, hx_kd_sR, hx_ln_sR, hx_I_sR, hx_L_sR, hx_R_sR, hx_nx_al, hx_ce_al, hx_sl_al, hx_kd_al, hx_ln_al, hx_I_al, hx_L_al, hx_R_al, hx_nx_row, hx_ce_row, hx_sl_row, hx_kd_row, hx_ln_row, hx_I_row, hx_L_row, hx_R_row, hx_nx_mk, hx_kd_mk, hx_ln_mk, hx_I_mk, hx_L_mk, hx_R_mk, k1, r2, k3, n3, i1, i2, c1, c2, nI_1, e2, am_b8_b8]
theorem l2_Mo_sumD_loop {d : Nat} {x : Int32} {h : am_H} {Q : am_O → am_H → Prop} (hS : mo_Pg h) (hq : Q (.inl (some (.long (sm_F (am_I h 91) x.toInt64 120)))) h) : ∀ (n k : Nat) (w : Value), n + k = 120 →
    am_Ex nm_pr d mt_Mo_sumOf (6, [.ref 72, .int x, .int 1, .long (sm_F (am_I h 91) x.toInt64 k), .retAddr 0, .int (nI k), w], [], h) Q
  | 0, k, w, hk => by
    have e : k = 120 := by omega
    subst e
    refine am_go [13] 8 ?_
    have hlt : ¬ (nI 120 < 120) := by decide
    simp only [am_wp, am_stp, am_en, am_as, am_pad, am_nth, am_set, am_st1, am_st2, am_kl, am_kill, am_mem, am_fv, am_tk, am_wt, am_bk, Option.toList, List.cons_append, List.nil_append, Nat.reduceAdd, Nat.reduceEqDiff, Nat.reduceLeDiff, reduceIte, Nat.reduceLT, or_self, true_or, or_true, if_true, if_false, and_self, and_true, true_and, not_false_eq_true, not_true_eq_false, fd_Mo_sumOf_0, fd_Mo_sumOf_1, fd_Mo_sumOf_2, fd_Mo_sumOf_3, fd_Mo_sumOf_4, fd_Mo_sumOf_6, fd_Mo_sumOf_8, fd_Mo_sumOf_10, fd_Mo_sumOf_13, fd_Mo_sumOf_14, fd_Mo_sumOf_17, fd_Mo_sumOf_18, fd_Mo_sumOf_21, fd_Mo_sumOf_23, fd_Mo_sumOf_24, fd_Mo_sumOf_27, fd_Mo_sumOf_28, fd_Mo_sumOf_31, fd_Mo_sumOf_32, fd_Mo_sumOf_35, fd_Mo_sumOf_38, fd_Mo_sumOf_39, fd_Mo_sumOf_40, fd_Mo_sumOf_42, fd_Mo_sumOf_43, fd_Mo_sumOf_44, fd_Mo_sumOf_47, fd_Mo_sumOf_48, fd_Mo_sumOf_50, fd_Mo_sumOf_51, fd_Mo_sumOf_53, fd_Mo_sumOf_54, fd_Mo_sumOf_55, fd_Mo_sumOf_58, fd_Mo_sumOf_59, fd_Mo_sumOf_60, fd_Mo_sumOf_63, fd_Mo_sumOf_66, fd_Mo_sumOf_67, hlt]
    exact hq
  | n + 1, k, w, hk => by
    obtain ⟨k1, r1, r2, k2, n2, k3, n3⟩ := id hS
    refine am_go [6, 66, 31] 40 ?_
    have h1 : nI k < 120 := nI_lt (b := 120) (by omega) (by decide)
    have hin := am_inb (c := k) (N := 128) (by omega) (by omega)
    have hc : (nI k).toNatClampNeg = k := nI_clamp (by omega)
    have one0 : ¬ ((1 : Int32) = 0) := by decide
    simp only [am_wp, am_stp, am_en, am_as, am_pad, am_nth, am_set, am_st1, am_st2, am_kl, am_kill, am_mem, am_fv, am_tk, am_wt, am_bk, Option.toList, List.cons_append, List.nil_append, Nat.reduceAdd, Nat.reduceEqDiff, Nat.reduceLeDiff, reduceIte, Nat.reduceLT, or_self, true_or, or_true, if_true, if_false, and_self, and_true, true_and, not_false_eq_true, not_true_eq_false, fd_Mo_sumOf_0, fd_Mo_sumOf_1, fd_Mo_sumOf_2, fd_Mo_sumOf_3, fd_Mo_sumOf_4, fd_Mo_sumOf_6, fd_Mo_sumOf_8, fd_Mo_sumOf_10, fd_Mo_sumOf_13, fd_Mo_sumOf_14, fd_Mo_sumOf_17, fd_Mo_sumOf_18, fd_Mo_sumOf_21, fd_Mo_sumOf_23, fd_Mo_sumOf_24, fd_Mo_sumOf_27, fd_Mo_sumOf_28, fd_Mo_sumOf_31, fd_Mo_sumOf_32, fd_Mo_sumOf_35, fd_Mo_sumOf_38, fd_Mo_sumOf_39, fd_Mo_sumOf_40, fd_Mo_sumOf_42, fd_Mo_sumOf_43, fd_Mo_sumOf_44, fd_Mo_sumOf_47, fd_Mo_sumOf_48, fd_Mo_sumOf_50, fd_Mo_sumOf_51, fd_Mo_sumOf_53, fd_Mo_sumOf_54, fd_Mo_sumOf_55, fd_Mo_sumOf_58, fd_Mo_sumOf_59, fd_Mo_sumOf_60, fd_Mo_sumOf_63, fd_Mo_sumOf_66, fd_Mo_sumOf_67, h1, one0, k1, r2, k3, n3, hin, hc, nI_1]
    exact l2_Mo_sumD_loop hS hq n (k + 1) _ (by omega)
theorem l2_Mo_sumD {d : Nat} {x : Int32} {h : am_H} (hS : mo_Pg h) : am_Rt nm_pr (d + 1) mi_Mo_sumOf [.ref 72, .int x, .int 1] h (fun o h' => o = .inl (some (.long (sm_F (am_I h 91) x.toInt64 120))) ∧ h' = h) := by
  refine am_in' mt_Mo_sumOf 7 rfl rfl rfl ?_
  refine am_go [6] 10 ?_
  simp only [am_wp, am_stp, am_en, am_as, am_pad, am_nth, am_set, am_st1, am_st2, am_kl, am_kill, am_mem, am_fv, am_tk, am_wt, am_bk, Option.toList, List.cons_append, List.nil_append, Nat.reduceAdd, Nat.reduceEqDiff, Nat.reduceLeDiff, reduceIte, Nat.reduceLT, or_self, true_or, or_true, if_true, if_false, and_self, and_true, true_and, not_false_eq_true, not_true_eq_false, fd_Mo_sumOf_0, fd_Mo_sumOf_1, fd_Mo_sumOf_2, fd_Mo_sumOf_3, fd_Mo_sumOf_4, fd_Mo_sumOf_6, fd_Mo_sumOf_8, fd_Mo_sumOf_10, fd_Mo_sumOf_13, fd_Mo_sumOf_14, fd_Mo_sumOf_17, fd_Mo_sumOf_18, fd_Mo_sumOf_21, fd_Mo_sumOf_23, fd_Mo_sumOf_24, fd_Mo_sumOf_27, fd_Mo_sumOf_28, fd_Mo_sumOf_31, fd_Mo_sumOf_32, fd_Mo_sumOf_35, fd_Mo_sumOf_38, fd_Mo_sumOf_39, fd_Mo_sumOf_40, fd_Mo_sumOf_42, fd_Mo_sumOf_43, fd_Mo_sumOf_44, fd_Mo_sumOf_47, fd_Mo_sumOf_48, fd_Mo_sumOf_50, fd_Mo_sumOf_51, fd_Mo_sumOf_53, fd_Mo_sumOf_54, fd_Mo_sumOf_55, fd_Mo_sumOf_58, fd_Mo_sumOf_59, fd_Mo_sumOf_60, fd_Mo_sumOf_63, fd_Mo_sumOf_66, fd_Mo_sumOf_67]
  exact l2_Mo_sumD_loop hS ⟨rfl, rfl⟩ 120 0 _ rfl
theorem l2_Mo_sumO_loop {d p : Nat} {h : am_H} {Q : am_O → am_H → Prop} (hS : mo_Pg h) (hp : p < 1024) (hq : Q (.inl (some (.long (sm_F (fun j => am_I h 73 (128 * p + j)) (nI p).toInt64 120)))) h) : ∀ (n k : Nat) (w : Value), n + k = 120 →
    am_Ex nm_pr d mt_Mo_sumOf (6, [.ref 72, .int (nI p), .int 0, .long (sm_F (fun j => am_I h 73 (128 * p + j)) (nI p).toInt64 k), .retAddr 0, .int (nI k), w], [], h) Q
  | 0, k, w, hk => by
    have e : k = 120 := by omega
    subst e
    refine am_go [13] 8 ?_
    have hlt : ¬ (nI 120 < 120) := by decide
    simp only [am_wp, am_stp, am_en, am_as, am_pad, am_nth, am_set, am_st1, am_st2, am_kl, am_kill, am_mem, am_fv, am_tk, am_wt, am_bk, Option.toList, List.cons_append, List.nil_append, Nat.reduceAdd, Nat.reduceEqDiff, Nat.reduceLeDiff, reduceIte, Nat.reduceLT, or_self, true_or, or_true, if_true, if_false, and_self, and_true, true_and, not_false_eq_true, not_true_eq_false, fd_Mo_sumOf_0, fd_Mo_sumOf_1, fd_Mo_sumOf_2, fd_Mo_sumOf_3, fd_Mo_sumOf_4, fd_Mo_sumOf_6, fd_Mo_sumOf_8, fd_Mo_sumOf_10, fd_Mo_sumOf_13, fd_Mo_sumOf_14, fd_Mo_sumOf_17, fd_Mo_sumOf_18, fd_Mo_sumOf_21, fd_Mo_sumOf_23, fd_Mo_sumOf_24, fd_Mo_sumOf_27, fd_Mo_sumOf_28, fd_Mo_sumOf_31, fd_Mo_sumOf_32, fd_Mo_sumOf_35, fd_Mo_sumOf_38, fd_Mo_sumOf_39, fd_Mo_sumOf_40, fd_Mo_sumOf_42, fd_Mo_sumOf_43, fd_Mo_sumOf_44, fd_Mo_sumOf_47, fd_Mo_sumOf_48, fd_Mo_sumOf_50, fd_Mo_sumOf_51, fd_Mo_sumOf_53, fd_Mo_sumOf_54, fd_Mo_sumOf_55, fd_Mo_sumOf_58, fd_Mo_sumOf_59, fd_Mo_sumOf_60, fd_Mo_sumOf_63, fd_Mo_sumOf_66, fd_Mo_sumOf_67, hlt]
    exact hq
  | n + 1, k, w, hk => by
    obtain ⟨k1, r1, r2, k2, n2, k3, n3⟩ := id hS
    refine am_go [6, 66, 17] 40 ?_
    have h1 : nI k < 120 := nI_lt (b := 120) (by omega) (by decide)
    have hin := am_inb (c := 128 * p + k) (N := 131072) (by omega) (by omega)
    have hc : (nI (128 * p + k)).toNatClampNeg = 128 * p + k := nI_clamp (by omega)
    have e1 : 128 * nI p = nI (128 * p) := (Int32.ofNat_mul 128 p).symm
    simp only [am_wp, am_stp, am_en, am_as, am_pad, am_nth, am_set, am_st1, am_st2, am_kl, am_kill, am_mem, am_fv, am_tk, am_wt, am_bk, Option.toList, List.cons_append, List.nil_append, Nat.reduceAdd, Nat.reduceEqDiff, Nat.reduceLeDiff, reduceIte, Nat.reduceLT, or_self, true_or, or_true, if_true, if_false, and_self, and_true, true_and, not_false_eq_true, not_true_eq_false, fd_Mo_sumOf_0, fd_Mo_sumOf_1, fd_Mo_sumOf_2, fd_Mo_sumOf_3, fd_Mo_sumOf_4, fd_Mo_sumOf_6, fd_Mo_sumOf_8, fd_Mo_sumOf_10, fd_Mo_sumOf_13, fd_Mo_sumOf_14, fd_Mo_sumOf_17, fd_Mo_sumOf_18, fd_Mo_sumOf_21, fd_Mo_sumOf_23, fd_Mo_sumOf_24, fd_Mo_sumOf_27, fd_Mo_sumOf_28, fd_Mo_sumOf_31, fd_Mo_sumOf_32, fd_Mo_sumOf_35, fd_Mo_sumOf_38, fd_Mo_sumOf_39, fd_Mo_sumOf_40, fd_Mo_sumOf_42, fd_Mo_sumOf_43, fd_Mo_sumOf_44, fd_Mo_sumOf_47, fd_Mo_sumOf_48, fd_Mo_sumOf_50, fd_Mo_sumOf_51, fd_Mo_sumOf_53, fd_Mo_sumOf_54, fd_Mo_sumOf_55, fd_Mo_sumOf_58, fd_Mo_sumOf_59, fd_Mo_sumOf_60, fd_Mo_sumOf_63, fd_Mo_sumOf_66, fd_Mo_sumOf_67, h1, k1, r1, k2, n2, e1, nI_add, hin, hc, nI_1]
    exact l2_Mo_sumO_loop hS hp hq n (k + 1) _ (by omega)
theorem l2_Mo_sumO {d p : Nat} {h : am_H} (hS : mo_Pg h) (hp : p < 1024) : am_Rt nm_pr (d + 1) mi_Mo_sumOf [.ref 72, .int (nI p), .int 0] h (fun o h' => o = .inl (some (.long (sm_F (fun j => am_I h 73 (128 * p + j)) (nI p).toInt64 120))) ∧ h' = h) := by
  refine am_in' mt_Mo_sumOf 7 rfl rfl rfl ?_
  refine am_go [6] 10 ?_
  simp only [am_wp, am_stp, am_en, am_as, am_pad, am_nth, am_set, am_st1, am_st2, am_kl, am_kill, am_mem, am_fv, am_tk, am_wt, am_bk, Option.toList, List.cons_append, List.nil_append, Nat.reduceAdd, Nat.reduceEqDiff, Nat.reduceLeDiff, reduceIte, Nat.reduceLT, or_self, true_or, or_true, if_true, if_false, and_self, and_true, true_and, not_false_eq_true, not_true_eq_false, fd_Mo_sumOf_0, fd_Mo_sumOf_1, fd_Mo_sumOf_2, fd_Mo_sumOf_3, fd_Mo_sumOf_4, fd_Mo_sumOf_6, fd_Mo_sumOf_8, fd_Mo_sumOf_10, fd_Mo_sumOf_13, fd_Mo_sumOf_14, fd_Mo_sumOf_17, fd_Mo_sumOf_18, fd_Mo_sumOf_21, fd_Mo_sumOf_23, fd_Mo_sumOf_24, fd_Mo_sumOf_27, fd_Mo_sumOf_28, fd_Mo_sumOf_31, fd_Mo_sumOf_32, fd_Mo_sumOf_35, fd_Mo_sumOf_38, fd_Mo_sumOf_39, fd_Mo_sumOf_40, fd_Mo_sumOf_42, fd_Mo_sumOf_43, fd_Mo_sumOf_44, fd_Mo_sumOf_47, fd_Mo_sumOf_48, fd_Mo_sumOf_50, fd_Mo_sumOf_51, fd_Mo_sumOf_53, fd_Mo_sumOf_54, fd_Mo_sumOf_55, fd_Mo_sumOf_58, fd_Mo_sumOf_59, fd_Mo_sumOf_60, fd_Mo_sumOf_63, fd_Mo_sumOf_66, fd_Mo_sumOf_67]
  exact l2_Mo_sumO_loop hS hp ⟨rfl, rfl⟩ 120 0 _ rfl
theorem l2_Mo_seal_loop {d : Nat} {x : Int32} {z : Int64} {w1 w2 : Value} {Q : am_O → am_H → Prop} : ∀ (n k : Nat) (h : am_H), n + k = 8 → mo_Pg h →
    (∀ h', am_fi [91] h h' → am_I h' 91 = (fun j => if 120 + k ≤ j ∧ j < 128 then sm_O z (j - 120) else am_I h 91 j) → am_L h' = am_L h → am_Ex nm_pr d mt_Mo_write (45, [.ref 72, .int x, .long z, .retAddr 0, .int (nI 8), w1, w2], [], h') Q) →
    am_Ex nm_pr d mt_Mo_write (10, [.ref 72, .int x, .long z, .retAddr 0, .int (nI k), w1, w2], [], h) Q
  | 0, k, h, hk, hS, hx => by
    have e : k = 8 := by omega
    subst e
    refine am_go [17, 45] 8 ?_
    have hlt : ¬ (nI 8 < 8) := by decide
    simp only [am_wp, am_stp, am_en, am_as, am_pad, am_nth, am_set, am_st1, am_st2, am_kl, am_kill, am_mem, am_fv, am_tk, am_wt, am_bk, Option.toList, List.cons_append, List.nil_append, Nat.reduceAdd, Nat.reduceEqDiff, Nat.reduceLeDiff, reduceIte, Nat.reduceLT, or_self, true_or, or_true, if_true, if_false, and_self, and_true, true_and, not_false_eq_true, not_true_eq_false, fd_Mo_write_0, fd_Mo_write_1, fd_Mo_write_2, fd_Mo_write_3, fd_Mo_write_6, fd_Mo_write_7, fd_Mo_write_8, fd_Mo_write_10, fd_Mo_write_12, fd_Mo_write_14, fd_Mo_write_17, fd_Mo_write_18, fd_Mo_write_21, fd_Mo_write_23, fd_Mo_write_25, fd_Mo_write_26, fd_Mo_write_27, fd_Mo_write_29, fd_Mo_write_31, fd_Mo_write_33, fd_Mo_write_34, fd_Mo_write_35, fd_Mo_write_36, fd_Mo_write_37, fd_Mo_write_38, fd_Mo_write_39, fd_Mo_write_42, fd_Mo_write_45, fd_Mo_write_46, fd_Mo_write_47, fd_Mo_write_50, fd_Mo_write_51, fd_Mo_write_52, fd_Mo_write_55, fd_Mo_write_58, fd_Mo_write_60, fd_Mo_write_61, fd_Mo_write_64, fd_Mo_write_67, fd_Mo_write_68, fd_Mo_write_69, fd_Mo_write_72, fd_Mo_write_73, fd_Mo_write_74, fd_Mo_write_77, fd_Mo_write_78, fd_Mo_write_81, fd_Mo_write_84, fd_Mo_write_85, fd_Mo_write_88, fd_Mo_write_90, fd_Mo_write_92, fd_Mo_write_95, fd_Mo_write_98, fd_Mo_write_99, fd_Mo_write_102, fd_Mo_write_103, fd_Mo_write_105, fd_Mo_write_106, fd_Mo_write_108, fd_Mo_write_110, fd_Mo_write_112, fd_Mo_write_115, fd_Mo_write_116, fd_Mo_write_119, fd_Mo_write_122, fd_Mo_write_123, fd_Mo_write_124, fd_Mo_write_126, fd_Mo_write_127, fd_Mo_write_128, fd_Mo_write_131, fd_Mo_write_133, fd_Mo_write_134, fd_Mo_write_135, fd_Mo_write_138, fd_Mo_write_141, fd_Mo_write_143, fd_Mo_write_146, fd_Mo_write_147, fd_Mo_write_150, fd_Mo_write_152, hlt]
    refine hx h am_fi.refl ?_ rfl
    funext j
    rw [if_neg (by omega)]
  | n + 1, k, h, hk, hS, hx => by
    obtain ⟨k1, r1, r2, k2, n2, k3, n3⟩ := id hS
    refine am_go [10, 45] 40 ?_
    have h1 : nI k < 8 := nI_lt (b := 8) (by omega) (by decide)
    have hin := am_inb (c := 120 + k) (N := 128) (by omega) (by omega)
    have hc : (nI (120 + k)).toNatClampNeg = 120 + k := nI_clamp (by omega)
    have e120 : (120 : Int32) + nI k = nI (120 + k) := nI_add 120 k
    simp only [am_wp, am_stp, am_en, am_as, am_pad, am_nth, am_set, am_st1, am_st2, am_kl, am_kill, am_mem, am_fv, am_tk, am_wt, am_bk, Option.toList, List.cons_append, List.nil_append, Nat.reduceAdd, Nat.reduceEqDiff, Nat.reduceLeDiff, reduceIte, Nat.reduceLT, or_self, true_or, or_true, if_true, if_false, and_self, and_true, true_and, not_false_eq_true, not_true_eq_false, fd_Mo_write_0, fd_Mo_write_1, fd_Mo_write_2, fd_Mo_write_3, fd_Mo_write_6, fd_Mo_write_7, fd_Mo_write_8, fd_Mo_write_10, fd_Mo_write_12, fd_Mo_write_14, fd_Mo_write_17, fd_Mo_write_18, fd_Mo_write_21, fd_Mo_write_23, fd_Mo_write_25, fd_Mo_write_26, fd_Mo_write_27, fd_Mo_write_29, fd_Mo_write_31, fd_Mo_write_33, fd_Mo_write_34, fd_Mo_write_35, fd_Mo_write_36, fd_Mo_write_37, fd_Mo_write_38, fd_Mo_write_39, fd_Mo_write_42, fd_Mo_write_45, fd_Mo_write_46, fd_Mo_write_47, fd_Mo_write_50, fd_Mo_write_51, fd_Mo_write_52, fd_Mo_write_55, fd_Mo_write_58, fd_Mo_write_60, fd_Mo_write_61, fd_Mo_write_64, fd_Mo_write_67, fd_Mo_write_68, fd_Mo_write_69, fd_Mo_write_72, fd_Mo_write_73, fd_Mo_write_74, fd_Mo_write_77, fd_Mo_write_78, fd_Mo_write_81, fd_Mo_write_84, fd_Mo_write_85, fd_Mo_write_88, fd_Mo_write_90, fd_Mo_write_92, fd_Mo_write_95, fd_Mo_write_98, fd_Mo_write_99, fd_Mo_write_102, fd_Mo_write_103, fd_Mo_write_105, fd_Mo_write_106, fd_Mo_write_108, fd_Mo_write_110, fd_Mo_write_112, fd_Mo_write_115, fd_Mo_write_116, fd_Mo_write_119, fd_Mo_write_122, fd_Mo_write_123, fd_Mo_write_124, fd_Mo_write_126, fd_Mo_write_127, fd_Mo_write_128, fd_Mo_write_131, fd_Mo_write_133, fd_Mo_write_134, fd_Mo_write_135, fd_Mo_write_138, fd_Mo_write_141, fd_Mo_write_143, fd_Mo_write_146, fd_Mo_write_147, fd_Mo_write_150, fd_Mo_write_152, k1, r2, k3, n3, h1, e120, hin, hc, nI_1, am_b8_b8]
    refine l2_Mo_seal_loop n (k + 1) _ (by omega) hS.sI (fun h' a1 a2 a3 => hx h' ((am_fi.refl.sI (by simp)).trans a1) ?_ a3)
    rw [a2]
    funext j
    rw [hx_I_sI, if_pos rfl]
    by_cases e1 : j = 120 + k
    · subst e1
      rw [if_neg (by omega), if_pos rfl, if_pos (by omega), Nat.add_sub_cancel_left]
      rfl
    · rw [if_neg e1]
      by_cases e2 : 120 + (k + 1) ≤ j ∧ j < 128
      · rw [if_pos e2, if_pos (by omega)]
      · rw [if_neg e2, if_neg (by omega)]
theorem l2_Mo_copy_loop {d p : Nat} {z : Int64} {Q : am_O → am_H → Prop} (hp : p < 1024) : ∀ (n k : Nat) (h : am_H), n + k = 128 → mo_Pg h →
    (∀ h', am_fi [73] h h' → am_I h' 73 = (fun j => if p * 128 + k ≤ j ∧ j < p * 128 + 128 then am_b8 (am_I h 91 (j - p * 128)) else am_I h 73 j) → am_L h' = am_L h → Q (.inl (some (.int 1))) h') →
    am_Ex nm_pr d mt_Mo_write (108, [.ref 72, .int (nI p), .long z, .retAddr 0, .int 128, .int 1, .int (nI k)], [], h) Q
  | 0, k, h, hk, hS, hx => by
    have e : k = 128 := by omega
    subst e
    refine am_go [115, 146] 10 ?_
    have hlt : ¬ (nI 128 < 128) := by decide
    have one0 : ¬ ((1 : Int32) = 0) := by decide
    have one1 : (1 : Int32) = 0 ∨ (1 : Int32) = 1 := by decide
    simp only [am_wp, am_stp, am_en, am_as, am_pad, am_nth, am_set, am_st1, am_st2, am_kl, am_kill, am_mem, am_fv, am_tk, am_wt, am_bk, Option.toList, List.cons_append, List.nil_append, Nat.reduceAdd, Nat.reduceEqDiff, Nat.reduceLeDiff, reduceIte, Nat.reduceLT, or_self, true_or, or_true, if_true, if_false, and_self, and_true, true_and, not_false_eq_true, not_true_eq_false, fd_Mo_write_0, fd_Mo_write_1, fd_Mo_write_2, fd_Mo_write_3, fd_Mo_write_6, fd_Mo_write_7, fd_Mo_write_8, fd_Mo_write_10, fd_Mo_write_12, fd_Mo_write_14, fd_Mo_write_17, fd_Mo_write_18, fd_Mo_write_21, fd_Mo_write_23, fd_Mo_write_25, fd_Mo_write_26, fd_Mo_write_27, fd_Mo_write_29, fd_Mo_write_31, fd_Mo_write_33, fd_Mo_write_34, fd_Mo_write_35, fd_Mo_write_36, fd_Mo_write_37, fd_Mo_write_38, fd_Mo_write_39, fd_Mo_write_42, fd_Mo_write_45, fd_Mo_write_46, fd_Mo_write_47, fd_Mo_write_50, fd_Mo_write_51, fd_Mo_write_52, fd_Mo_write_55, fd_Mo_write_58, fd_Mo_write_60, fd_Mo_write_61, fd_Mo_write_64, fd_Mo_write_67, fd_Mo_write_68, fd_Mo_write_69, fd_Mo_write_72, fd_Mo_write_73, fd_Mo_write_74, fd_Mo_write_77, fd_Mo_write_78, fd_Mo_write_81, fd_Mo_write_84, fd_Mo_write_85, fd_Mo_write_88, fd_Mo_write_90, fd_Mo_write_92, fd_Mo_write_95, fd_Mo_write_98, fd_Mo_write_99, fd_Mo_write_102, fd_Mo_write_103, fd_Mo_write_105, fd_Mo_write_106, fd_Mo_write_108, fd_Mo_write_110, fd_Mo_write_112, fd_Mo_write_115, fd_Mo_write_116, fd_Mo_write_119, fd_Mo_write_122, fd_Mo_write_123, fd_Mo_write_124, fd_Mo_write_126, fd_Mo_write_127, fd_Mo_write_128, fd_Mo_write_131, fd_Mo_write_133, fd_Mo_write_134, fd_Mo_write_135, fd_Mo_write_138, fd_Mo_write_141, fd_Mo_write_143, fd_Mo_write_146, fd_Mo_write_147, fd_Mo_write_150, fd_Mo_write_152, hlt, one0, one1]
    refine hx h am_fi.refl ?_ rfl
    funext j
    rw [if_neg (by omega)]
  | n + 1, k, h, hk, hS, hx => by
    obtain ⟨k1, r1, r2, k2, n2, k3, n3⟩ := id hS
    refine am_go [108, 141] 40 ?_
    have h1 : nI k < 128 := nI_lt (b := 128) (by omega) (by decide)
    have i1 := am_inb (c := k) (N := 128) (by omega) (by omega)
    have i2 := am_inb (c := 128 * p + k) (N := 131072) (by omega) (by omega)
    have c1 : (nI k).toNatClampNeg = k := nI_clamp (by omega)
    have c2 : (nI (128 * p + k)).toNatClampNeg = 128 * p + k := nI_clamp (by omega)
    have e1 : 128 * nI p = nI (128 * p) := (Int32.ofNat_mul 128 p).symm
    simp only [am_wp, am_stp, am_en, am_as, am_pad, am_nth, am_set, am_st1, am_st2, am_kl, am_kill, am_mem, am_fv, am_tk, am_wt, am_bk, Option.toList, List.cons_append, List.nil_append, Nat.reduceAdd, Nat.reduceEqDiff, Nat.reduceLeDiff, reduceIte, Nat.reduceLT, or_self, true_or, or_true, if_true, if_false, and_self, and_true, true_and, not_false_eq_true, not_true_eq_false, fd_Mo_write_0, fd_Mo_write_1, fd_Mo_write_2, fd_Mo_write_3, fd_Mo_write_6, fd_Mo_write_7, fd_Mo_write_8, fd_Mo_write_10, fd_Mo_write_12, fd_Mo_write_14, fd_Mo_write_17, fd_Mo_write_18, fd_Mo_write_21, fd_Mo_write_23, fd_Mo_write_25, fd_Mo_write_26, fd_Mo_write_27, fd_Mo_write_29, fd_Mo_write_31, fd_Mo_write_33, fd_Mo_write_34, fd_Mo_write_35, fd_Mo_write_36, fd_Mo_write_37, fd_Mo_write_38, fd_Mo_write_39, fd_Mo_write_42, fd_Mo_write_45, fd_Mo_write_46, fd_Mo_write_47, fd_Mo_write_50, fd_Mo_write_51, fd_Mo_write_52, fd_Mo_write_55, fd_Mo_write_58, fd_Mo_write_60, fd_Mo_write_61, fd_Mo_write_64, fd_Mo_write_67, fd_Mo_write_68, fd_Mo_write_69, fd_Mo_write_72, fd_Mo_write_73, fd_Mo_write_74, fd_Mo_write_77, fd_Mo_write_78, fd_Mo_write_81, fd_Mo_write_84, fd_Mo_write_85, fd_Mo_write_88, fd_Mo_write_90, fd_Mo_write_92, fd_Mo_write_95, fd_Mo_write_98, fd_Mo_write_99, fd_Mo_write_102, fd_Mo_write_103, fd_Mo_write_105, fd_Mo_write_106, fd_Mo_write_108, fd_Mo_write_110, fd_Mo_write_112, fd_Mo_write_115, fd_Mo_write_116, fd_Mo_write_119, fd_Mo_write_122, fd_Mo_write_123, fd_Mo_write_124, fd_Mo_write_126, fd_Mo_write_127, fd_Mo_write_128, fd_Mo_write_131, fd_Mo_write_133, fd_Mo_write_134, fd_Mo_write_135, fd_Mo_write_138, fd_Mo_write_141, fd_Mo_write_143, fd_Mo_write_146, fd_Mo_write_147, fd_Mo_write_150, fd_Mo_write_152, k1, r1, r2, k2, n2, k3, n3, h1, e1, nI_add, i1, i2, c1, c2, nI_1]
    refine l2_Mo_copy_loop hp n (k + 1) _ (by omega) hS.sI (fun h' a1 a2 a3 => hx h' ((am_fi.refl.sI (by simp)).trans a1) ?_ a3)
    rw [a2]
    funext j
    simp only [hx_nx_sI, hx_ce_sI, hx_sl_sI, hx_kd_sI, hx_ln_sI, hx_I_sI, hx_L_sI, hx_R_sI, hx_nx_sL, hx_ce_sL, hx_sl_sL, hx_kd_sL, hx_ln_sL, hx_I_sL, hx_L_sL, hx_R_sL, hx_nx_sR, hx_ce_sR, hx_sl_sR, hx_kd_sR, hx_ln_sR, hx_I_sR, hx_L_sR, hx_R_sR, hx_nx_al, hx_ce_al, hx_sl_al, hx_kd_al, hx_ln_al, hx_I_al, hx_L_al, hx_R_al, hx_nx_row, hx_ce_row, hx_sl_row, hx_kd_row, hx_ln_row, hx_I_row, hx_L_row, hx_R_row, hx_nx_mk, hx_kd_mk, hx_ln_mk, hx_I_mk, hx_L_mk, hx_R_mk, am_wp, am_stp, am_en, am_as, am_pad, am_nth, am_set, am_st1, am_st2, am_kl, am_kill, am_mem, am_fv, am_tk, am_wt, am_bk, Option.toList, List.cons_append, List.nil_append, Nat.reduceAdd, Nat.reduceEqDiff, Nat.reduceLeDiff, reduceIte, Nat.reduceLT, or_self, true_or, or_true, if_true, if_false, and_self, and_true, true_and, not_false_eq_true, not_true_eq_false]
    by_cases e3 : j = p * 128 + k
    · subst e3
      rw [if_neg (by omega), if_pos (by omega), if_pos (by omega), Nat.add_sub_cancel_left]
    · rw [if_neg (show ¬ j = 128 * p + k by omega)]
      by_cases e2 : p * 128 + (k + 1) ≤ j ∧ j < p * 128 + 128
      · rw [if_pos e2, if_pos (by omega)]
      · rw [if_neg e2, if_neg (by omega)]
/-- a WRITE that is not cut -/
theorem l2_Mo_write {d p : Nat} {h : am_H} (hS : mo_Pg h) (hp : p < 1024) (hc : am_I h 72 8 = 0) : am_Rt nm_pr (d + 2) mi_Mo_write [.ref 72, .int (nI p)] h (fun o h' => o = .inl (some (.int 1)) ∧ am_fi [72, 73, 91] h h' ∧ am_I h' 72 = (fun j => if j = 7 then am_I h 72 7 + 1 else am_I h 72 j) ∧
      am_I h' 91 = (fun j => if 120 ≤ j ∧ j < 128 then sm_O (sm_F (am_I h 91) (nI p).toInt64 120) (j - 120) else am_I h 91 j) ∧
      am_I h' 73 = (fun j => if p * 128 ≤ j ∧ j < p * 128 + 128 then am_b8 (if 120 ≤ j - p * 128 then sm_O (sm_F (am_I h 91) (nI p).toInt64 120) (j - p * 128 - 120) else am_I h 91 (j - p * 128)) else am_I h 73 j) ∧ am_L h' = am_L h) := by
  refine am_in' mt_Mo_write 7 rfl rfl rfl ?_
  refine am_go [] 4 ?_
  simp only [am_wp, am_stp, am_en, am_as, am_pad, am_nth, am_set, am_st1, am_st2, am_kl, am_kill, am_mem, am_fv, am_tk, am_wt, am_bk, Option.toList, List.cons_append, List.nil_append, Nat.reduceAdd, Nat.reduceEqDiff, Nat.reduceLeDiff, reduceIte, Nat.reduceLT, or_self, true_or, or_true, if_true, if_false, and_self, and_true, true_and, not_false_eq_true, not_true_eq_false, fd_Mo_write_0, fd_Mo_write_1, fd_Mo_write_2, fd_Mo_write_3, hS.1]
  refine am_call (l2_Mo_sumD hS) (fun o h1 q => ?_)
  obtain ⟨rfl, rfl⟩ := q
  simp only [am_wp, am_stp, am_en, am_as, am_pad, am_nth, am_set, am_st1, am_st2, am_kl, am_kill, am_mem, am_fv, am_tk, am_wt, am_bk, Option.toList, List.cons_append, List.nil_append, Nat.reduceAdd, Nat.reduceEqDiff, Nat.reduceLeDiff, reduceIte, Nat.reduceLT, or_self, true_or, or_true, if_true, if_false, and_self, and_true, true_and, not_false_eq_true, not_true_eq_false]
  refine am_go [10] 10 ?_
  simp only [am_wp, am_stp, am_en, am_as, am_pad, am_nth, am_set, am_st1, am_st2, am_kl, am_kill, am_mem, am_fv, am_tk, am_wt, am_bk, Option.toList, List.cons_append, List.nil_append, Nat.reduceAdd, Nat.reduceEqDiff, Nat.reduceLeDiff, reduceIte, Nat.reduceLT, or_self, true_or, or_true, if_true, if_false, and_self, and_true, true_and, not_false_eq_true, not_true_eq_false, fd_Mo_write_6, fd_Mo_write_7, fd_Mo_write_8]
  refine l2_Mo_seal_loop 8 0 h1 rfl hS (fun h2 a1 a2 a3 => ?_)
  have S2 := hS.fi a1
  obtain ⟨k1, r1, r2, k2, n2, k3, n3⟩ := id S2
  have e72 : am_I h2 72 = am_I h1 72 := a1.2.2.2.2.2.2.1 72 (by simp)
  have i8 : am_I h2 72 8 = 0 := by rw [e72]; exact hc
  refine am_go [108, 67, 102] 40 ?_
  have z0 : ¬ ((0 : Int32) < 0) := by decide
  simp only [am_wp, am_stp, am_en, am_as, am_pad, am_nth, am_set, am_st1, am_st2, am_kl, am_kill, am_mem, am_fv, am_tk, am_wt, am_bk, Option.toList, List.cons_append, List.nil_append, Nat.reduceAdd, Nat.reduceEqDiff, Nat.reduceLeDiff, reduceIte, Nat.reduceLT, or_self, true_or, or_true, if_true, if_false, and_self, and_true, true_and, not_false_eq_true, not_true_eq_false, fd_Mo_write_45, fd_Mo_write_46, fd_Mo_write_47, fd_Mo_write_50, fd_Mo_write_51, fd_Mo_write_52, fd_Mo_write_55, fd_Mo_write_58, fd_Mo_write_60, fd_Mo_write_61, fd_Mo_write_64, fd_Mo_write_67, fd_Mo_write_68, fd_Mo_write_69, fd_Mo_write_72, fd_Mo_write_73, fd_Mo_write_74, fd_Mo_write_77, fd_Mo_write_78, fd_Mo_write_81, fd_Mo_write_84, fd_Mo_write_85, fd_Mo_write_88, fd_Mo_write_90, fd_Mo_write_92, fd_Mo_write_95, fd_Mo_write_98, fd_Mo_write_99, fd_Mo_write_102, fd_Mo_write_103, fd_Mo_write_105, fd_Mo_write_106, hx_nx_sI, hx_ce_sI, hx_sl_sI, hx_kd_sI, hx_ln_sI, hx_I_sI, hx_L_sI, hx_R_sI, hx_nx_sL, hx_ce_sL, hx_sl_sL, hx_kd_sL, hx_ln_sL, hx_I_sL, hx_L_sL, hx_R_sL, hx_nx_sR, hx_ce_sR, hx_sl_sR, hx_kd_sR, hx_ln_sR, hx_I_sR, hx_L_sR, hx_R_sR, hx_nx_al, hx_ce_al, hx_sl_al, hx_kd_al, hx_ln_al, hx_I_al, hx_L_al, hx_R_al, hx_nx_row, hx_ce_row, hx_sl_row, hx_kd_row, hx_ln_row, hx_I_row, hx_L_row, hx_R_row, hx_nx_mk, hx_kd_mk, hx_ln_mk, hx_I_mk, hx_L_mk, hx_R_mk, k1, i8, z0]
  refine l2_Mo_copy_loop hp 128 0 _ rfl S2.sI (fun h3 b1 b2 b3 => ⟨rfl, ?_, ?_, ?_, ?_, ?_⟩)
  · exact ((a1.sub (by simp)).sI (by simp)).trans (b1.sub (by simp))
  · rw [b1.2.2.2.2.2.2.1 72 (by simp)]
    funext j
    simp only [hx_nx_sI, hx_ce_sI, hx_sl_sI, hx_kd_sI, hx_ln_sI, hx_I_sI, hx_L_sI, hx_R_sI, hx_nx_sL, hx_ce_sL, hx_sl_sL, hx_kd_sL, hx_ln_sL, hx_I_sL, hx_L_sL, hx_R_sL, hx_nx_sR, hx_ce_sR, hx_sl_sR, hx_kd_sR, hx_ln_sR, hx_I_sR, hx_L_sR, hx_R_sR, hx_nx_al, hx_ce_al, hx_sl_al, hx_kd_al, hx_ln_al, hx_I_al, hx_L_al, hx_R_al, hx_nx_row, hx_ce_row, hx_sl_row, hx_kd_row, hx_ln_row, hx_I_row, hx_L_row, hx_R_row, hx_nx_mk, hx_kd_mk, hx_ln_mk, hx_I_mk, hx_L_mk, hx_R_mk, am_wp, am_stp, am_en, am_as, am_pad, am_nth, am_set, am_st1, am_st2, am_kl, am_kill, am_mem, am_fv, am_tk, am_wt, am_bk, Option.toList, List.cons_append, List.nil_append, Nat.reduceAdd, Nat.reduceEqDiff, Nat.reduceLeDiff, reduceIte, Nat.reduceLT, or_self, true_or, or_true, if_true, if_false, and_self, and_true, true_and, not_false_eq_true, not_true_eq_false, e72]
  · rw [b1.2.2.2.2.2.2.1 91 (by simp)]
    funext j
    simp only [hx_nx_sI, hx_ce_sI, hx_sl_sI, hx_kd_sI, hx_ln_sI, hx_I_sI, hx_L_sI, hx_R_sI, hx_nx_sL, hx_ce_sL, hx_sl_sL, hx_kd_sL, hx_ln_sL, hx_I_sL, hx_L_sL, hx_R_sL, hx_nx_sR, hx_ce_sR, hx_sl_sR, hx_kd_sR, hx_ln_sR, hx_I_sR, hx_L_sR, hx_R_sR, hx_nx_al, hx_ce_al, hx_sl_al, hx_kd_al, hx_ln_al, hx_I_al, hx_L_al, hx_R_al, hx_nx_row, hx_ce_row, hx_sl_row, hx_kd_row, hx_ln_row, hx_I_row, hx_L_row, hx_R_row, hx_nx_mk, hx_kd_mk, hx_ln_mk, hx_I_mk, hx_L_mk, hx_R_mk, am_wp, am_stp, am_en, am_as, am_pad, am_nth, am_set, am_st1, am_st2, am_kl, am_kill, am_mem, am_fv, am_tk, am_wt, am_bk, Option.toList, List.cons_append, List.nil_append, Nat.reduceAdd, Nat.reduceEqDiff, Nat.reduceLeDiff, reduceIte, Nat.reduceLT, or_self, true_or, or_true, if_true, if_false, and_self, and_true, true_and, not_false_eq_true, not_true_eq_false, a2]
  · rw [b2]
    funext j
    have e73 : am_I h2 73 = am_I h1 73 := a1.2.2.2.2.2.2.1 73 (by simp)
    simp only [hx_nx_sI, hx_ce_sI, hx_sl_sI, hx_kd_sI, hx_ln_sI, hx_I_sI, hx_L_sI, hx_R_sI, hx_nx_sL, hx_ce_sL, hx_sl_sL, hx_kd_sL, hx_ln_sL, hx_I_sL, hx_L_sL, hx_R_sL, hx_nx_sR, hx_ce_sR, hx_sl_sR, hx_kd_sR, hx_ln_sR, hx_I_sR, hx_L_sR, hx_R_sR, hx_nx_al, hx_ce_al, hx_sl_al, hx_kd_al, hx_ln_al, hx_I_al, hx_L_al, hx_R_al, hx_nx_row, hx_ce_row, hx_sl_row, hx_kd_row, hx_ln_row, hx_I_row, hx_L_row, hx_R_row, hx_nx_mk, hx_kd_mk, hx_ln_mk, hx_I_mk, hx_L_mk, hx_R_mk, am_wp, am_stp, am_en, am_as, am_pad, am_nth, am_set, am_st1, am_st2, am_kl, am_kill, am_mem, am_fv, am_tk, am_wt, am_bk, Option.toList, List.cons_append, List.nil_append, Nat.reduceAdd, Nat.reduceEqDiff, Nat.reduceLeDiff, reduceIte, Nat.reduceLT, or_self, true_or, or_true, if_true, if_false, and_self, and_true, true_and, not_false_eq_true, not_true_eq_false, a2, e73]
    by_cases e : p * 128 ≤ j ∧ j < p * 128 + 128
    · rw [if_pos (by omega), if_pos e]
      by_cases e2 : 120 ≤ j - p * 128
      · rw [if_pos (by omega), if_pos e2]
      · rw [if_neg (by omega), if_neg e2]
    · rw [if_neg (by omega), if_neg e]
  · rw [b3]; simp only [hx_nx_sI, hx_ce_sI, hx_sl_sI, hx_kd_sI, hx_ln_sI, hx_I_sI, hx_L_sI, hx_R_sI, hx_nx_sL, hx_ce_sL, hx_sl_sL, hx_kd_sL, hx_ln_sL, hx_I_sL, hx_L_sL, hx_R_sL, hx_nx_sR, hx_ce_sR, hx_sl_sR, hx_kd_sR, hx_ln_sR, hx_I_sR, hx_L_sR, hx_R_sR, hx_nx_al, hx_ce_al, hx_sl_al, hx_kd_al, hx_ln_al, hx_I_al, hx_L_al, hx_R_al, hx_nx_row, hx_ce_row, hx_sl_row, hx_kd_row, hx_ln_row, hx_I_row, hx_L_row, hx_R_row, hx_nx_mk, hx_kd_mk, hx_ln_mk, hx_I_mk, hx_L_mk, hx_R_mk]; exact a3
