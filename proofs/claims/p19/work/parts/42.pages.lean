/-! SUMS, AND THE PAGES -/
def sm_F (f : Nat → Int32) (p : Int64) : Nat → Int64
  | 0 => p
  | n + 1 => (sm_F f p n ^^^ (f n &&& 255).toInt64) * 1099511628211
theorem sm_F_ext {f g : Nat → Int32} {p : Int64} : ∀ n : Nat, (∀ j, j < n → f j = g j) → sm_F f p n = sm_F g p n
  | 0, _ => rfl
  | n + 1, h => by
    unfold sm_F
    rw [sm_F_ext n (fun j hj => h j (by omega)), h n (by omega)]
theorem l2_sumOf_loop {d o s : Nat} {x : Int32} {h : am_H} {Q : am_O → am_H → Prop} (hk : am_kd h o = 102) (hl : s + 120 ≤ am_ln h o) (hb : am_ln h o < 2 ^ 31) (hq : Q (.inl (some (.long (sm_F (fun j => am_I h o (s + j)) x.toInt64 120)))) h) : ∀ n k : Nat, n + k = 120 →
    am_Ex nm_pr d mt_Sheet_sumOf (6, [.ref o, .int (nI s), .int x, .long (sm_F (fun j => am_I h o (s + j)) x.toInt64 k), .retAddr 0, .int (nI k)], [], h) Q
  | 0, k, hk' => by
    have e : k = 120 := by omega
    subst e
    refine am_go [] 8 ?_
    have hlt : ¬ (nI 120 < 120) := by decide
    simp only [am_wp, am_stp, am_en, am_as, am_pad, am_nth, am_set, am_st1, am_st2, am_kl, am_kill, am_mem, am_fv, am_tk, am_wt, am_bk, Option.toList, List.cons_append, List.nil_append, Nat.reduceAdd, Nat.reduceEqDiff, Nat.reduceLeDiff, reduceIte, Nat.reduceLT, or_self, true_or, or_true, if_true, if_false, and_self, and_true, true_and, not_false_eq_true, not_true_eq_false, fd_Sheet_sumOf_0, fd_Sheet_sumOf_1, fd_Sheet_sumOf_2, fd_Sheet_sumOf_3, fd_Sheet_sumOf_4, fd_Sheet_sumOf_6, fd_Sheet_sumOf_8, fd_Sheet_sumOf_10, fd_Sheet_sumOf_13, fd_Sheet_sumOf_14, fd_Sheet_sumOf_17, fd_Sheet_sumOf_18, fd_Sheet_sumOf_20, fd_Sheet_sumOf_21, fd_Sheet_sumOf_22, fd_Sheet_sumOf_23, fd_Sheet_sumOf_26, fd_Sheet_sumOf_27, fd_Sheet_sumOf_28, fd_Sheet_sumOf_29, fd_Sheet_sumOf_31, fd_Sheet_sumOf_32, fd_Sheet_sumOf_33, fd_Sheet_sumOf_36, fd_Sheet_sumOf_37, fd_Sheet_sumOf_38, fd_Sheet_sumOf_39, fd_Sheet_sumOf_42, fd_Sheet_sumOf_43, fd_Sheet_sumOf_44, fd_Sheet_sumOf_47, fd_Sheet_sumOf_50, fd_Sheet_sumOf_51, hlt]
    exact hq
  | n + 1, k, hk' => by
    refine am_go [6] 40 ?_
    have h1 : nI k < 120 := nI_lt (b := 120) (by omega) (by decide)
    have h2 : ¬ nI s < 0 := nI_pos (by omega)
    have h3 : nI (s + k) < (am_ln h o).toInt32 := nI_lt (b := am_ln h o) (by omega) hb
    have hin := am_inb (c := s + k) (N := am_ln h o) (by omega) (by omega)
    have hc : (nI (s + k)).toNatClampNeg = s + k := nI_clamp (by omega)
    simp only [am_wp, am_stp, am_en, am_as, am_pad, am_nth, am_set, am_st1, am_st2, am_kl, am_kill, am_mem, am_fv, am_tk, am_wt, am_bk, Option.toList, List.cons_append, List.nil_append, Nat.reduceAdd, Nat.reduceEqDiff, Nat.reduceLeDiff, reduceIte, Nat.reduceLT, or_self, true_or, or_true, if_true, if_false, and_self, and_true, true_and, not_false_eq_true, not_true_eq_false, fd_Sheet_sumOf_0, fd_Sheet_sumOf_1, fd_Sheet_sumOf_2, fd_Sheet_sumOf_3, fd_Sheet_sumOf_4, fd_Sheet_sumOf_6, fd_Sheet_sumOf_8, fd_Sheet_sumOf_10, fd_Sheet_sumOf_13, fd_Sheet_sumOf_14, fd_Sheet_sumOf_17, fd_Sheet_sumOf_18, fd_Sheet_sumOf_20, fd_Sheet_sumOf_21, fd_Sheet_sumOf_22, fd_Sheet_sumOf_23, fd_Sheet_sumOf_26, fd_Sheet_sumOf_27, fd_Sheet_sumOf_28, fd_Sheet_sumOf_29, fd_Sheet_sumOf_31, fd_Sheet_sumOf_32, fd_Sheet_sumOf_33, fd_Sheet_sumOf_36, fd_Sheet_sumOf_37, fd_Sheet_sumOf_38, fd_Sheet_sumOf_39, fd_Sheet_sumOf_42, fd_Sheet_sumOf_43, fd_Sheet_sumOf_44, fd_Sheet_sumOf_47, fd_Sheet_sumOf_50, fd_Sheet_sumOf_51, h1, h2, nI_add, h3, hk, hin, hc, nI_1]
    exact l2_sumOf_loop hk hl hb hq n (k + 1) (by omega)
theorem l2_sumOf {d o s : Nat} {x : Int32} {h : am_H} (hk : am_kd h o = 102) (hl : s + 120 ≤ am_ln h o) (hb : am_ln h o < 2 ^ 31) : am_Rt nm_pr (d + 1) mi_Sheet_sumOf [.ref o, .int (nI s), .int x] h (fun r h' => r = .inl (some (.long (sm_F (fun j => am_I h o (s + j)) x.toInt64 120))) ∧ h' = h) := by
  refine am_in' mt_Sheet_sumOf 6 rfl rfl rfl ?_
  refine am_go [6] 10 ?_
  simp only [am_wp, am_stp, am_en, am_as, am_pad, am_nth, am_set, am_st1, am_st2, am_kl, am_kill, am_mem, am_fv, am_tk, am_wt, am_bk, Option.toList, List.cons_append, List.nil_append, Nat.reduceAdd, Nat.reduceEqDiff, Nat.reduceLeDiff, reduceIte, Nat.reduceLT, or_self, true_or, or_true, if_true, if_false, and_self, and_true, true_and, not_false_eq_true, not_true_eq_false, fd_Sheet_sumOf_0, fd_Sheet_sumOf_1, fd_Sheet_sumOf_2, fd_Sheet_sumOf_3, fd_Sheet_sumOf_4, fd_Sheet_sumOf_6, fd_Sheet_sumOf_8, fd_Sheet_sumOf_10, fd_Sheet_sumOf_13, fd_Sheet_sumOf_14, fd_Sheet_sumOf_17, fd_Sheet_sumOf_18, fd_Sheet_sumOf_20, fd_Sheet_sumOf_21, fd_Sheet_sumOf_22, fd_Sheet_sumOf_23, fd_Sheet_sumOf_26, fd_Sheet_sumOf_27, fd_Sheet_sumOf_28, fd_Sheet_sumOf_29, fd_Sheet_sumOf_31, fd_Sheet_sumOf_32, fd_Sheet_sumOf_33, fd_Sheet_sumOf_36, fd_Sheet_sumOf_37, fd_Sheet_sumOf_38, fd_Sheet_sumOf_39, fd_Sheet_sumOf_42, fd_Sheet_sumOf_43, fd_Sheet_sumOf_44, fd_Sheet_sumOf_47, fd_Sheet_sumOf_50, fd_Sheet_sumOf_51]
  exact l2_sumOf_loop hk hl hb ⟨rfl, rfl⟩ 120 0 rfl
/-- octet j of a SUM -/
def sm_O (z : Int64) (j : Nat) : Int32 := am_b8 (z.toUInt64 >>> ((nI 56 - nI 8 * nI j).toInt64.toUInt64 &&& Int64.toUInt64 63)).toInt64.toInt32
theorem l2_seal_loop {d : Nat} {x : Int32} {z : Int64} {Q : am_O → am_H → Prop} : ∀ (n k : Nat) (h : am_H), n + k = 8 → cl_Sh h →
    (∀ h', am_fi [15] h h' → am_I h' 15 = (fun j => if 120 + k ≤ j ∧ j < 128 then sm_O z (j - 120) else am_I h 15 j) → am_L h' = am_L h → Q (.inl none) h') →
    am_Ex nm_pr d mt_Sheet_seal (13, [.ref 14, .int x, .long z, .retAddr 0, .int (nI k)], [], h) Q
  | 0, k, h, hk, hS, hx => by
    have e : k = 8 := by omega
    subst e
    refine am_go [] 8 ?_
    have hlt : ¬ (nI 8 < 8) := by decide
    simp only [am_wp, am_stp, am_en, am_as, am_pad, am_nth, am_set, am_st1, am_st2, am_kl, am_kill, am_mem, am_fv, am_tk, am_wt, am_bk, Option.toList, List.cons_append, List.nil_append, Nat.reduceAdd, Nat.reduceEqDiff, Nat.reduceLeDiff, reduceIte, Nat.reduceLT, or_self, true_or, or_true, if_true, if_false, and_self, and_true, true_and, not_false_eq_true, not_true_eq_false, fd_Sheet_seal_0, fd_Sheet_seal_1, fd_Sheet_seal_4, fd_Sheet_seal_5, fd_Sheet_seal_6, fd_Sheet_seal_9, fd_Sheet_seal_10, fd_Sheet_seal_11, fd_Sheet_seal_13, fd_Sheet_seal_15, fd_Sheet_seal_17, fd_Sheet_seal_20, fd_Sheet_seal_21, fd_Sheet_seal_24, fd_Sheet_seal_26, fd_Sheet_seal_28, fd_Sheet_seal_29, fd_Sheet_seal_30, fd_Sheet_seal_32, fd_Sheet_seal_34, fd_Sheet_seal_36, fd_Sheet_seal_37, fd_Sheet_seal_38, fd_Sheet_seal_39, fd_Sheet_seal_40, fd_Sheet_seal_41, fd_Sheet_seal_42, fd_Sheet_seal_45, fd_Sheet_seal_48, hlt]
    refine hx h am_fi.refl ?_ rfl
    funext j
    rw [if_neg (by omega)]
  | n + 1, k, h, hk, hS, hx => by
    obtain ⟨k1, r1, k2, n2⟩ := id hS
    refine am_go [13] 40 ?_
    have h1 : nI k < 8 := nI_lt (b := 8) (by omega) (by decide)
    have hin := am_inb (c := 120 + k) (N := 128) (by omega) (by omega)
    have hc : (nI (120 + k)).toNatClampNeg = 120 + k := nI_clamp (by omega)
    have e120 : (120 : Int32) + nI k = nI (120 + k) := nI_add 120 k
    simp only [am_wp, am_stp, am_en, am_as, am_pad, am_nth, am_set, am_st1, am_st2, am_kl, am_kill, am_mem, am_fv, am_tk, am_wt, am_bk, Option.toList, List.cons_append, List.nil_append, Nat.reduceAdd, Nat.reduceEqDiff, Nat.reduceLeDiff, reduceIte, Nat.reduceLT, or_self, true_or, or_true, if_true, if_false, and_self, and_true, true_and, not_false_eq_true, not_true_eq_false, fd_Sheet_seal_0, fd_Sheet_seal_1, fd_Sheet_seal_4, fd_Sheet_seal_5, fd_Sheet_seal_6, fd_Sheet_seal_9, fd_Sheet_seal_10, fd_Sheet_seal_11, fd_Sheet_seal_13, fd_Sheet_seal_15, fd_Sheet_seal_17, fd_Sheet_seal_20, fd_Sheet_seal_21, fd_Sheet_seal_24, fd_Sheet_seal_26, fd_Sheet_seal_28, fd_Sheet_seal_29, fd_Sheet_seal_30, fd_Sheet_seal_32, fd_Sheet_seal_34, fd_Sheet_seal_36, fd_Sheet_seal_37, fd_Sheet_seal_38, fd_Sheet_seal_39, fd_Sheet_seal_40, fd_Sheet_seal_41, fd_Sheet_seal_42, fd_Sheet_seal_45, fd_Sheet_seal_48, k1, r1, k2, n2, h1, e120, hin, hc, nI_1, am_b8_b8]
    refine l2_seal_loop n (k + 1) _ (by omega) hS (fun h' a1 a2 a3 => hx h' ((am_fi.refl.sI (by simp)).trans a1) ?_ a3)
    rw [a2]
    funext j
    rw [hx_I_sI, if_pos rfl]
    by_cases e1 : j = 120 + k
    · subst e1
      rw [if_neg (by omega), if_pos rfl, if_pos (by omega), Nat.add_sub_cancel_left]
      rfl
    · rw [if_neg e1]
      by_cases e2 : 120 + (k + 1) ≤ j ∧ j < 128
      · rw [if_pos e2, if_pos (by omega)]
      · rw [if_neg e2, if_neg (by omega)]
theorem l2_seal {d : Nat} {x : Int32} {h : am_H} (hS : cl_Sh h) : am_Rt nm_pr (d + 2) mi_Sheet_seal [.ref 14, .int x] h (fun o h' => o = .inl none ∧ am_fi [15] h h' ∧ am_I h' 15 = (fun j => if 120 ≤ j ∧ j < 128 then sm_O (sm_F (am_I h 15) x.toInt64 120) (j - 120) else am_I h 15 j) ∧ am_L h' = am_L h) := by
  obtain ⟨k1, r1, k2, n2⟩ := id hS
  refine am_in' mt_Sheet_seal 5 rfl rfl rfl ?_
  refine am_go [] 5 ?_
  simp only [am_wp, am_stp, am_en, am_as, am_pad, am_nth, am_set, am_st1, am_st2, am_kl, am_kill, am_mem, am_fv, am_tk, am_wt, am_bk, Option.toList, List.cons_append, List.nil_append, Nat.reduceAdd, Nat.reduceEqDiff, Nat.reduceLeDiff, reduceIte, Nat.reduceLT, or_self, true_or, or_true, if_true, if_false, and_self, and_true, true_and, not_false_eq_true, not_true_eq_false, fd_Sheet_seal_0, fd_Sheet_seal_1, fd_Sheet_seal_4, fd_Sheet_seal_5, fd_Sheet_seal_6, fd_Sheet_seal_9, fd_Sheet_seal_10, fd_Sheet_seal_11, fd_Sheet_seal_13, fd_Sheet_seal_15, fd_Sheet_seal_17, fd_Sheet_seal_20, fd_Sheet_seal_21, fd_Sheet_seal_24, fd_Sheet_seal_26, fd_Sheet_seal_28, fd_Sheet_seal_29, fd_Sheet_seal_30, fd_Sheet_seal_32, fd_Sheet_seal_34, fd_Sheet_seal_36, fd_Sheet_seal_37, fd_Sheet_seal_38, fd_Sheet_seal_39, fd_Sheet_seal_40, fd_Sheet_seal_41, fd_Sheet_seal_42, fd_Sheet_seal_45, fd_Sheet_seal_48, k1, r1]
  refine am_call (l2_sumOf (s := 0) k2 (by omega) (by omega)) (fun o h1 q => ?_)
  obtain ⟨rfl, rfl⟩ := q
  simp only [am_wp, am_stp, am_en, am_as, am_pad, am_nth, am_set, am_st1, am_st2, am_kl, am_kill, am_mem, am_fv, am_tk, am_wt, am_bk, Option.toList, List.cons_append, List.nil_append, Nat.reduceAdd, Nat.reduceEqDiff, Nat.reduceLeDiff, reduceIte, Nat.reduceLT, or_self, true_or, or_true, if_true, if_false, and_self, and_true, true_and, not_false_eq_true, not_true_eq_false]
  refine am_go [13] 10 ?_
  simp only [am_wp, am_stp, am_en, am_as, am_pad, am_nth, am_set, am_st1, am_st2, am_kl, am_kill, am_mem, am_fv, am_tk, am_wt, am_bk, Option.toList, List.cons_append, List.nil_append, Nat.reduceAdd, Nat.reduceEqDiff, Nat.reduceLeDiff, reduceIte, Nat.reduceLT, or_self, true_or, or_true, if_true, if_false, and_self, and_true, true_and, not_false_eq_true, not_true_eq_false, fd_Sheet_seal_0, fd_Sheet_seal_1, fd_Sheet_seal_4, fd_Sheet_seal_5, fd_Sheet_seal_6, fd_Sheet_seal_9, fd_Sheet_seal_10, fd_Sheet_seal_11, fd_Sheet_seal_13, fd_Sheet_seal_15, fd_Sheet_seal_17, fd_Sheet_seal_20, fd_Sheet_seal_21, fd_Sheet_seal_24, fd_Sheet_seal_26, fd_Sheet_seal_28, fd_Sheet_seal_29, fd_Sheet_seal_30, fd_Sheet_seal_32, fd_Sheet_seal_34, fd_Sheet_seal_36, fd_Sheet_seal_37, fd_Sheet_seal_38, fd_Sheet_seal_39, fd_Sheet_seal_40, fd_Sheet_seal_41, fd_Sheet_seal_42, fd_Sheet_seal_45, fd_Sheet_seal_48]
  have e : (fun j => am_I h1 15 (0 + j)) = am_I h1 15 := by funext j; rw [Nat.zero_add]
  rw [e]
  exact l2_seal_loop 8 0 h1 rfl hS (fun h' a1 a2 a3 => ⟨rfl, a1, a2, a3⟩)
