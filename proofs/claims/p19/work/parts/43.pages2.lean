/-- the Pages (18), their octets (19), which sums are right (20) -/
def cl_Pg (P : Nat) (h : am_H) : Prop := am_kd h 18 = 4 ∧ am_R h 18 1 = 19 ∧ am_R h 18 2 = 20 ∧ am_I h 18 0 = nI P ∧ am_kd h 19 = 102 ∧ am_ln h 19 = P * 128 ∧ am_kd h 20 = 103 ∧ am_ln h 20 = P ∧ 4 ≤ P ∧ P ≤ 1024
theorem cl_Pg.fi {P : Nat} {S : List Nat} {h h' : am_H} (a : cl_Pg P h) (b : am_fi S h h') (hS : 18 ∉ S) : cl_Pg P h' := by
  obtain ⟨-, -, -, b4, b5, b6, b7, -⟩ := b
  unfold cl_Pg
  rw [b4, b5, b6, b7 18 hS]
  exact a
theorem cl_Pg.sI {P a j : Nat} {v : Int32} {h : am_H} (p : cl_Pg P h) (hj : a ≠ 18 ∨ j ≠ 0) : cl_Pg P (am_sI h a j v) := by
  unfold cl_Pg
  simp only [hx_nx_sI, hx_ce_sI, hx_sl_sI, hx_kd_sI, hx_ln_sI, hx_I_sI, hx_L_sI, hx_R_sI, hx_nx_sL, hx_ce_sL, hx_sl_sL, hx_kd_sL, hx_ln_sL, hx_I_sL, hx_L_sL, hx_R_sL, hx_nx_sR, hx_ce_sR, hx_sl_sR, hx_kd_sR, hx_ln_sR, hx_I_sR, hx_L_sR, hx_R_sR, hx_nx_al, hx_ce_al, hx_sl_al, hx_kd_al, hx_ln_al, hx_I_al, hx_L_al, hx_R_al, hx_nx_row, hx_ce_row, hx_sl_row, hx_kd_row, hx_ln_row, hx_I_row, hx_L_row, hx_R_row, hx_nx_mk, hx_kd_mk, hx_ln_mk, hx_I_mk, hx_L_mk, hx_R_mk]
  obtain ⟨p1, p2, p3, p4, p5⟩ := p
  refine ⟨p1, p2, p3, ?_, p5⟩
  by_cases e : 18 = a
  · rw [if_pos e, if_neg (fun q => by rcases hj with hj | hj; exact hj e.symm; exact hj q.symm)]
    exact p4
  · rw [if_neg e]
    exact p4
theorem l2_has {d P : Nat} {x : Int32} {h : am_H} (hP : cl_Pg P h) : am_Rt nm_pr (d + 1) mi_Pages_has [.ref 18, .int x] h (fun o h' => o = .inl (some (.int (if x < 0 then 0 else if x < nI P then 1 else 0))) ∧ h' = h) := by
  obtain ⟨k1, r1, r2, i0, -⟩ := id hP
  refine am_in' mt_Pages_has 2 rfl rfl rfl ?_
  refine am_go [] 20 ?_
  simp only [am_wp, am_stp, am_en, am_as, am_pad, am_nth, am_set, am_st1, am_st2, am_kl, am_kill, am_mem, am_fv, am_tk, am_wt, am_bk, Option.toList, List.cons_append, List.nil_append, Nat.reduceAdd, Nat.reduceEqDiff, Nat.reduceLeDiff, reduceIte, Nat.reduceLT, or_self, true_or, or_true, if_true, if_false, and_self, and_true, true_and, not_false_eq_true, not_true_eq_false, fd_Pages_has_0, fd_Pages_has_1, fd_Pages_has_4, fd_Pages_has_5, fd_Pages_has_6, fd_Pages_has_9, fd_Pages_has_12, fd_Pages_has_13, fd_Pages_has_16, fd_Pages_has_17, k1, i0]
  by_cases h1 : x < 0
  · simp [h1]
  · by_cases h2 : x < nI P <;> simp [h1, h2]
theorem l2_has1 {d P p : Nat} {h : am_H} (hP : cl_Pg P h) (hp : p < P) : am_Rt nm_pr (d + 1) mi_Pages_has [.ref 18, .int (nI p)] h (fun o h' => o = .inl (some (.int 1)) ∧ h' = h) := by
  have hb : P ≤ 1024 := hP.2.2.2.2.2.2.2.2.2
  refine am_call (l2_has hP) (fun o h1 q => ?_)
  rw [if_neg (nI_pos (by omega)), if_pos (nI_lt hp (by omega))] at q
  exact q
theorem l2_lay_loop {d P p m : Nat} {Q : am_O → am_H → Prop} (hp : p < P) (hm : m ≤ 128) : ∀ (n k : Nat) (h : am_H), n + k = m → cl_Pg P h → cl_Sh h →
    (∀ h', am_fi [19] h h' → am_I h' 19 = (fun j => if p * 128 + k ≤ j ∧ j < p * 128 + m then am_b8 (am_I h 15 (j - p * 128)) else am_I h 19 j) → am_L h' = am_L h → Q (.inl none) h') →
    am_Ex nm_pr (d + 1) mt_Pages_lay (3, [.ref 18, .int (nI p), .ref 14, .int (nI m), .int (nI k)], [], h) Q
  | 0, k, h, hk, hP, hS, hx => by
    have e : k = m := by omega
    subst e
    refine am_go [] 8 ?_
    have hlt : ¬ (nI k < nI k) := nI_nlt (Nat.le_refl _) (by omega)
    simp only [am_wp, am_stp, am_en, am_as, am_pad, am_nth, am_set, am_st1, am_st2, am_kl, am_kill, am_mem, am_fv, am_tk, am_wt, am_bk, Option.toList, List.cons_append, List.nil_append, Nat.reduceAdd, Nat.reduceEqDiff, Nat.reduceLeDiff, reduceIte, Nat.reduceLT, or_self, true_or, or_true, if_true, if_false, and_self, and_true, true_and, not_false_eq_true, not_true_eq_false, fd_Pages_lay_0, fd_Pages_lay_1, fd_Pages_lay_3, fd_Pages_lay_5, fd_Pages_lay_6, fd_Pages_lay_9, fd_Pages_lay_11, fd_Pages_lay_14, fd_Pages_lay_17, fd_Pages_lay_18, fd_Pages_lay_19, fd_Pages_lay_22, fd_Pages_lay_25, fd_Pages_lay_26, fd_Pages_lay_29, fd_Pages_lay_30, fd_Pages_lay_33, fd_Pages_lay_34, fd_Pages_lay_36, fd_Pages_lay_37, fd_Pages_lay_38, fd_Pages_lay_41, fd_Pages_lay_43, fd_Pages_lay_44, fd_Pages_lay_45, fd_Pages_lay_48, fd_Pages_lay_51, hlt]
    refine hx h am_fi.refl ?_ rfl
    funext j
    rw [if_neg (by omega)]
  | n + 1, k, h, hk, hP, hS, hx => by
    obtain ⟨k1, r1, k2, n2⟩ := id hS
    obtain ⟨q1, q2, q3, q4, q5, q6, q7, q8, q9, q10⟩ := id hP
    refine am_go [] 9 ?_
    have h1 : nI k < nI m := nI_lt (by omega) (by omega)
    have h2 : nI k < 128 := nI_lt (b := 128) (by omega) (by decide)
    simp only [am_wp, am_stp, am_en, am_as, am_pad, am_nth, am_set, am_st1, am_st2, am_kl, am_kill, am_mem, am_fv, am_tk, am_wt, am_bk, Option.toList, List.cons_append, List.nil_append, Nat.reduceAdd, Nat.reduceEqDiff, Nat.reduceLeDiff, reduceIte, Nat.reduceLT, or_self, true_or, or_true, if_true, if_false, and_self, and_true, true_and, not_false_eq_true, not_true_eq_false, fd_Pages_lay_0, fd_Pages_lay_1, fd_Pages_lay_3, fd_Pages_lay_5, fd_Pages_lay_6, fd_Pages_lay_9, fd_Pages_lay_11, fd_Pages_lay_14, fd_Pages_lay_17, fd_Pages_lay_18, fd_Pages_lay_19, fd_Pages_lay_22, fd_Pages_lay_25, fd_Pages_lay_26, fd_Pages_lay_29, fd_Pages_lay_30, fd_Pages_lay_33, fd_Pages_lay_34, fd_Pages_lay_36, fd_Pages_lay_37, fd_Pages_lay_38, fd_Pages_lay_41, fd_Pages_lay_43, fd_Pages_lay_44, fd_Pages_lay_45, fd_Pages_lay_48, fd_Pages_lay_51, h1, h2, q1]
    refine am_call (l2_has1 hP hp) (fun o h1 q => ?_)
    obtain ⟨rfl, rfl⟩ := q
    simp only [am_wp, am_stp, am_en, am_as, am_pad, am_nth, am_set, am_st1, am_st2, am_kl, am_kill, am_mem, am_fv, am_tk, am_wt, am_bk, Option.toList, List.cons_append, List.nil_append, Nat.reduceAdd, Nat.reduceEqDiff, Nat.reduceLeDiff, reduceIte, Nat.reduceLT, or_self, true_or, or_true, if_true, if_false, and_self, and_true, true_and, not_false_eq_true, not_true_eq_false]
    refine am_go [3] 40 ?_
    have e1 : nI p * 128 = nI (p * 128) := (Int32.ofNat_mul p 128).symm
    have i1 := am_inb (c := k) (N := 128) (by omega) (by omega)
    have i2 := am_inb (c := p * 128 + k) (N := P * 128) (by omega) (by omega)
    have c1 : (nI k).toNatClampNeg = k := nI_clamp (by omega)
    have c2 : (nI (p * 128 + k)).toNatClampNeg = p * 128 + k := nI_clamp (by omega)
    have one0 : ¬ ((1 : Int32) = 0) := by decide
    simp only [am_wp, am_stp, am_en, am_as, am_pad, am_nth, am_set, am_st1, am_st2, am_kl, am_kill, am_mem, am_fv, am_tk, am_wt, am_bk, Option.toList, List.cons_append, List.nil_append, Nat.reduceAdd, Nat.reduceEqDiff, Nat.reduceLeDiff, reduceIte, Nat.reduceLT, or_self, true_or, or_true, if_true, if_false, and_self, and_true, true_and, not_false_eq_true, not_true_eq_false, fd_Pages_lay_0, fd_Pages_lay_1, fd_Pages_lay_3, fd_Pages_lay_5, fd_Pages_lay_6, fd_Pages_lay_9, fd_Pages_lay_11, fd_Pages_lay_14, fd_Pages_lay_17, fd_Pages_lay_18, fd_Pages_lay_19, fd_Pages_lay_22, fd_Pages_lay_25, fd_Pages_lay_26, fd_Pages_lay_29, fd_Pages_lay_30, fd_Pages_lay_33, fd_Pages_lay_34, fd_Pages_lay_36, fd_Pages_lay_37, fd_Pages_lay_38, fd_Pages_lay_41, fd_Pages_lay_43, fd_Pages_lay_44, fd_Pages_lay_45, fd_Pages_lay_48, fd_Pages_lay_51, k1, r1, k2, n2, q1, q2, q5, q6, e1, nI_add, i1, i2, c1, c2, nI_1, one0]
    refine l2_lay_loop hp hm n (k + 1) _ (by omega) (hP.sI (Or.inl (by decide))) hS (fun h' a1 a2 a3 => hx h' ((am_fi.refl.sI (by simp)).trans a1) ?_ a3)
    rw [a2]
    funext j
    simp only [hx_nx_sI, hx_ce_sI, hx_sl_sI, hx_kd_sI, hx_ln_sI, hx_I_sI, hx_L_sI, hx_R_sI, hx_nx_sL, hx_ce_sL, hx_sl_sL, hx_kd_sL, hx_ln_sL, hx_I_sL, hx_L_sL, hx_R_sL, hx_nx_sR, hx_ce_sR, hx_sl_sR, hx_kd_sR, hx_ln_sR, hx_I_sR, hx_L_sR, hx_R_sR, hx_nx_al, hx_ce_al, hx_sl_al, hx_kd_al, hx_ln_al, hx_I_al, hx_L_al, hx_R_al, hx_nx_row, hx_ce_row, hx_sl_row, hx_kd_row, hx_ln_row, hx_I_row, hx_L_row, hx_R_row, hx_nx_mk, hx_kd_mk, hx_ln_mk, hx_I_mk, hx_L_mk, hx_R_mk, am_wp, am_stp, am_en, am_as, am_pad, am_nth, am_set, am_st1, am_st2, am_kl, am_kill, am_mem, am_fv, am_tk, am_wt, am_bk, Option.toList, List.cons_append, List.nil_append, Nat.reduceAdd, Nat.reduceEqDiff, Nat.reduceLeDiff, reduceIte, Nat.reduceLT, or_self, true_or, or_true, if_true, if_false, and_self, and_true, true_and, not_false_eq_true, not_true_eq_false]
    by_cases e3 : j = p * 128 + k
    · subst e3
      rw [if_neg (by omega), if_pos rfl, if_pos (by omega), Nat.add_sub_cancel_left]
    · rw [if_neg e3]
      by_cases e2 : p * 128 + (k + 1) ≤ j ∧ j < p * 128 + m
      · rw [if_pos e2, if_pos (by omega)]
      · rw [if_neg e2, if_neg (by omega)]
theorem l2_lay {d P p m : Nat} {h : am_H} (hp : p < P) (hm : m ≤ 128) (hP : cl_Pg P h) (hS : cl_Sh h) : am_Rt nm_pr (d + 2) mi_Pages_lay [.ref 18, .int (nI p), .ref 14, .int (nI m)] h (fun o h' => o = .inl none ∧ am_fi [19] h h' ∧ am_I h' 19 = (fun j => if p * 128 ≤ j ∧ j < p * 128 + m then am_b8 (am_I h 15 (j - p * 128)) else am_I h 19 j) ∧ am_L h' = am_L h) := by
  refine am_in' mt_Pages_lay 5 rfl rfl rfl ?_
  refine am_go [3] 10 ?_
  simp only [am_wp, am_stp, am_en, am_as, am_pad, am_nth, am_set, am_st1, am_st2, am_kl, am_kill, am_mem, am_fv, am_tk, am_wt, am_bk, Option.toList, List.cons_append, List.nil_append, Nat.reduceAdd, Nat.reduceEqDiff, Nat.reduceLeDiff, reduceIte, Nat.reduceLT, or_self, true_or, or_true, if_true, if_false, and_self, and_true, true_and, not_false_eq_true, not_true_eq_false, fd_Pages_lay_0, fd_Pages_lay_1, fd_Pages_lay_3, fd_Pages_lay_5, fd_Pages_lay_6, fd_Pages_lay_9, fd_Pages_lay_11, fd_Pages_lay_14, fd_Pages_lay_17, fd_Pages_lay_18, fd_Pages_lay_19, fd_Pages_lay_22, fd_Pages_lay_25, fd_Pages_lay_26, fd_Pages_lay_29, fd_Pages_lay_30, fd_Pages_lay_33, fd_Pages_lay_34, fd_Pages_lay_36, fd_Pages_lay_37, fd_Pages_lay_38, fd_Pages_lay_41, fd_Pages_lay_43, fd_Pages_lay_44, fd_Pages_lay_45, fd_Pages_lay_48, fd_Pages_lay_51]
  exact l2_lay_loop hp hm m 0 h rfl hP hS (fun h' a1 a2 a3 => ⟨rfl, a1, a2, a3⟩)
/-- whether the stored octets are the SUM's -/
def cs_B (f : Nat → Int32) (z : Int64) : Nat → Int32
  | 0 => 1
  | n + 1 => cs_B f z n &&& (if f n = sm_O z n then 1 else 0)
theorem cs_B_01 (f : Nat → Int32) (z : Int64) : ∀ n : Nat, cs_B f z n = 0 ∨ cs_B f z n = 1
  | 0 => Or.inr rfl
  | n + 1 => by
    unfold cs_B
    rcases cs_B_01 f z n with q | q <;> rw [q] <;> by_cases hc : f n = sm_O z n <;> simp [hc]
theorem cs_B_1 {f : Nat → Int32} {z : Int64} : ∀ n : Nat, cs_B f z n = 1 ↔ ∀ j, j < n → f j = sm_O z j
  | 0 => ⟨fun _ j hj => by omega, fun _ => rfl⟩
  | n + 1 => by
    have ih := cs_B_1 (f := f) (z := z) n
    unfold cs_B
    constructor
    · intro q j hj
      rcases cs_B_01 f z n with e | e
      · rw [e] at q
        by_cases hc : f n = sm_O z n <;> simp [hc] at q
      · by_cases hc : f n = sm_O z n
        · by_cases ej : j = n
          · subst ej; exact hc
          · exact ih.mp e j (by omega)
        · rw [e] at q
          simp [hc] at q
    · intro q
      rw [ih.mpr (fun j hj => q j (by omega)), if_pos (q n (by omega))]
      decide
theorem l2_checkSum_loop {d P p : Nat} {z : Int64} {h : am_H} {Q : am_O → am_H → Prop} (hp : p < P) (hP : cl_Pg P h) (hx : Q (.inl none) (am_sI h 20 p (cs_B (fun j => am_I h 19 (p * 128 + 120 + j)) z 8))) : ∀ n k : Nat, n + k = 8 →
    am_Ex nm_pr (d + 1) mt_Pages_checkSum (29, [.ref 18, .int (nI p), .long z, .retAddr 0, .int (cs_B (fun j => am_I h 19 (p * 128 + 120 + j)) z k), .int (nI k)], [], h) Q
  | 0, k, hk => by
    have e : k = 8 := by omega
    subst e
    obtain ⟨q1, q2, q3, q4, q5, q6, q7, q8, q9, q10⟩ := id hP
    refine am_go [] 20 ?_
    have hlt : ¬ (nI 8 < 8) := by decide
    have i1 := am_inb (c := p) (N := P) (by omega) (by omega)
    have c1 : (nI p).toNatClampNeg = p := nI_clamp (by omega)
    have n1 : ¬ (103 = 102) := by decide
    have e1 : cs_B (fun j => am_I h 19 (p * 128 + 120 + j)) z 8 &&& 1 = cs_B (fun j => am_I h 19 (p * 128 + 120 + j)) z 8 := by
      rcases cs_B_01 (fun j => am_I h 19 (p * 128 + 120 + j)) z 8 with q | q <;> rw [q] <;> decide
    simp only [am_wp, am_stp, am_en, am_as, am_pad, am_nth, am_set, am_st1, am_st2, am_kl, am_kill, am_mem, am_fv, am_tk, am_wt, am_bk, Option.toList, List.cons_append, List.nil_append, Nat.reduceAdd, Nat.reduceEqDiff, Nat.reduceLeDiff, reduceIte, Nat.reduceLT, or_self, true_or, or_true, if_true, if_false, and_self, and_true, true_and, not_false_eq_true, not_true_eq_false, fd_Pages_checkSum_0, fd_Pages_checkSum_1, fd_Pages_checkSum_2, fd_Pages_checkSum_5, fd_Pages_checkSum_8, fd_Pages_checkSum_9, fd_Pages_checkSum_10, fd_Pages_checkSum_13, fd_Pages_checkSum_14, fd_Pages_checkSum_17, fd_Pages_checkSum_18, fd_Pages_checkSum_19, fd_Pages_checkSum_22, fd_Pages_checkSum_23, fd_Pages_checkSum_24, fd_Pages_checkSum_26, fd_Pages_checkSum_27, fd_Pages_checkSum_29, fd_Pages_checkSum_31, fd_Pages_checkSum_33, fd_Pages_checkSum_36, fd_Pages_checkSum_38, fd_Pages_checkSum_39, fd_Pages_checkSum_42, fd_Pages_checkSum_43, fd_Pages_checkSum_46, fd_Pages_checkSum_47, fd_Pages_checkSum_49, fd_Pages_checkSum_50, fd_Pages_checkSum_52, fd_Pages_checkSum_53, fd_Pages_checkSum_54, fd_Pages_checkSum_55, fd_Pages_checkSum_57, fd_Pages_checkSum_59, fd_Pages_checkSum_61, fd_Pages_checkSum_62, fd_Pages_checkSum_63, fd_Pages_checkSum_64, fd_Pages_checkSum_65, fd_Pages_checkSum_66, fd_Pages_checkSum_69, fd_Pages_checkSum_70, fd_Pages_checkSum_73, fd_Pages_checkSum_74, fd_Pages_checkSum_75, fd_Pages_checkSum_77, fd_Pages_checkSum_80, fd_Pages_checkSum_83, fd_Pages_checkSum_84, fd_Pages_checkSum_87, fd_Pages_checkSum_88, fd_Pages_checkSum_90, fd_Pages_checkSum_91, hlt, q1, q3, q7, q8, i1, c1, n1, e1]
    exact hx
  | n + 1, k, hk => by
    obtain ⟨q1, q2, q3, q4, q5, q6, q7, q8, q9, q10⟩ := id hP
    refine am_go [29] 50 ?_
    have h1 : nI k < 8 := nI_lt (b := 8) (by omega) (by decide)
    have e1 : nI p * 128 = nI (p * 128) := (Int32.ofNat_mul p 128).symm
    have e120 : nI (p * 128) + 120 = nI (p * 128 + 120) := nI_add (p * 128) 120
    have i2 := am_inb (c := p * 128 + 120 + k) (N := P * 128) (by omega) (by omega)
    have c2 : (nI (p * 128 + 120 + k)).toNatClampNeg = p * 128 + 120 + k := nI_clamp (by omega)
    have es : am_b8 (z.toUInt64 >>> (((56 : Int32) - 8 * nI k).toInt64.toUInt64 &&& Int64.toUInt64 63)).toInt64.toInt32 = sm_O z k := rfl
    have n1 : ¬ (102 = 103) := by decide
    simp only [am_wp, am_stp, am_en, am_as, am_pad, am_nth, am_set, am_st1, am_st2, am_kl, am_kill, am_mem, am_fv, am_tk, am_wt, am_bk, Option.toList, List.cons_append, List.nil_append, Nat.reduceAdd, Nat.reduceEqDiff, Nat.reduceLeDiff, reduceIte, Nat.reduceLT, or_self, true_or, or_true, if_true, if_false, and_self, and_true, true_and, not_false_eq_true, not_true_eq_false, fd_Pages_checkSum_0, fd_Pages_checkSum_1, fd_Pages_checkSum_2, fd_Pages_checkSum_5, fd_Pages_checkSum_8, fd_Pages_checkSum_9, fd_Pages_checkSum_10, fd_Pages_checkSum_13, fd_Pages_checkSum_14, fd_Pages_checkSum_17, fd_Pages_checkSum_18, fd_Pages_checkSum_19, fd_Pages_checkSum_22, fd_Pages_checkSum_23, fd_Pages_checkSum_24, fd_Pages_checkSum_26, fd_Pages_checkSum_27, fd_Pages_checkSum_29, fd_Pages_checkSum_31, fd_Pages_checkSum_33, fd_Pages_checkSum_36, fd_Pages_checkSum_38, fd_Pages_checkSum_39, fd_Pages_checkSum_42, fd_Pages_checkSum_43, fd_Pages_checkSum_46, fd_Pages_checkSum_47, fd_Pages_checkSum_49, fd_Pages_checkSum_50, fd_Pages_checkSum_52, fd_Pages_checkSum_53, fd_Pages_checkSum_54, fd_Pages_checkSum_55, fd_Pages_checkSum_57, fd_Pages_checkSum_59, fd_Pages_checkSum_61, fd_Pages_checkSum_62, fd_Pages_checkSum_63, fd_Pages_checkSum_64, fd_Pages_checkSum_65, fd_Pages_checkSum_66, fd_Pages_checkSum_69, fd_Pages_checkSum_70, fd_Pages_checkSum_73, fd_Pages_checkSum_74, fd_Pages_checkSum_75, fd_Pages_checkSum_77, fd_Pages_checkSum_80, fd_Pages_checkSum_83, fd_Pages_checkSum_84, fd_Pages_checkSum_87, fd_Pages_checkSum_88, fd_Pages_checkSum_90, fd_Pages_checkSum_91, h1, q1, q2, q5, q6, e1, e120, nI_add, i2, c2, nI_1, es, n1]
    have hs := l2_checkSum_loop (d := d) (z := z) hp hP hx n (k + 1) (by omega)
    unfold cs_B at hs
    by_cases hc : am_I h 19 (p * 128 + 120 + k) = sm_O z k
    · rw [if_pos hc] at hs ⊢
      exact hs
    · rw [if_neg hc] at hs ⊢
      exact hs
theorem l2_checkSum {d P p : Nat} {h : am_H} (hp : p < P) (hP : cl_Pg P h) : am_Rt nm_pr (d + 2) mi_Pages_checkSum [.ref 18, .int (nI p)] h (fun o h' => o = .inl none ∧ h' = am_sI h 20 p (cs_B (fun j => am_I h 19 (p * 128 + 120 + j)) (sm_F (fun j => am_I h 19 (p * 128 + j)) (nI p).toInt64 120) 8)) := by
  obtain ⟨q1, q2, q3, q4, q5, q6, q7, q8, q9, q10⟩ := id hP
  refine am_in' mt_Pages_checkSum 6 rfl rfl rfl ?_
  refine am_go [] 3 ?_
  simp only [am_wp, am_stp, am_en, am_as, am_pad, am_nth, am_set, am_st1, am_st2, am_kl, am_kill, am_mem, am_fv, am_tk, am_wt, am_bk, Option.toList, List.cons_append, List.nil_append, Nat.reduceAdd, Nat.reduceEqDiff, Nat.reduceLeDiff, reduceIte, Nat.reduceLT, or_self, true_or, or_true, if_true, if_false, and_self, and_true, true_and, not_false_eq_true, not_true_eq_false, fd_Pages_checkSum_0, fd_Pages_checkSum_1, fd_Pages_checkSum_2, fd_Pages_checkSum_5, fd_Pages_checkSum_8, fd_Pages_checkSum_9, fd_Pages_checkSum_10, fd_Pages_checkSum_13, fd_Pages_checkSum_14, fd_Pages_checkSum_17, fd_Pages_checkSum_18, fd_Pages_checkSum_19, fd_Pages_checkSum_22, fd_Pages_checkSum_23, fd_Pages_checkSum_24, fd_Pages_checkSum_26, fd_Pages_checkSum_27, fd_Pages_checkSum_29, fd_Pages_checkSum_31, fd_Pages_checkSum_33, fd_Pages_checkSum_36, fd_Pages_checkSum_38, fd_Pages_checkSum_39, fd_Pages_checkSum_42, fd_Pages_checkSum_43, fd_Pages_checkSum_46, fd_Pages_checkSum_47, fd_Pages_checkSum_49, fd_Pages_checkSum_50, fd_Pages_checkSum_52, fd_Pages_checkSum_53, fd_Pages_checkSum_54, fd_Pages_checkSum_55, fd_Pages_checkSum_57, fd_Pages_checkSum_59, fd_Pages_checkSum_61, fd_Pages_checkSum_62, fd_Pages_checkSum_63, fd_Pages_checkSum_64, fd_Pages_checkSum_65, fd_Pages_checkSum_66, fd_Pages_checkSum_69, fd_Pages_checkSum_70, fd_Pages_checkSum_73, fd_Pages_checkSum_74, fd_Pages_checkSum_75, fd_Pages_checkSum_77, fd_Pages_checkSum_80, fd_Pages_checkSum_83, fd_Pages_checkSum_84, fd_Pages_checkSum_87, fd_Pages_checkSum_88, fd_Pages_checkSum_90, fd_Pages_checkSum_91, q1]
  refine am_call (l2_has1 hP hp) (fun o h1 q => ?_)
  obtain ⟨rfl, rfl⟩ := q
  simp only [am_wp, am_stp, am_en, am_as, am_pad, am_nth, am_set, am_st1, am_st2, am_kl, am_kill, am_mem, am_fv, am_tk, am_wt, am_bk, Option.toList, List.cons_append, List.nil_append, Nat.reduceAdd, Nat.reduceEqDiff, Nat.reduceLeDiff, reduceIte, Nat.reduceLT, or_self, true_or, or_true, if_true, if_false, and_self, and_true, true_and, not_false_eq_true, not_true_eq_false]
  have one0 : ¬ ((1 : Int32) = 0) := by decide
  have e1 : nI p * 128 = nI (p * 128) := (Int32.ofNat_mul p 128).symm
  refine am_go [] 8 ?_
  simp only [am_wp, am_stp, am_en, am_as, am_pad, am_nth, am_set, am_st1, am_st2, am_kl, am_kill, am_mem, am_fv, am_tk, am_wt, am_bk, Option.toList, List.cons_append, List.nil_append, Nat.reduceAdd, Nat.reduceEqDiff, Nat.reduceLeDiff, reduceIte, Nat.reduceLT, or_self, true_or, or_true, if_true, if_false, and_self, and_true, true_and, not_false_eq_true, not_true_eq_false, fd_Pages_checkSum_0, fd_Pages_checkSum_1, fd_Pages_checkSum_2, fd_Pages_checkSum_5, fd_Pages_checkSum_8, fd_Pages_checkSum_9, fd_Pages_checkSum_10, fd_Pages_checkSum_13, fd_Pages_checkSum_14, fd_Pages_checkSum_17, fd_Pages_checkSum_18, fd_Pages_checkSum_19, fd_Pages_checkSum_22, fd_Pages_checkSum_23, fd_Pages_checkSum_24, fd_Pages_checkSum_26, fd_Pages_checkSum_27, fd_Pages_checkSum_29, fd_Pages_checkSum_31, fd_Pages_checkSum_33, fd_Pages_checkSum_36, fd_Pages_checkSum_38, fd_Pages_checkSum_39, fd_Pages_checkSum_42, fd_Pages_checkSum_43, fd_Pages_checkSum_46, fd_Pages_checkSum_47, fd_Pages_checkSum_49, fd_Pages_checkSum_50, fd_Pages_checkSum_52, fd_Pages_checkSum_53, fd_Pages_checkSum_54, fd_Pages_checkSum_55, fd_Pages_checkSum_57, fd_Pages_checkSum_59, fd_Pages_checkSum_61, fd_Pages_checkSum_62, fd_Pages_checkSum_63, fd_Pages_checkSum_64, fd_Pages_checkSum_65, fd_Pages_checkSum_66, fd_Pages_checkSum_69, fd_Pages_checkSum_70, fd_Pages_checkSum_73, fd_Pages_checkSum_74, fd_Pages_checkSum_75, fd_Pages_checkSum_77, fd_Pages_checkSum_80, fd_Pages_checkSum_83, fd_Pages_checkSum_84, fd_Pages_checkSum_87, fd_Pages_checkSum_88, fd_Pages_checkSum_90, fd_Pages_checkSum_91, q1, q2, one0, e1]
  refine am_call (l2_sumOf q5 (by omega) (by omega)) (fun o h2 q => ?_)
  obtain ⟨rfl, rfl⟩ := q
  simp only [am_wp, am_stp, am_en, am_as, am_pad, am_nth, am_set, am_st1, am_st2, am_kl, am_kill, am_mem, am_fv, am_tk, am_wt, am_bk, Option.toList, List.cons_append, List.nil_append, Nat.reduceAdd, Nat.reduceEqDiff, Nat.reduceLeDiff, reduceIte, Nat.reduceLT, or_self, true_or, or_true, if_true, if_false, and_self, and_true, true_and, not_false_eq_true, not_true_eq_false]
  refine am_go [29] 10 ?_
  simp only [am_wp, am_stp, am_en, am_as, am_pad, am_nth, am_set, am_st1, am_st2, am_kl, am_kill, am_mem, am_fv, am_tk, am_wt, am_bk, Option.toList, List.cons_append, List.nil_append, Nat.reduceAdd, Nat.reduceEqDiff, Nat.reduceLeDiff, reduceIte, Nat.reduceLT, or_self, true_or, or_true, if_true, if_false, and_self, and_true, true_and, not_false_eq_true, not_true_eq_false, fd_Pages_checkSum_0, fd_Pages_checkSum_1, fd_Pages_checkSum_2, fd_Pages_checkSum_5, fd_Pages_checkSum_8, fd_Pages_checkSum_9, fd_Pages_checkSum_10, fd_Pages_checkSum_13, fd_Pages_checkSum_14, fd_Pages_checkSum_17, fd_Pages_checkSum_18, fd_Pages_checkSum_19, fd_Pages_checkSum_22, fd_Pages_checkSum_23, fd_Pages_checkSum_24, fd_Pages_checkSum_26, fd_Pages_checkSum_27, fd_Pages_checkSum_29, fd_Pages_checkSum_31, fd_Pages_checkSum_33, fd_Pages_checkSum_36, fd_Pages_checkSum_38, fd_Pages_checkSum_39, fd_Pages_checkSum_42, fd_Pages_checkSum_43, fd_Pages_checkSum_46, fd_Pages_checkSum_47, fd_Pages_checkSum_49, fd_Pages_checkSum_50, fd_Pages_checkSum_52, fd_Pages_checkSum_53, fd_Pages_checkSum_54, fd_Pages_checkSum_55, fd_Pages_checkSum_57, fd_Pages_checkSum_59, fd_Pages_checkSum_61, fd_Pages_checkSum_62, fd_Pages_checkSum_63, fd_Pages_checkSum_64, fd_Pages_checkSum_65, fd_Pages_checkSum_66, fd_Pages_checkSum_69, fd_Pages_checkSum_70, fd_Pages_checkSum_73, fd_Pages_checkSum_74, fd_Pages_checkSum_75, fd_Pages_checkSum_77, fd_Pages_checkSum_80, fd_Pages_checkSum_83, fd_Pages_checkSum_84, fd_Pages_checkSum_87, fd_Pages_checkSum_88, fd_Pages_checkSum_90, fd_Pages_checkSum_91]
  exact l2_checkSum_loop hp hP ⟨rfl, rfl⟩ 8 0 rfl
