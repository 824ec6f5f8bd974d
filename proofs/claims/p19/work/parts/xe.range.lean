/-! THE REFERENCE'S range -/
theorem rx_rg_copy {d n : Nat} {v : Int32} {f t : Int64} {h : am_H} {Q : am_O → am_H → Prop} (hS : mo_Sk h) (hn : n ≤ 64) (h31 : am_I h 72 31 = nI n) (hx : ∀ g, am_fi [92, 93, 94] h g → tr_S g 92 93 94 (tf (am_L h 74) (am_I h 75) (am_L h 76) 0 n) → am_Ex nm_pr d mt_Mo_range (107, [.ref 72, .int v, .long f, .retAddr 0, .long t, .retAddr 0, .int (nI n), .retAddr 0], [], g) Q) : ∀ (m i : Nat) (g : am_H), m + i = n → am_fi [92, 93, 94] h g → tr_S g 92 93 94 ((tf (am_L h 74) (am_I h 75) (am_L h 76) 0 n).take i) →
    am_Ex nm_pr d mt_Mo_range (50, [.ref 72, .int v, .long f, .retAddr 0, .long t, .retAddr 0, .int (nI i), .retAddr 0], [], g) Q
  | 0, i, g, hm, F, T => by
    have e : i = n := by omega
    subst e
    have k72 := (hS.fi F).1
    have h31' : am_I g 72 31 = nI i := by rw [F.2.2.2.2.2.2.1 72 (by simp)]; exact h31
    have l1 : ¬ nI i < nI i := nI_nlt (Nat.le_refl _) (by omega)
    rw [List.take_of_length_le (by rw [tf_len]; omega)] at T
    refine am_go [59, 107] 4 ?_
    simp only [am_wp, am_stp, am_en, am_as, am_pad, am_nth, am_set, am_st1, am_st2, am_kl, am_kill, am_mem, am_fv, am_tk, am_wt, am_bk, Option.toList, List.cons_append, List.nil_append, Nat.reduceAdd, Nat.reduceEqDiff, Nat.reduceLeDiff, reduceIte, Nat.reduceLT, or_self, true_or, or_true, if_true, if_false, and_self, and_true, true_and, not_false_eq_true, not_true_eq_false, fd_Mo_range_50, fd_Mo_range_52, fd_Mo_range_53, fd_Mo_range_56, k72, h31', l1]
    exact hx g F T
  | m + 1, i, g, hm, F, T => by
    have G := hS.fi F
    obtain ⟨k72, r32, r33, r34, k92, n92, k93, n93, k94, n94⟩ := mo_ky G
    obtain ⟨-, r12, r13, r14, k74, n74, k75, n75, k76, n76⟩ := rt_ar G
    have hi : i < n := by omega
    have hget := tf_get (am_L h 74) (am_I h 75) (am_L h 76) n 0 i hi
    rw [Nat.zero_add] at hget
    have h31' : am_I g 72 31 = nI n := by rw [F.2.2.2.2.2.2.1 72 (by simp)]; exact h31
    have t1 : am_L g 74 i = am_L h 74 i := by rw [F.2.2.2.2.2.2.2 74 (by simp)]
    have t2 : am_I g 75 i = am_I h 75 i := by rw [F.2.2.2.2.2.2.1 75 (by simp)]
    have t3 : am_L g 76 i = am_L h 76 i := by rw [F.2.2.2.2.2.2.2 76 (by simp)]
    have l1 : nI i < nI n := nI_lt hi (by omega)
    have i1 := am_inb (c := i) (N := 45000) (by omega) (by omega)
    have q1 : (nI i).toNatClampNeg = i := nI_clamp (by omega)
    have i2 := am_inb (c := i) (N := 64) (by omega) (by omega)
    refine am_go [59, 107] 4 ?_
    simp only [am_wp, am_stp, am_en, am_as, am_pad, am_nth, am_set, am_st1, am_st2, am_kl, am_kill, am_mem, am_fv, am_tk, am_wt, am_bk, Option.toList, List.cons_append, List.nil_append, Nat.reduceAdd, Nat.reduceEqDiff, Nat.reduceLeDiff, reduceIte, Nat.reduceLT, or_self, true_or, or_true, if_true, if_false, and_self, and_true, true_and, not_false_eq_true, not_true_eq_false, fd_Mo_range_50, fd_Mo_range_52, fd_Mo_range_53, fd_Mo_range_56, k72, h31', l1]
    refine am_go [] 8 ?_
    simp only [am_wp, am_stp, am_en, am_as, am_pad, am_nth, am_set, am_st1, am_st2, am_kl, am_kill, am_mem, am_fv, am_tk, am_wt, am_bk, Option.toList, List.cons_append, List.nil_append, Nat.reduceAdd, Nat.reduceEqDiff, Nat.reduceLeDiff, reduceIte, Nat.reduceLT, or_self, true_or, or_true, if_true, if_false, and_self, and_true, true_and, not_false_eq_true, not_true_eq_false, fd_Mo_range_59, fd_Mo_range_60, fd_Mo_range_63, fd_Mo_range_65, fd_Mo_range_66, fd_Mo_range_69, fd_Mo_range_71, fd_Mo_range_72, k72, r32, r12, k74, n74, i2, q1, t1, k92, n92, i1]
    refine am_go [] 8 ?_
    simp only [am_wp, am_stp, am_en, am_as, am_pad, am_nth, am_set, am_st1, am_st2, am_kl, am_kill, am_mem, am_fv, am_tk, am_wt, am_bk, Option.toList, List.cons_append, List.nil_append, Nat.reduceAdd, Nat.reduceEqDiff, Nat.reduceLeDiff, reduceIte, Nat.reduceLT, or_self, true_or, or_true, if_true, if_false, and_self, and_true, true_and, not_false_eq_true, not_true_eq_false, fd_Mo_range_73, fd_Mo_range_74, fd_Mo_range_77, fd_Mo_range_79, fd_Mo_range_80, fd_Mo_range_83, fd_Mo_range_85, fd_Mo_range_86, hx_nx_sI, hx_ce_sI, hx_sl_sI, hx_kd_sI, hx_ln_sI, hx_I_sI, hx_L_sI, hx_R_sI, hx_nx_sL, hx_ce_sL, hx_sl_sL, hx_kd_sL, hx_ln_sL, hx_I_sL, hx_L_sL, hx_R_sL, hx_nx_sR, hx_ce_sR, hx_sl_sR, hx_kd_sR, hx_ln_sR, hx_I_sR, hx_L_sR, hx_R_sR, hx_nx_al, hx_ce_al, hx_sl_al, hx_kd_al, hx_ln_al, hx_I_al, hx_L_al, hx_R_al, hx_nx_row, hx_ce_row, hx_sl_row, hx_kd_row, hx_ln_row, hx_I_row, hx_L_row, hx_R_row, hx_nx_mk, hx_kd_mk, hx_ln_mk, hx_I_mk, hx_L_mk, hx_R_mk, k72, r33, r13, k75, n75, i2, q1, t2, k93, n93, i1]
    refine am_go [50] 10 ?_
    simp only [am_wp, am_stp, am_en, am_as, am_pad, am_nth, am_set, am_st1, am_st2, am_kl, am_kill, am_mem, am_fv, am_tk, am_wt, am_bk, Option.toList, List.cons_append, List.nil_append, Nat.reduceAdd, Nat.reduceEqDiff, Nat.reduceLeDiff, reduceIte, Nat.reduceLT, or_self, true_or, or_true, if_true, if_false, and_self, and_true, true_and, not_false_eq_true, not_true_eq_false, fd_Mo_range_87, fd_Mo_range_88, fd_Mo_range_91, fd_Mo_range_93, fd_Mo_range_94, fd_Mo_range_97, fd_Mo_range_99, fd_Mo_range_100, fd_Mo_range_101, fd_Mo_range_104, hx_nx_sI, hx_ce_sI, hx_sl_sI, hx_kd_sI, hx_ln_sI, hx_I_sI, hx_L_sI, hx_R_sI, hx_nx_sL, hx_ce_sL, hx_sl_sL, hx_kd_sL, hx_ln_sL, hx_I_sL, hx_L_sL, hx_R_sL, hx_nx_sR, hx_ce_sR, hx_sl_sR, hx_kd_sR, hx_ln_sR, hx_I_sR, hx_L_sR, hx_R_sR, hx_nx_al, hx_ce_al, hx_sl_al, hx_kd_al, hx_ln_al, hx_I_al, hx_L_al, hx_R_al, hx_nx_row, hx_ce_row, hx_sl_row, hx_kd_row, hx_ln_row, hx_I_row, hx_L_row, hx_R_row, hx_nx_mk, hx_kd_mk, hx_ln_mk, hx_I_mk, hx_L_mk, hx_R_mk, k72, r34, r14, k76, n76, i2, q1, t3, k94, n94, i1, nI_1]
    have hlt : ((tf (am_L h 74) (am_I h 75) (am_L h 76) 0 n).take i).length = i := by rw [List.length_take, tf_len]; omega
    refine rx_rg_copy hS hn h31 hx m (i + 1) _ (by omega) (((F.sL (by simp)).sI (by simp)).sL (by simp)) ?_
    rw [take_snoc hget]
    refine T.snoc (fun j hj => ?_) ?_ ?_ ?_
    · rw [hlt] at hj
      refine ⟨?_, ?_, ?_⟩
      · simp only [hx_nx_sI, hx_ce_sI, hx_sl_sI, hx_kd_sI, hx_ln_sI, hx_I_sI, hx_L_sI, hx_R_sI, hx_nx_sL, hx_ce_sL, hx_sl_sL, hx_kd_sL, hx_ln_sL, hx_I_sL, hx_L_sL, hx_R_sL, hx_nx_sR, hx_ce_sR, hx_sl_sR, hx_kd_sR, hx_ln_sR, hx_I_sR, hx_L_sR, hx_R_sR, hx_nx_al, hx_ce_al, hx_sl_al, hx_kd_al, hx_ln_al, hx_I_al, hx_L_al, hx_R_al, hx_nx_row, hx_ce_row, hx_sl_row, hx_kd_row, hx_ln_row, hx_I_row, hx_L_row, hx_R_row, hx_nx_mk, hx_kd_mk, hx_ln_mk, hx_I_mk, hx_L_mk, hx_R_mk, am_wp, am_stp, am_en, am_as, am_pad, am_nth, am_set, am_st1, am_st2, am_kl, am_kill, am_mem, am_fv, am_tk, am_wt, am_bk, Option.toList, List.cons_append, List.nil_append, Nat.reduceAdd, Nat.reduceEqDiff, Nat.reduceLeDiff, reduceIte, Nat.reduceLT, or_self, true_or, or_true, if_true, if_false, and_self, and_true, true_and, not_false_eq_true, not_true_eq_false]; rw [if_neg (by omega)]
      · simp only [hx_nx_sI, hx_ce_sI, hx_sl_sI, hx_kd_sI, hx_ln_sI, hx_I_sI, hx_L_sI, hx_R_sI, hx_nx_sL, hx_ce_sL, hx_sl_sL, hx_kd_sL, hx_ln_sL, hx_I_sL, hx_L_sL, hx_R_sL, hx_nx_sR, hx_ce_sR, hx_sl_sR, hx_kd_sR, hx_ln_sR, hx_I_sR, hx_L_sR, hx_R_sR, hx_nx_al, hx_ce_al, hx_sl_al, hx_kd_al, hx_ln_al, hx_I_al, hx_L_al, hx_R_al, hx_nx_row, hx_ce_row, hx_sl_row, hx_kd_row, hx_ln_row, hx_I_row, hx_L_row, hx_R_row, hx_nx_mk, hx_kd_mk, hx_ln_mk, hx_I_mk, hx_L_mk, hx_R_mk, am_wp, am_stp, am_en, am_as, am_pad, am_nth, am_set, am_st1, am_st2, am_kl, am_kill, am_mem, am_fv, am_tk, am_wt, am_bk, Option.toList, List.cons_append, List.nil_append, Nat.reduceAdd, Nat.reduceEqDiff, Nat.reduceLeDiff, reduceIte, Nat.reduceLT, or_self, true_or, or_true, if_true, if_false, and_self, and_true, true_and, not_false_eq_true, not_true_eq_false]; rw [if_neg (by omega)]
      · simp only [hx_nx_sI, hx_ce_sI, hx_sl_sI, hx_kd_sI, hx_ln_sI, hx_I_sI, hx_L_sI, hx_R_sI, hx_nx_sL, hx_ce_sL, hx_sl_sL, hx_kd_sL, hx_ln_sL, hx_I_sL, hx_L_sL, hx_R_sL, hx_nx_sR, hx_ce_sR, hx_sl_sR, hx_kd_sR, hx_ln_sR, hx_I_sR, hx_L_sR, hx_R_sR, hx_nx_al, hx_ce_al, hx_sl_al, hx_kd_al, hx_ln_al, hx_I_al, hx_L_al, hx_R_al, hx_nx_row, hx_ce_row, hx_sl_row, hx_kd_row, hx_ln_row, hx_I_row, hx_L_row, hx_R_row, hx_nx_mk, hx_kd_mk, hx_ln_mk, hx_I_mk, hx_L_mk, hx_R_mk, am_wp, am_stp, am_en, am_as, am_pad, am_nth, am_set, am_st1, am_st2, am_kl, am_kill, am_mem, am_fv, am_tk, am_wt, am_bk, Option.toList, List.cons_append, List.nil_append, Nat.reduceAdd, Nat.reduceEqDiff, Nat.reduceLeDiff, reduceIte, Nat.reduceLT, or_self, true_or, or_true, if_true, if_false, and_self, and_true, true_and, not_false_eq_true, not_true_eq_false]; rw [if_neg (by omega)]
    · rw [hlt]; simp only [hx_nx_sI, hx_ce_sI, hx_sl_sI, hx_kd_sI, hx_ln_sI, hx_I_sI, hx_L_sI, hx_R_sI, hx_nx_sL, hx_ce_sL, hx_sl_sL, hx_kd_sL, hx_ln_sL, hx_I_sL, hx_L_sL, hx_R_sL, hx_nx_sR, hx_ce_sR, hx_sl_sR, hx_kd_sR, hx_ln_sR, hx_I_sR, hx_L_sR, hx_R_sR, hx_nx_al, hx_ce_al, hx_sl_al, hx_kd_al, hx_ln_al, hx_I_al, hx_L_al, hx_R_al, hx_nx_row, hx_ce_row, hx_sl_row, hx_kd_row, hx_ln_row, hx_I_row, hx_L_row, hx_R_row, hx_nx_mk, hx_kd_mk, hx_ln_mk, hx_I_mk, hx_L_mk, hx_R_mk, am_wp, am_stp, am_en, am_as, am_pad, am_nth, am_set, am_st1, am_st2, am_kl, am_kill, am_mem, am_fv, am_tk, am_wt, am_bk, Option.toList, List.cons_append, List.nil_append, Nat.reduceAdd, Nat.reduceEqDiff, Nat.reduceLeDiff, reduceIte, Nat.reduceLT, or_self, true_or, or_true, if_true, if_false, and_self, and_true, true_and, not_false_eq_true, not_true_eq_false]
    · rw [hlt]; simp only [hx_nx_sI, hx_ce_sI, hx_sl_sI, hx_kd_sI, hx_ln_sI, hx_I_sI, hx_L_sI, hx_R_sI, hx_nx_sL, hx_ce_sL, hx_sl_sL, hx_kd_sL, hx_ln_sL, hx_I_sL, hx_L_sL, hx_R_sL, hx_nx_sR, hx_ce_sR, hx_sl_sR, hx_kd_sR, hx_ln_sR, hx_I_sR, hx_L_sR, hx_R_sR, hx_nx_al, hx_ce_al, hx_sl_al, hx_kd_al, hx_ln_al, hx_I_al, hx_L_al, hx_R_al, hx_nx_row, hx_ce_row, hx_sl_row, hx_kd_row, hx_ln_row, hx_I_row, hx_L_row, hx_R_row, hx_nx_mk, hx_kd_mk, hx_ln_mk, hx_I_mk, hx_L_mk, hx_R_mk, am_wp, am_stp, am_en, am_as, am_pad, am_nth, am_set, am_st1, am_st2, am_kl, am_kill, am_mem, am_fv, am_tk, am_wt, am_bk, Option.toList, List.cons_append, List.nil_append, Nat.reduceAdd, Nat.reduceEqDiff, Nat.reduceLeDiff, reduceIte, Nat.reduceLT, or_self, true_or, or_true, if_true, if_false, and_self, and_true, true_and, not_false_eq_true, not_true_eq_false]
    · rw [hlt]; simp only [hx_nx_sI, hx_ce_sI, hx_sl_sI, hx_kd_sI, hx_ln_sI, hx_I_sI, hx_L_sI, hx_R_sI, hx_nx_sL, hx_ce_sL, hx_sl_sL, hx_kd_sL, hx_ln_sL, hx_I_sL, hx_L_sL, hx_R_sL, hx_nx_sR, hx_ce_sR, hx_sl_sR, hx_kd_sR, hx_ln_sR, hx_I_sR, hx_L_sR, hx_R_sR, hx_nx_al, hx_ce_al, hx_sl_al, hx_kd_al, hx_ln_al, hx_I_al, hx_L_al, hx_R_al, hx_nx_row, hx_ce_row, hx_sl_row, hx_kd_row, hx_ln_row, hx_I_row, hx_L_row, hx_R_row, hx_nx_mk, hx_kd_mk, hx_ln_mk, hx_I_mk, hx_L_mk, hx_R_mk, am_wp, am_stp, am_en, am_as, am_pad, am_nth, am_set, am_st1, am_st2, am_kl, am_kill, am_mem, am_fv, am_tk, am_wt, am_bk, Option.toList, List.cons_append, List.nil_append, Nat.reduceAdd, Nat.reduceEqDiff, Nat.reduceLeDiff, reduceIte, Nat.reduceLT, or_self, true_or, or_true, if_true, if_false, and_self, and_true, true_and, not_false_eq_true, not_true_eq_false]
theorem rC.s45 {P r : Nat} {h : am_H} (C : rC P h) (hr : r ≤ 200) : rC P (am_sI h 72 45 (nI r)) := by
  have F : am_fi [72] h (am_sI h 72 45 (nI r)) := am_fi.refl.sI (by simp)
  have vj : ∀ j, j ≠ 45 → am_I (am_sI h 72 45 (nI r)) 72 j = am_I h 72 j := fun j hj => by rw [hx_I_sI, if_pos rfl, if_neg hj]
  have v45 : am_I (am_sI h 72 45 (nI r)) 72 45 = nI r := by rw [hx_I_sI, if_pos rfl, if_pos rfl]
  generalize am_sI h 72 45 (nI r) = g at *
  obtain ⟨c1, c2, c3, c4, c5, -, c10, cB⟩ := C
  refine ⟨c1.fi F, c2, c3, (vj 1 (by decide)).trans c4, by rw [vj 8 (by decide), vj 9 (by decide)]; exact c5, ⟨r, hr, v45⟩, ?_, cB.eq (F.2.2.2.2.2.2.1 73 (by decide))⟩
  rw [vj 11 (by decide), F.2.2.2.2.2.2.2 74 (by decide), F.2.2.2.2.2.2.1 75 (by decide), F.2.2.2.2.2.2.2 76 (by decide)]; exact c10
theorem vq.s45 {P r : Nat} {E : Nat → List ent} {now : List Nat} {mk : Nat → List Nat} {v : Int32} {l : List Nat} {h g : am_H} (c : vq P E now mk v l h g) (hr : r ≤ 200) : vq P E now mk v l h (am_sI g 72 45 (nI r)) := by
  obtain ⟨c1, c2, c3, c4, c5⟩ := c
  have F : am_fi [72] g (am_sI g 72 45 (nI r)) := am_fi.refl.sI (by simp)
  have vj : ∀ j, j ≠ 45 → am_I (am_sI g 72 45 (nI r)) 72 j = am_I g 72 j := fun j hj => by rw [hx_I_sI, if_pos rfl, if_neg hj]
  have C' := c2.s45 hr
  have R' := c3.f2 c2.2.2.1 F (by decide) (vj 3 (by decide)) (vj 24 (by decide))
  refine ⟨⟨⟨C', E, now, mk, R'⟩, c1.2.trans (F.sub (by decide))⟩, C', R', ?_, c5⟩
  unfold vv
  rw [vj 24 (by decide), F.2.2.2.2.2.2.1 86 (by decide), F.2.2.2.2.2.2.1 88 (by decide), F.2.2.2.2.2.2.1 89 (by decide)]
  exact c4
theorem rx_rg_scan {d P c : Nat} {v : Int32} {f t : Int64} {E : Nat → List ent} {now : List Nat} {mk : Nat → List Nat} {l : List Nat} {h : am_H} (hc : c < 45000) : ∀ (m i n : Nat) (g : am_H), m + i = c → n ≤ i → vq P E now mk v l h g → am_I g 72 31 = nI c →
    am_Ex nm_pr (d + 4) mt_Mo_range (154, [.ref 72, .int v, .long f, .retAddr 0, .long t, .retAddr 0, .int (nI n), .int (nI i)], [], g) (fun o h' => iany o ∧ rq P h h')
  | 0, i, n, g, hm, hn, q, h31 => by
    have S := q.2.1.1
    have e : i = c := by omega
    subst e
    have l1 : ¬ nI i < nI i := nI_nlt (Nat.le_refl _) (by omega)
    have fin : ∀ r, r ≤ 200 → am_Ex nm_pr (d + 4) mt_Mo_range (261, [.ref 72, .int v, .long f, .retAddr 0, .long t, .retAddr 0, .int (nI n), .int (nI i)], [.int (nI r), .ref 72], g) (fun o h' => iany o ∧ rq P h h') := fun r hr => by
      refine am_go [264] 1 ?_
      simp only [am_wp, am_stp, am_en, am_as, am_pad, am_nth, am_set, am_st1, am_st2, am_kl, am_kill, am_mem, am_fv, am_tk, am_wt, am_bk, Option.toList, List.cons_append, List.nil_append, Nat.reduceAdd, Nat.reduceEqDiff, Nat.reduceLeDiff, reduceIte, Nat.reduceLT, or_self, true_or, or_true, if_true, if_false, and_self, and_true, true_and, not_false_eq_true, not_true_eq_false, fd_Mo_range_261, S.all]
      have q2 := q.s45 (r := r) hr
      generalize am_sI g 72 45 (nI r) = g2 at *
      have S2 := q2.2.1.1
      refine am_go [269] 3 ?_
      simp only [am_wp, am_stp, am_en, am_as, am_pad, am_nth, am_set, am_st1, am_st2, am_kl, am_kill, am_mem, am_fv, am_tk, am_wt, am_bk, Option.toList, List.cons_append, List.nil_append, Nat.reduceAdd, Nat.reduceEqDiff, Nat.reduceLeDiff, reduceIte, Nat.reduceLT, or_self, true_or, or_true, if_true, if_false, and_self, and_true, true_and, not_false_eq_true, not_true_eq_false, fd_Mo_range_264, fd_Mo_range_265, fd_Mo_range_266, S2.all]
      have q3 := q2.s (j := 10) (x := 1) (by unfold rJ; omega)
      generalize am_sI g2 72 10 1 = g3 at *
      have S3 := q3.2.1.1
      refine am_go [] 2 ?_
      simp only [am_wp, am_stp, am_en, am_as, am_pad, am_nth, am_set, am_st1, am_st2, am_kl, am_kill, am_mem, am_fv, am_tk, am_wt, am_bk, Option.toList, List.cons_append, List.nil_append, Nat.reduceAdd, Nat.reduceEqDiff, Nat.reduceLeDiff, reduceIte, Nat.reduceLT, or_self, true_or, or_true, if_true, if_false, and_self, and_true, true_and, not_false_eq_true, not_true_eq_false, fd_Mo_range_269, fd_Mo_range_271, S3.all]
      exact ⟨⟨_, rfl⟩, q3.1⟩
    refine am_go [163, 244] 4 ?_
    simp only [am_wp, am_stp, am_en, am_as, am_pad, am_nth, am_set, am_st1, am_st2, am_kl, am_kill, am_mem, am_fv, am_tk, am_wt, am_bk, Option.toList, List.cons_append, List.nil_append, Nat.reduceAdd, Nat.reduceEqDiff, Nat.reduceLeDiff, reduceIte, Nat.reduceLT, or_self, true_or, or_true, if_true, if_false, and_self, and_true, true_and, not_false_eq_true, not_true_eq_false, fd_Mo_range_154, fd_Mo_range_156, fd_Mo_range_157, fd_Mo_range_160, S.all, h31, l1]
    by_cases h2 : n < 200
    · have l2 : nI n < 200 := nI_lt (b := 200) h2 (by decide)
      refine am_go [253, 258] 4 ?_
      simp only [am_wp, am_stp, am_en, am_as, am_pad, am_nth, am_set, am_st1, am_st2, am_kl, am_kill, am_mem, am_fv, am_tk, am_wt, am_bk, Option.toList, List.cons_append, List.nil_append, Nat.reduceAdd, Nat.reduceEqDiff, Nat.reduceLeDiff, reduceIte, Nat.reduceLT, or_self, true_or, or_true, if_true, if_false, and_self, and_true, true_and, not_false_eq_true, not_true_eq_false, fd_Mo_range_244, fd_Mo_range_245, fd_Mo_range_247, fd_Mo_range_250, S.all, l2]
      refine am_go [261] 2 ?_
      simp only [am_wp, am_stp, am_en, am_as, am_pad, am_nth, am_set, am_st1, am_st2, am_kl, am_kill, am_mem, am_fv, am_tk, am_wt, am_bk, Option.toList, List.cons_append, List.nil_append, Nat.reduceAdd, Nat.reduceEqDiff, Nat.reduceLeDiff, reduceIte, Nat.reduceLT, or_self, true_or, or_true, if_true, if_false, and_self, and_true, true_and, not_false_eq_true, not_true_eq_false, fd_Mo_range_253, fd_Mo_range_255, S.all]
      exact fin n (by omega)
    · have l2 : ¬ nI n < 200 := nI_nlt (b := 200) (by omega) (by omega)
      refine am_go [253, 258] 4 ?_
      simp only [am_wp, am_stp, am_en, am_as, am_pad, am_nth, am_set, am_st1, am_st2, am_kl, am_kill, am_mem, am_fv, am_tk, am_wt, am_bk, Option.toList, List.cons_append, List.nil_append, Nat.reduceAdd, Nat.reduceEqDiff, Nat.reduceLeDiff, reduceIte, Nat.reduceLT, or_self, true_or, or_true, if_true, if_false, and_self, and_true, true_and, not_false_eq_true, not_true_eq_false, fd_Mo_range_244, fd_Mo_range_245, fd_Mo_range_247, fd_Mo_range_250, S.all, l2]
      refine am_go [261] 1 ?_
      simp only [am_wp, am_stp, am_en, am_as, am_pad, am_nth, am_set, am_st1, am_st2, am_kl, am_kill, am_mem, am_fv, am_tk, am_wt, am_bk, Option.toList, List.cons_append, List.nil_append, Nat.reduceAdd, Nat.reduceEqDiff, Nat.reduceLeDiff, reduceIte, Nat.reduceLT, or_self, true_or, or_true, if_true, if_false, and_self, and_true, true_and, not_false_eq_true, not_true_eq_false, fd_Mo_range_258, S.all]
      exact fin 200 (Nat.le_refl _)
  | m + 1, i, n, g, hm, hn, q, h31 => by
    have S := q.2.1.1
    have l1 : nI i < nI c := nI_lt (by omega) (by omega)
    have i1 := am_inb (c := i) (N := 45000) (by omega) (by omega)
    have q1 : (nI i).toNatClampNeg = i := nI_clamp (by omega)
    have next : ∀ (n : Nat) g, n ≤ i + 1 → vq P E now mk v l h g → am_I g 72 31 = nI c → am_Ex nm_pr (d + 4) mt_Mo_range (238, [.ref 72, .int v, .long f, .retAddr 0, .long t, .retAddr 0, .int (nI n), .int (nI i)], [], g) (fun o h' => iany o ∧ rq P h h') := fun n g hn q h31 => by
      have S := q.2.1.1
      refine am_go [154] 2 ?_
      simp only [am_wp, am_stp, am_en, am_as, am_pad, am_nth, am_set, am_st1, am_st2, am_kl, am_kill, am_mem, am_fv, am_tk, am_wt, am_bk, Option.toList, List.cons_append, List.nil_append, Nat.reduceAdd, Nat.reduceEqDiff, Nat.reduceLeDiff, reduceIte, Nat.reduceLT, or_self, true_or, or_true, if_true, if_false, and_self, and_true, true_and, not_false_eq_true, not_true_eq_false, fd_Mo_range_238, fd_Mo_range_241, S.all, nI_1]
      exact rx_rg_scan hc m (i + 1) n g (by omega) hn q h31
    have inc : ∀ g, vq P E now mk v l h g → am_I g 72 31 = nI c → am_Ex nm_pr (d + 4) mt_Mo_range (235, [.ref 72, .int v, .long f, .retAddr 0, .long t, .retAddr 0, .int (nI n), .int (nI i)], [], g) (fun o h' => iany o ∧ rq P h h') := fun g q h31 => by
      have S := q.2.1.1
      refine am_go [238] 1 ?_
      simp only [am_wp, am_stp, am_en, am_as, am_pad, am_nth, am_set, am_st1, am_st2, am_kl, am_kill, am_mem, am_fv, am_tk, am_wt, am_bk, Option.toList, List.cons_append, List.nil_append, Nat.reduceAdd, Nat.reduceEqDiff, Nat.reduceLeDiff, reduceIte, Nat.reduceLT, or_self, true_or, or_true, if_true, if_false, and_self, and_true, true_and, not_false_eq_true, not_true_eq_false, fd_Mo_range_235, S.all, nI_1]
      exact next (n + 1) g (by omega) q h31
    refine am_go [163, 244] 4 ?_
    simp only [am_wp, am_stp, am_en, am_as, am_pad, am_nth, am_set, am_st1, am_st2, am_kl, am_kill, am_mem, am_fv, am_tk, am_wt, am_bk, Option.toList, List.cons_append, List.nil_append, Nat.reduceAdd, Nat.reduceEqDiff, Nat.reduceLeDiff, reduceIte, Nat.reduceLT, or_self, true_or, or_true, if_true, if_false, and_self, and_true, true_and, not_false_eq_true, not_true_eq_false, fd_Mo_range_154, fd_Mo_range_156, fd_Mo_range_157, fd_Mo_range_160, S.all, h31, l1]
    refine am_go [175, 238] 7 ?_
    simp only [am_wp, am_stp, am_en, am_as, am_pad, am_nth, am_set, am_st1, am_st2, am_kl, am_kill, am_mem, am_fv, am_tk, am_wt, am_bk, Option.toList, List.cons_append, List.nil_append, Nat.reduceAdd, Nat.reduceEqDiff, Nat.reduceLeDiff, reduceIte, Nat.reduceLT, or_self, true_or, or_true, if_true, if_false, and_self, and_true, true_and, not_false_eq_true, not_true_eq_false, fd_Mo_range_163, fd_Mo_range_164, fd_Mo_range_167, fd_Mo_range_169, fd_Mo_range_170, fd_Mo_range_171, fd_Mo_range_172, S.all, i1, q1]
    refine wif (next n g (by omega) q h31) ?_
    refine am_go [188, 238] 7 ?_
    simp only [am_wp, am_stp, am_en, am_as, am_pad, am_nth, am_set, am_st1, am_st2, am_kl, am_kill, am_mem, am_fv, am_tk, am_wt, am_bk, Option.toList, List.cons_append, List.nil_append, Nat.reduceAdd, Nat.reduceEqDiff, Nat.reduceLeDiff, reduceIte, Nat.reduceLT, or_self, true_or, or_true, if_true, if_false, and_self, and_true, true_and, not_false_eq_true, not_true_eq_false, fd_Mo_range_175, fd_Mo_range_176, fd_Mo_range_179, fd_Mo_range_181, fd_Mo_range_182, fd_Mo_range_184, fd_Mo_range_185, S.all, i1, q1]
    refine wif (next n g (by omega) q h31) ?_
    refine am_go [199, 238] 6 ?_
    simp only [am_wp, am_stp, am_en, am_as, am_pad, am_nth, am_set, am_st1, am_st2, am_kl, am_kill, am_mem, am_fv, am_tk, am_wt, am_bk, Option.toList, List.cons_append, List.nil_append, Nat.reduceAdd, Nat.reduceEqDiff, Nat.reduceLeDiff, reduceIte, Nat.reduceLT, or_self, true_or, or_true, if_true, if_false, and_self, and_true, true_and, not_false_eq_true, not_true_eq_false, fd_Mo_range_188, fd_Mo_range_189, fd_Mo_range_192, fd_Mo_range_194, fd_Mo_range_195, fd_Mo_range_196, S.all, i1, q1]
    refine wif (next n g (by omega) q h31) ?_
    by_cases h2 : n < 200
    · have l2 : nI n < 200 := nI_lt (b := 200) h2 (by decide)
      have i2 := am_inb (c := n) (N := 200) (by omega) (by omega)
      have q2 : (nI n).toNatClampNeg = n := nI_clamp (by omega)
      refine am_go [207, 235] 3 ?_
      simp only [am_wp, am_stp, am_en, am_as, am_pad, am_nth, am_set, am_st1, am_st2, am_kl, am_kill, am_mem, am_fv, am_tk, am_wt, am_bk, Option.toList, List.cons_append, List.nil_append, Nat.reduceAdd, Nat.reduceEqDiff, Nat.reduceLeDiff, reduceIte, Nat.reduceLT, or_self, true_or, or_true, if_true, if_false, and_self, and_true, true_and, not_false_eq_true, not_true_eq_false, fd_Mo_range_199, fd_Mo_range_201, fd_Mo_range_204, S.all, l2]
      refine am_go [221] 8 ?_
      simp only [am_wp, am_stp, am_en, am_as, am_pad, am_nth, am_set, am_st1, am_st2, am_kl, am_kill, am_mem, am_fv, am_tk, am_wt, am_bk, Option.toList, List.cons_append, List.nil_append, Nat.reduceAdd, Nat.reduceEqDiff, Nat.reduceLeDiff, reduceIte, Nat.reduceLT, or_self, true_or, or_true, if_true, if_false, and_self, and_true, true_and, not_false_eq_true, not_true_eq_false, fd_Mo_range_207, fd_Mo_range_208, fd_Mo_range_211, fd_Mo_range_213, fd_Mo_range_214, fd_Mo_range_217, fd_Mo_range_219, fd_Mo_range_220, S.all, i1, q1, i2, q2]
      have f2 : am_fi [104] g (am_sL g 104 n (am_L g 92 i)) := am_fi.refl.sL (by simp)
      have Q2 := q.fr f2 (by simp [rB]) (fun j _ => rfl)
      have h312 : am_I (am_sL g 104 n (am_L g 92 i)) 72 31 = nI c := h31
      generalize am_sL g 104 n (am_L g 92 i) = g2 at *
      have S2 := Q2.2.1.1
      refine am_go [235] 8 ?_
      simp only [am_wp, am_stp, am_en, am_as, am_pad, am_nth, am_set, am_st1, am_st2, am_kl, am_kill, am_mem, am_fv, am_tk, am_wt, am_bk, Option.toList, List.cons_append, List.nil_append, Nat.reduceAdd, Nat.reduceEqDiff, Nat.reduceLeDiff, reduceIte, Nat.reduceLT, or_self, true_or, or_true, if_true, if_false, and_self, and_true, true_and, not_false_eq_true, not_true_eq_false, fd_Mo_range_221, fd_Mo_range_222, fd_Mo_range_225, fd_Mo_range_227, fd_Mo_range_228, fd_Mo_range_231, fd_Mo_range_233, fd_Mo_range_234, S2.all, i1, q1, i2, q2]
      have f3 : am_fi [105] g2 (am_sL g2 105 n (am_L g2 94 i)) := am_fi.refl.sL (by simp)
      exact inc _ (Q2.fr f3 (by simp [rB]) (fun j _ => rfl)) h312
    · have l2 : ¬ nI n < 200 := nI_nlt (b := 200) (by omega) (by omega)
      refine am_go [207, 235] 3 ?_
      simp only [am_wp, am_stp, am_en, am_as, am_pad, am_nth, am_set, am_st1, am_st2, am_kl, am_kill, am_mem, am_fv, am_tk, am_wt, am_bk, Option.toList, List.cons_append, List.nil_append, Nat.reduceAdd, Nat.reduceEqDiff, Nat.reduceLeDiff, reduceIte, Nat.reduceLT, or_self, true_or, or_true, if_true, if_false, and_self, and_true, true_and, not_false_eq_true, not_true_eq_false, fd_Mo_range_199, fd_Mo_range_201, fd_Mo_range_204, S.all, l2]
      exact inc g q h31
theorem rx_rg_runs {d P : Nat} {v : Int32} {f t : Int64} {E : Nat → List ent} {now : List Nat} {mk : Nat → List Nat} {l : List Nat} {T : List ent} {h : am_H} (hT : T.length ≤ 64) : ∀ (m r : Nat) (w7 : Value) (M : List ent) (g : am_H), m + r = l.length → vq P E now mk v l h g → ky_S g M → kl (kB P E T) M →
    am_Ex nm_pr (d + 4) mt_Mo_range (110, [.ref 72, .int v, .long f, .retAddr 0, .long t, .retAddr 0, .int (nI r), w7], [], g) (fun o h' => iany o ∧ rq P h h')
  | 0, r, w7, M, g, hm, q, K, kM => by
    have S := q.2.1.1
    have l9 := q.2.2.2.1.1
    have hl := kM.len q.2.1.2.2.1 hT
    have e : r = l.length := by omega
    subst e
    have l1 : ¬ nI l.length < nI l.length := nI_nlt (Nat.le_refl _) (by omega)
    refine am_go [] 4 ?_
    simp only [am_wp, am_stp, am_en, am_as, am_pad, am_nth, am_set, am_st1, am_st2, am_kl, am_kill, am_mem, am_fv, am_tk, am_wt, am_bk, Option.toList, List.cons_append, List.nil_append, Nat.reduceAdd, Nat.reduceEqDiff, Nat.reduceLeDiff, reduceIte, Nat.reduceLT, or_self, true_or, or_true, if_true, if_false, and_self, and_true, true_and, not_false_eq_true, not_true_eq_false, fd_Mo_range_110, fd_Mo_range_112, fd_Mo_range_113, fd_Mo_range_114, S.all]
    refine am_call (rx_runsOf (d := d + 3) S q.2.2.2.1) (fun o g1 w => ?_)
    obtain ⟨rfl, rfl⟩ := w
    simp only [am_wp, am_stp, am_en, am_as, am_pad, am_nth, am_set, am_st1, am_st2, am_kl, am_kill, am_mem, am_fv, am_tk, am_wt, am_bk, Option.toList, List.cons_append, List.nil_append, Nat.reduceAdd, Nat.reduceEqDiff, Nat.reduceLeDiff, reduceIte, Nat.reduceLT, or_self, true_or, or_true, if_true, if_false, and_self, and_true, true_and, not_false_eq_true, not_true_eq_false]
    refine am_go [120, 148] 1 ?_
    simp only [am_wp, am_stp, am_en, am_as, am_pad, am_nth, am_set, am_st1, am_st2, am_kl, am_kill, am_mem, am_fv, am_tk, am_wt, am_bk, Option.toList, List.cons_append, List.nil_append, Nat.reduceAdd, Nat.reduceEqDiff, Nat.reduceLeDiff, reduceIte, Nat.reduceLT, or_self, true_or, or_true, if_true, if_false, and_self, and_true, true_and, not_false_eq_true, not_true_eq_false, fd_Mo_range_117, S.all, l1]
    refine am_go [154] 4 ?_
    simp only [am_wp, am_stp, am_en, am_as, am_pad, am_nth, am_set, am_st1, am_st2, am_kl, am_kill, am_mem, am_fv, am_tk, am_wt, am_bk, Option.toList, List.cons_append, List.nil_append, Nat.reduceAdd, Nat.reduceEqDiff, Nat.reduceLeDiff, reduceIte, Nat.reduceLT, or_self, true_or, or_true, if_true, if_false, and_self, and_true, true_and, not_false_eq_true, not_true_eq_false, fd_Mo_range_148, fd_Mo_range_149, fd_Mo_range_151, fd_Mo_range_152]
    exact rx_rg_scan (by omega) M.length 0 0 g1 (by omega) (Nat.le_refl _) q K.2.1
  | m + 1, r, w7, M, g, hm, q, K, kM => by
    obtain ⟨c1, c2, c3, c4, c5⟩ := id q
    have S := c2.1
    have l9 := c4.1
    have l1 : nI r < nI l.length := nI_lt (by omega) (by omega)
    obtain ⟨s, hs⟩ : ∃ s, l[r]? = some s := ⟨l[r]'(by omega), List.getElem?_eq_getElem (by omega)⟩
    refine am_go [] 4 ?_
    simp only [am_wp, am_stp, am_en, am_as, am_pad, am_nth, am_set, am_st1, am_st2, am_kl, am_kill, am_mem, am_fv, am_tk, am_wt, am_bk, Option.toList, List.cons_append, List.nil_append, Nat.reduceAdd, Nat.reduceEqDiff, Nat.reduceLeDiff, reduceIte, Nat.reduceLT, or_self, true_or, or_true, if_true, if_false, and_self, and_true, true_and, not_false_eq_true, not_true_eq_false, fd_Mo_range_110, fd_Mo_range_112, fd_Mo_range_113, fd_Mo_range_114, S.all]
    refine am_call (rx_runsOf (d := d + 3) S c4) (fun o g1 w => ?_)
    obtain ⟨rfl, rfl⟩ := w
    simp only [am_wp, am_stp, am_en, am_as, am_pad, am_nth, am_set, am_st1, am_st2, am_kl, am_kill, am_mem, am_fv, am_tk, am_wt, am_bk, Option.toList, List.cons_append, List.nil_append, Nat.reduceAdd, Nat.reduceEqDiff, Nat.reduceLeDiff, reduceIte, Nat.reduceLT, or_self, true_or, or_true, if_true, if_false, and_self, and_true, true_and, not_false_eq_true, not_true_eq_false]
    refine am_go [120, 148] 1 ?_
    simp only [am_wp, am_stp, am_en, am_as, am_pad, am_nth, am_set, am_st1, am_st2, am_kl, am_kill, am_mem, am_fv, am_tk, am_wt, am_bk, Option.toList, List.cons_append, List.nil_append, Nat.reduceAdd, Nat.reduceEqDiff, Nat.reduceLeDiff, reduceIte, Nat.reduceLT, or_self, true_or, or_true, if_true, if_false, and_self, and_true, true_and, not_false_eq_true, not_true_eq_false, fd_Mo_range_117, S.all, l1]
    refine am_go [] 5 ?_
    simp only [am_wp, am_stp, am_en, am_as, am_pad, am_nth, am_set, am_st1, am_st2, am_kl, am_kill, am_mem, am_fv, am_tk, am_wt, am_bk, Option.toList, List.cons_append, List.nil_append, Nat.reduceAdd, Nat.reduceEqDiff, Nat.reduceLeDiff, reduceIte, Nat.reduceLT, or_self, true_or, or_true, if_true, if_false, and_self, and_true, true_and, not_false_eq_true, not_true_eq_false, fd_Mo_range_120, fd_Mo_range_121, fd_Mo_range_122, fd_Mo_range_123, fd_Mo_range_125, S.all]
    refine am_call (rx_runOf (d := d + 3) S c4 hs) (fun o g2 w => ?_)
    obtain ⟨rfl, rfl⟩ := w
    simp only [am_wp, am_stp, am_en, am_as, am_pad, am_nth, am_set, am_st1, am_st2, am_kl, am_kill, am_mem, am_fv, am_tk, am_wt, am_bk, Option.toList, List.cons_append, List.nil_append, Nat.reduceAdd, Nat.reduceEqDiff, Nat.reduceLeDiff, reduceIte, Nat.reduceLT, or_self, true_or, or_true, if_true, if_false, and_self, and_true, true_and, not_false_eq_true, not_true_eq_false]
    refine am_go [] 1 ?_
    simp only [am_wp, am_stp, am_en, am_as, am_pad, am_nth, am_set, am_st1, am_st2, am_kl, am_kill, am_mem, am_fv, am_tk, am_wt, am_bk, Option.toList, List.cons_append, List.nil_append, Nat.reduceAdd, Nat.reduceEqDiff, Nat.reduceLeDiff, reduceIte, Nat.reduceLT, or_self, true_or, or_true, if_true, if_false, and_self, and_true, true_and, not_false_eq_true, not_true_eq_false, fd_Mo_range_128, S.all]
    refine am_call (rx_bel (d := d + 1) c2.2.2.1 hT K kM (c3.2.2.1.2 s (c5 s (List.mem_of_getElem? hs)))) (fun o g3 w => ?_)
    obtain ⟨F1, vv1, w⟩ := w
    have vJ : ∀ j, rJ j → am_I g3 72 j = am_I g2 72 j := fun j hj => vv1 j (rJ_ne hj).2.2.2.1 (rJ_ne hj).2.2.2.2.2.2.1 (rJ_ne hj).2.2.2.2.2.2.2.1
    have q3 := q.fr F1 (by simp [rB]) vJ
    have S3 := S.fi F1
    rcases w with ⟨rfl, M1, K1, kM1⟩ | ⟨p, hp, rfl⟩
    · simp only [am_wp, am_stp, am_en, am_as, am_pad, am_nth, am_set, am_st1, am_st2, am_kl, am_kill, am_mem, am_fv, am_tk, am_wt, am_bk, Option.toList, List.cons_append, List.nil_append, Nat.reduceAdd, Nat.reduceEqDiff, Nat.reduceLeDiff, reduceIte, Nat.reduceLT, or_self, true_or, or_true, if_true, if_false, and_self, and_true, true_and, not_false_eq_true, not_true_eq_false]
      refine am_go [135, 142] 2 ?_
      simp only [am_wp, am_stp, am_en, am_as, am_pad, am_nth, am_set, am_st1, am_st2, am_kl, am_kill, am_mem, am_fv, am_tk, am_wt, am_bk, Option.toList, List.cons_append, List.nil_append, Nat.reduceAdd, Nat.reduceEqDiff, Nat.reduceLeDiff, reduceIte, Nat.reduceLT, or_self, true_or, or_true, if_true, if_false, and_self, and_true, true_and, not_false_eq_true, not_true_eq_false, fd_Mo_range_131, fd_Mo_range_132, S3.all]
      refine am_go [110] 2 ?_
      simp only [am_wp, am_stp, am_en, am_as, am_pad, am_nth, am_set, am_st1, am_st2, am_kl, am_kill, am_mem, am_fv, am_tk, am_wt, am_bk, Option.toList, List.cons_append, List.nil_append, Nat.reduceAdd, Nat.reduceEqDiff, Nat.reduceLeDiff, reduceIte, Nat.reduceLT, or_self, true_or, or_true, if_true, if_false, and_self, and_true, true_and, not_false_eq_true, not_true_eq_false, fd_Mo_range_142, fd_Mo_range_145, S3.all, nI_1]
      exact rx_rg_runs hT m (r + 1) _ M1 g3 (by omega) q3 K1 kM1
    · have n1 := nI_m1 (p := p) (by omega)
      simp only [am_wp, am_stp, am_en, am_as, am_pad, am_nth, am_set, am_st1, am_st2, am_kl, am_kill, am_mem, am_fv, am_tk, am_wt, am_bk, Option.toList, List.cons_append, List.nil_append, Nat.reduceAdd, Nat.reduceEqDiff, Nat.reduceLeDiff, reduceIte, Nat.reduceLT, or_self, true_or, or_true, if_true, if_false, and_self, and_true, true_and, not_false_eq_true, not_true_eq_false]
      refine am_go [135, 142] 2 ?_
      simp only [am_wp, am_stp, am_en, am_as, am_pad, am_nth, am_set, am_st1, am_st2, am_kl, am_kill, am_mem, am_fv, am_tk, am_wt, am_bk, Option.toList, List.cons_append, List.nil_append, Nat.reduceAdd, Nat.reduceEqDiff, Nat.reduceLeDiff, reduceIte, Nat.reduceLT, or_self, true_or, or_true, if_true, if_false, and_self, and_true, true_and, not_false_eq_true, not_true_eq_false, fd_Mo_range_131, fd_Mo_range_132, S3.all, n1]
      refine am_go [] 5 ?_
      simp only [am_wp, am_stp, am_en, am_as, am_pad, am_nth, am_set, am_st1, am_st2, am_kl, am_kill, am_mem, am_fv, am_tk, am_wt, am_bk, Option.toList, List.cons_append, List.nil_append, Nat.reduceAdd, Nat.reduceEqDiff, Nat.reduceLeDiff, reduceIte, Nat.reduceLT, or_self, true_or, or_true, if_true, if_false, and_self, and_true, true_and, not_false_eq_true, not_true_eq_false, fd_Mo_range_135, fd_Mo_range_136, fd_Mo_range_137, fd_Mo_range_140, fd_Mo_range_141, S3.all]
      exact ⟨⟨_, rfl⟩, (q3.s (j := 10) (x := 3) (by unfold rJ; omega)).1⟩
theorem rx_range {d P : Nat} {v : Int32} {f t : Int64} {h : am_H} (R : rI P h) : am_Rt nm_pr (d + 5) mi_Mo_range [.ref 72, .int v, .long f, .long t] h (fun o h' => iany o ∧ rq P h h') := by
  obtain ⟨C, E, now, mk, RR⟩ := id R
  have hS := R.1.1
  have q0 := rq.refl R
  have one0 : ¬ (1 : Int32) = 0 := by decide
  refine am_in' (d := d + 4) mt_Mo_range 8 rfl rfl rfl ?_
  refine am_go [] 3 ?_
  simp only [am_wp, am_stp, am_en, am_as, am_pad, am_nth, am_set, am_st1, am_st2, am_kl, am_kill, am_mem, am_fv, am_tk, am_wt, am_bk, Option.toList, List.cons_append, List.nil_append, Nat.reduceAdd, Nat.reduceEqDiff, Nat.reduceLeDiff, reduceIte, Nat.reduceLT, or_self, true_or, or_true, if_true, if_false, and_self, and_true, true_and, not_false_eq_true, not_true_eq_false, fd_Mo_range_0, fd_Mo_range_1, fd_Mo_range_2, hS.all]
  refine am_call (rx_isView (d := d + 3) hS RR) (fun o g w => ?_)
  obtain ⟨c, rfl, w⟩ := w
  have f1 : am_fi [72] h (am_sI h 72 0 c) := am_fi.refl.sI (by simp)
  have v1 : ∀ j, rJ j → am_I (am_sI h 72 0 c) 72 j = am_I h 72 j := fun j hj => by rw [hx_I_sI, if_pos rfl, if_neg (rJ_ne hj).1]
  have q1 := q0.s (j := 0) (v := c) (by unfold rJ; omega)
  have C1 := C.fr f1 (by simp) v1
  have R1 := RR.fr C.2.2.1 f1 (by simp) v1
  rcases w with rfl | ⟨rfl, l, hv, hl⟩
  · generalize am_sI h 72 0 c = g at *
    have S1 := C1.1
    simp only [am_wp, am_stp, am_en, am_as, am_pad, am_nth, am_set, am_st1, am_st2, am_kl, am_kill, am_mem, am_fv, am_tk, am_wt, am_bk, Option.toList, List.cons_append, List.nil_append, Nat.reduceAdd, Nat.reduceEqDiff, Nat.reduceLeDiff, reduceIte, Nat.reduceLT, or_self, true_or, or_true, if_true, if_false, and_self, and_true, true_and, not_false_eq_true, not_true_eq_false]
    refine am_go [8, 10] 1 ?_
    simp only [am_wp, am_stp, am_en, am_as, am_pad, am_nth, am_set, am_st1, am_st2, am_kl, am_kill, am_mem, am_fv, am_tk, am_wt, am_bk, Option.toList, List.cons_append, List.nil_append, Nat.reduceAdd, Nat.reduceEqDiff, Nat.reduceLeDiff, reduceIte, Nat.reduceLT, or_self, true_or, or_true, if_true, if_false, and_self, and_true, true_and, not_false_eq_true, not_true_eq_false, fd_Mo_range_5, S1.all]
    refine am_go [] 2 ?_
    simp only [am_wp, am_stp, am_en, am_as, am_pad, am_nth, am_set, am_st1, am_st2, am_kl, am_kill, am_mem, am_fv, am_tk, am_wt, am_bk, Option.toList, List.cons_append, List.nil_append, Nat.reduceAdd, Nat.reduceEqDiff, Nat.reduceLeDiff, reduceIte, Nat.reduceLT, or_self, true_or, or_true, if_true, if_false, and_self, and_true, true_and, not_false_eq_true, not_true_eq_false, fd_Mo_range_8, fd_Mo_range_9, S1.all]
    exact ⟨⟨_, rfl⟩, q1⟩
  · have hv1 := hv.fr f1 (by simp) v1
    clear f1 v1 hv
    generalize am_sI h 72 0 c = g at *
    have S1 := C1.1
    have Q : vq P E now mk v l h g := ⟨q1, C1, R1, hv1, hl⟩
    simp only [am_wp, am_stp, am_en, am_as, am_pad, am_nth, am_set, am_st1, am_st2, am_kl, am_kill, am_mem, am_fv, am_tk, am_wt, am_bk, Option.toList, List.cons_append, List.nil_append, Nat.reduceAdd, Nat.reduceEqDiff, Nat.reduceLeDiff, reduceIte, Nat.reduceLT, or_self, true_or, or_true, if_true, if_false, and_self, and_true, true_and, not_false_eq_true, not_true_eq_false]
    refine am_go [8, 10] 1 ?_
    simp only [am_wp, am_stp, am_en, am_as, am_pad, am_nth, am_set, am_st1, am_st2, am_kl, am_kill, am_mem, am_fv, am_tk, am_wt, am_bk, Option.toList, List.cons_append, List.nil_append, Nat.reduceAdd, Nat.reduceEqDiff, Nat.reduceLeDiff, reduceIte, Nat.reduceLT, or_self, true_or, or_true, if_true, if_false, and_self, and_true, true_and, not_false_eq_true, not_true_eq_false, fd_Mo_range_5, S1.all, one0]
    refine am_go [17, 24] 4 ?_
    simp only [am_wp, am_stp, am_en, am_as, am_pad, am_nth, am_set, am_st1, am_st2, am_kl, am_kill, am_mem, am_fv, am_tk, am_wt, am_bk, Option.toList, List.cons_append, List.nil_append, Nat.reduceAdd, Nat.reduceEqDiff, Nat.reduceLeDiff, reduceIte, Nat.reduceLT, or_self, true_or, or_true, if_true, if_false, and_self, and_true, true_and, not_false_eq_true, not_true_eq_false, fd_Mo_range_10, fd_Mo_range_11, fd_Mo_range_13, fd_Mo_range_14, S1.all]
    refine wif ?_ ?_
    rotate_left
    rotate_left
    · refine am_go [] 5 ?_
      simp only [am_wp, am_stp, am_en, am_as, am_pad, am_nth, am_set, am_st1, am_st2, am_kl, am_kill, am_mem, am_fv, am_tk, am_wt, am_bk, Option.toList, List.cons_append, List.nil_append, Nat.reduceAdd, Nat.reduceEqDiff, Nat.reduceLeDiff, reduceIte, Nat.reduceLT, or_self, true_or, or_true, if_true, if_false, and_self, and_true, true_and, not_false_eq_true, not_true_eq_false, fd_Mo_range_17, fd_Mo_range_18, fd_Mo_range_19, fd_Mo_range_22, fd_Mo_range_23, S1.all]
      exact ⟨⟨_, rfl⟩, (Q.s (j := 0) (x := 3) (by unfold rJ; omega)).1⟩
    refine am_go [29] 3 ?_
    simp only [am_wp, am_stp, am_en, am_as, am_pad, am_nth, am_set, am_st1, am_st2, am_kl, am_kill, am_mem, am_fv, am_tk, am_wt, am_bk, Option.toList, List.cons_append, List.nil_append, Nat.reduceAdd, Nat.reduceEqDiff, Nat.reduceLeDiff, reduceIte, Nat.reduceLT, or_self, true_or, or_true, if_true, if_false, and_self, and_true, true_and, not_false_eq_true, not_true_eq_false, fd_Mo_range_24, fd_Mo_range_25, fd_Mo_range_26, S1.all]
    have Q2 := Q.s45 (r := 0) (by omega)
    change vq P E now mk v l h (am_sI g 72 45 0) at Q2
    generalize am_sI g 72 45 0 = g2 at *
    have S2 := Q2.2.1.1
    refine am_go [34] 3 ?_
    simp only [am_wp, am_stp, am_en, am_as, am_pad, am_nth, am_set, am_st1, am_st2, am_kl, am_kill, am_mem, am_fv, am_tk, am_wt, am_bk, Option.toList, List.cons_append, List.nil_append, Nat.reduceAdd, Nat.reduceEqDiff, Nat.reduceLeDiff, reduceIte, Nat.reduceLT, or_self, true_or, or_true, if_true, if_false, and_self, and_true, true_and, not_false_eq_true, not_true_eq_false, fd_Mo_range_29, fd_Mo_range_30, fd_Mo_range_31, S2.all]
    have Q3 := Q2.s (j := 31) (x := 0) (by unfold rJ; omega)
    have e31 : am_I (am_sI g2 72 31 0) 72 31 = nI 0 := by rw [hx_I_sI, if_pos rfl, if_pos rfl]; rfl
    generalize am_sI g2 72 31 0 = g3 at *
    have S3 := Q3.2.1.1
    refine am_go [39, 107] 3 ?_
    simp only [am_wp, am_stp, am_en, am_as, am_pad, am_nth, am_set, am_st1, am_st2, am_kl, am_kill, am_mem, am_fv, am_tk, am_wt, am_bk, Option.toList, List.cons_append, List.nil_append, Nat.reduceAdd, Nat.reduceEqDiff, Nat.reduceLeDiff, reduceIte, Nat.reduceLT, or_self, true_or, or_true, if_true, if_false, and_self, and_true, true_and, not_false_eq_true, not_true_eq_false, fd_Mo_range_34, fd_Mo_range_35, fd_Mo_range_36, S3.all]
    refine wif ?_ ?_
    rotate_left
    · refine am_go [110] 2 ?_
      simp only [am_wp, am_stp, am_en, am_as, am_pad, am_nth, am_set, am_st1, am_st2, am_kl, am_kill, am_mem, am_fv, am_tk, am_wt, am_bk, Option.toList, List.cons_append, List.nil_append, Nat.reduceAdd, Nat.reduceEqDiff, Nat.reduceLeDiff, reduceIte, Nat.reduceLT, or_self, true_or, or_true, if_true, if_false, and_self, and_true, true_and, not_false_eq_true, not_true_eq_false, fd_Mo_range_107, fd_Mo_range_108]
      exact rx_rg_runs (T := []) (by simp) l.length 0 _ [] g3 (by omega) Q3 ⟨S3, e31, by simp, fun i e he => by simp at he⟩ kl.nil
    · obtain ⟨n, T, A⟩ := Q3.1.1.tb
      have n64 := A.1
      refine am_go [47] 4 ?_
      simp only [am_wp, am_stp, am_en, am_as, am_pad, am_nth, am_set, am_st1, am_st2, am_kl, am_kill, am_mem, am_fv, am_tk, am_wt, am_bk, Option.toList, List.cons_append, List.nil_append, Nat.reduceAdd, Nat.reduceEqDiff, Nat.reduceLeDiff, reduceIte, Nat.reduceLT, or_self, true_or, or_true, if_true, if_false, and_self, and_true, true_and, not_false_eq_true, not_true_eq_false, fd_Mo_range_39, fd_Mo_range_40, fd_Mo_range_41, fd_Mo_range_44, S3.all, T.2.1]
      have Q4 := Q3.s (j := 31) (x := nI n) (by unfold rJ; omega)
      have u31 : am_I (am_sI g3 72 31 (nI n)) 72 31 = nI n := by rw [hx_I_sI, if_pos rfl, if_pos rfl]
      have A4 : ta_S n (am_L (am_sI g3 72 31 (nI n)) 74) (am_I (am_sI g3 72 31 (nI n)) 75) (am_L (am_sI g3 72 31 (nI n)) 76) := by
        have e75 : am_I (am_sI g3 72 31 (nI n)) 75 = am_I g3 75 := by funext j; rw [hx_I_sI, if_neg (by decide)]
        rw [e75]; exact A
      generalize am_sI g3 72 31 (nI n) = g4 at *
      have S4 := Q4.2.1.1
      refine am_go [50] 2 ?_
      simp only [am_wp, am_stp, am_en, am_as, am_pad, am_nth, am_set, am_st1, am_st2, am_kl, am_kill, am_mem, am_fv, am_tk, am_wt, am_bk, Option.toList, List.cons_append, List.nil_append, Nat.reduceAdd, Nat.reduceEqDiff, Nat.reduceLeDiff, reduceIte, Nat.reduceLT, or_self, true_or, or_true, if_true, if_false, and_self, and_true, true_and, not_false_eq_true, not_true_eq_false, fd_Mo_range_47, fd_Mo_range_48]
      refine rx_rg_copy S4 n64 u31 (fun g5 F5 T5 => ?_) n 0 g4 (by omega) am_fi.refl (fun i e he => by simp at he)
      obtain ⟨hT, ho⟩ := ta_tf A4
      have hTl := tf_len (am_L g4 74) (am_I g4 75) (am_L g4 76) n 0
      generalize tf (am_L g4 74) (am_I g4 75) (am_L g4 76) 0 n = TL at *
      have j72 : am_I g5 72 = am_I g4 72 := F5.2.2.2.2.2.2.1 72 (by simp)
      have Q5 := Q4.fr F5 (by simp [rB]) (fun j _ => by rw [j72])
      refine am_go [110] 2 ?_
      simp only [am_wp, am_stp, am_en, am_as, am_pad, am_nth, am_set, am_st1, am_st2, am_kl, am_kill, am_mem, am_fv, am_tk, am_wt, am_bk, Option.toList, List.cons_append, List.nil_append, Nat.reduceAdd, Nat.reduceEqDiff, Nat.reduceLeDiff, reduceIte, Nat.reduceLT, or_self, true_or, or_true, if_true, if_false, and_self, and_true, true_and, not_false_eq_true, not_true_eq_false, fd_Mo_range_107, fd_Mo_range_108]
      refine rx_rg_runs (T := TL) (by omega) l.length 0 _ TL g5 (by omega) Q5 ⟨Q5.2.1.1, by rw [j72, u31, hTl], by omega, T5⟩ ⟨hT, ho, fun e he => ?_⟩
      unfold kB
      exact List.mem_append.mpr (Or.inl (List.mem_map.mpr ⟨e, he, rfl⟩))
