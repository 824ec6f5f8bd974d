/-! badAt ON A NEW OBJECT -/
theorem l2_isRight {d P a : Nat} {h : am_H} (hP : cl_Pg P h) (ha : a < P) (hv : am_I h 20 a = 0 ∨ am_I h 20 a = 1) : am_Rt nm_pr (d + 2) mi_Pages_isRight [.ref 18, .int (nI a)] h (fun o h' => o = .inl (some (.int (am_I h 20 a))) ∧ h' = h) := by
  obtain ⟨q1, q2, q3, q4, q5, q6, q7, q8, q9, q10⟩ := id hP
  refine am_in' (d := d + 1) mt_Pages_isRight 2 rfl rfl rfl ?_
  refine am_go [] 3 ?_
  simp only [am_wp, am_stp, am_en, am_as, am_pad, am_nth, am_set, am_st1, am_st2, am_kl, am_kill, am_mem, am_fv, am_tk, am_wt, am_bk, Option.toList, List.cons_append, List.nil_append, Nat.reduceAdd, Nat.reduceEqDiff, Nat.reduceLeDiff, reduceIte, Nat.reduceLT, or_self, true_or, or_true, if_true, if_false, and_self, and_true, true_and, not_false_eq_true, not_true_eq_false, fd_Pages_isRight_0, fd_Pages_isRight_1, fd_Pages_isRight_2, q1]
  refine am_call (l2_has1 hP ha) (fun o h2 q => ?_)
  obtain ⟨rfl, rfl⟩ := q
  simp only [am_wp, am_stp, am_en, am_as, am_pad, am_nth, am_set, am_st1, am_st2, am_kl, am_kill, am_mem, am_fv, am_tk, am_wt, am_bk, Option.toList, List.cons_append, List.nil_append, Nat.reduceAdd, Nat.reduceEqDiff, Nat.reduceLeDiff, reduceIte, Nat.reduceLT, or_self, true_or, or_true, if_true, if_false, and_self, and_true, true_and, not_false_eq_true, not_true_eq_false]
  have one0 : ¬ ((1 : Int32) = 0) := by decide
  have i1 := am_inb (c := a) (N := P) ha (by omega)
  have ca : (nI a).toNatClampNeg = a := nI_clamp (by omega)
  have o0 : (0 : Int32) = 0 ∨ (0 : Int32) = 1 := by decide
  have o1 : (1 : Int32) = 0 ∨ (1 : Int32) = 1 := by decide
  refine am_go [21, 17] 6 ?_
  simp only [am_wp, am_stp, am_en, am_as, am_pad, am_nth, am_set, am_st1, am_st2, am_kl, am_kill, am_mem, am_fv, am_tk, am_wt, am_bk, Option.toList, List.cons_append, List.nil_append, Nat.reduceAdd, Nat.reduceEqDiff, Nat.reduceLeDiff, reduceIte, Nat.reduceLT, or_self, true_or, or_true, if_true, if_false, and_self, and_true, true_and, not_false_eq_true, not_true_eq_false, fd_Pages_isRight_5, fd_Pages_isRight_8, fd_Pages_isRight_9, fd_Pages_isRight_12, fd_Pages_isRight_13, fd_Pages_isRight_14, one0, q1, q3, q7, q8, i1, ca]
  rcases hv with v1 | v1
  · simp only [v1, am_wp, am_stp, am_en, am_as, am_pad, am_nth, am_set, am_st1, am_st2, am_kl, am_kill, am_mem, am_fv, am_tk, am_wt, am_bk, Option.toList, List.cons_append, List.nil_append, Nat.reduceAdd, Nat.reduceEqDiff, Nat.reduceLeDiff, reduceIte, Nat.reduceLT, or_self, true_or, or_true, if_true, if_false, and_self, and_true, true_and, not_false_eq_true, not_true_eq_false]
    refine am_go [] 4 ?_
    simp only [am_wp, am_stp, am_en, am_as, am_pad, am_nth, am_set, am_st1, am_st2, am_kl, am_kill, am_mem, am_fv, am_tk, am_wt, am_bk, Option.toList, List.cons_append, List.nil_append, Nat.reduceAdd, Nat.reduceEqDiff, Nat.reduceLeDiff, reduceIte, Nat.reduceLT, or_self, true_or, or_true, if_true, if_false, and_self, and_true, true_and, not_false_eq_true, not_true_eq_false, fd_Pages_isRight_21, fd_Pages_isRight_22, o0]
  · simp only [v1, one0, am_wp, am_stp, am_en, am_as, am_pad, am_nth, am_set, am_st1, am_st2, am_kl, am_kill, am_mem, am_fv, am_tk, am_wt, am_bk, Option.toList, List.cons_append, List.nil_append, Nat.reduceAdd, Nat.reduceEqDiff, Nat.reduceLeDiff, reduceIte, Nat.reduceLT, or_self, true_or, or_true, if_true, if_false, and_self, and_true, true_and, not_false_eq_true, not_true_eq_false]
    refine am_go [] 4 ?_
    simp only [am_wp, am_stp, am_en, am_as, am_pad, am_nth, am_set, am_st1, am_st2, am_kl, am_kill, am_mem, am_fv, am_tk, am_wt, am_bk, Option.toList, List.cons_append, List.nil_append, Nat.reduceAdd, Nat.reduceEqDiff, Nat.reduceLeDiff, reduceIte, Nat.reduceLT, or_self, true_or, or_true, if_true, if_false, and_self, and_true, true_and, not_false_eq_true, not_true_eq_false, fd_Pages_isRight_17, fd_Pages_isRight_18, fd_Pages_isRight_21, fd_Pages_isRight_22, o1]
theorem l2_leastWrong0 {d t : Nat} {h : am_H} (kt : am_kd h t = 6) (it : am_I h t 1 = 0) : am_Rt nm_pr (d + 1) mi_SR_leastWrong [.ref 2, .ref t] h (fun o h' => o = .inl (some (.int 1024)) ∧ h' = h) := by
  have le0 : ¬ ((0 : Int32) < 0) := by decide
  refine am_in' mt_SR_leastWrong 6 rfl rfl rfl ?_
  refine am_go [14] 10 ?_
  simp only [am_wp, am_stp, am_en, am_as, am_pad, am_nth, am_set, am_st1, am_st2, am_kl, am_kill, am_mem, am_fv, am_tk, am_wt, am_bk, Option.toList, List.cons_append, List.nil_append, Nat.reduceAdd, Nat.reduceEqDiff, Nat.reduceLeDiff, reduceIte, Nat.reduceLT, or_self, true_or, or_true, if_true, if_false, and_self, and_true, true_and, not_false_eq_true, not_true_eq_false, fd_SR_leastWrong_0, fd_SR_leastWrong_3, fd_SR_leastWrong_4, fd_SR_leastWrong_5, fd_SR_leastWrong_6, fd_SR_leastWrong_7, fd_SR_leastWrong_8, fd_SR_leastWrong_11, fd_SR_leastWrong_90, fd_SR_leastWrong_91, kt, it, le0]
theorem l2_badAt_loop {d : Nat} {h : am_H} {w : Value} {Q : am_O → am_H → Prop} (k2 : am_kd h 2 = 1) (r4 : am_R h 2 4 = 12) (f5 : fr_5 h 8) (hx : Q (.inl (some (.int (-1)))) h) : ∀ n i : Nat, n + i = 8 →
    am_Ex nm_pr (d + 1) mt_SR_badAt (50, [.ref 2, w, .int 1024, .int (nI i)], [], h) Q
  | 0, i, hn => by
    have e : i = 8 := by omega
    subst e
    have hlt : ¬ (nI 8 < 8) := by decide
    refine am_go [56, 88] 10 ?_
    simp only [am_wp, am_stp, am_en, am_as, am_pad, am_nth, am_set, am_st1, am_st2, am_kl, am_kill, am_mem, am_fv, am_tk, am_wt, am_bk, Option.toList, List.cons_append, List.nil_append, Nat.reduceAdd, Nat.reduceEqDiff, Nat.reduceLeDiff, reduceIte, Nat.reduceLT, or_self, true_or, or_true, if_true, if_false, and_self, and_true, true_and, not_false_eq_true, not_true_eq_false, fd_SR_badAt_50, fd_SR_badAt_51, fd_SR_badAt_53, fd_SR_badAt_77, fd_SR_badAt_78, fd_SR_badAt_81, fd_SR_badAt_84, fd_SR_badAt_85, fd_SR_badAt_88, fd_SR_badAt_89, hlt]
    exact hx
  | n + 1, i, hn => by
    have hlt : nI i < 8 := nI_lt (b := 8) (by omega) (by decide)
    have i1 := am_inb (c := i) (N := 8) (by omega) (by omega)
    have c1 : (nI i).toNatClampNeg = i := nI_clamp (by omega)
    have rj : am_R h 12 i = 40 + 4 * i := (congrFun f5.1.2.2.2 i).trans (if_pos (by omega))
    have kj : am_kd h (40 + 4 * i) = 6 := (f5.2 i (by omega)).1.1
    have ij : am_I h (40 + 4 * i) 1 = 0 := (f5.2 i (by omega)).1.2.2.1.1 1
    have n1 : (200 ≤ 201 ∧ 201 < 204) := by decide
    have mn : am_mn 1024 1024 = 1024 := by decide
    refine am_go [56, 77] 4 ?_
    simp only [am_wp, am_stp, am_en, am_as, am_pad, am_nth, am_set, am_st1, am_st2, am_kl, am_kill, am_mem, am_fv, am_tk, am_wt, am_bk, Option.toList, List.cons_append, List.nil_append, Nat.reduceAdd, Nat.reduceEqDiff, Nat.reduceLeDiff, reduceIte, Nat.reduceLT, or_self, true_or, or_true, if_true, if_false, and_self, and_true, true_and, not_false_eq_true, not_true_eq_false, fd_SR_badAt_50, fd_SR_badAt_51, fd_SR_badAt_53, hlt]
    refine am_go [] 7 ?_
    simp only [am_wp, am_stp, am_en, am_as, am_pad, am_nth, am_set, am_st1, am_st2, am_kl, am_kill, am_mem, am_fv, am_tk, am_wt, am_bk, Option.toList, List.cons_append, List.nil_append, Nat.reduceAdd, Nat.reduceEqDiff, Nat.reduceLeDiff, reduceIte, Nat.reduceLT, or_self, true_or, or_true, if_true, if_false, and_self, and_true, true_and, not_false_eq_true, not_true_eq_false, fd_SR_badAt_56, fd_SR_badAt_57, fd_SR_badAt_58, fd_SR_badAt_59, fd_SR_badAt_62, fd_SR_badAt_63, fd_SR_badAt_64, k2, r4, f5.1.1, f5.1.2.1, n1, i1, c1, rj]
    refine am_call (l2_leastWrong0 kj ij) (fun o h1 q => ?_)
    obtain ⟨rfl, rfl⟩ := q
    simp only [am_wp, am_stp, am_en, am_as, am_pad, am_nth, am_set, am_st1, am_st2, am_kl, am_kill, am_mem, am_fv, am_tk, am_wt, am_bk, Option.toList, List.cons_append, List.nil_append, Nat.reduceAdd, Nat.reduceEqDiff, Nat.reduceLeDiff, reduceIte, Nat.reduceLT, or_self, true_or, or_true, if_true, if_false, and_self, and_true, true_and, not_false_eq_true, not_true_eq_false]
    refine am_go [50] 6 ?_
    simp only [am_wp, am_stp, am_en, am_as, am_pad, am_nth, am_set, am_st1, am_st2, am_kl, am_kill, am_mem, am_fv, am_tk, am_wt, am_bk, Option.toList, List.cons_append, List.nil_append, Nat.reduceAdd, Nat.reduceEqDiff, Nat.reduceLeDiff, reduceIte, Nat.reduceLT, or_self, true_or, or_true, if_true, if_false, and_self, and_true, true_and, not_false_eq_true, not_true_eq_false, fd_SR_badAt_67, fd_SR_badAt_70, fd_SR_badAt_71, fd_SR_badAt_74, nI_1, mn]
    exact l2_badAt_loop k2 r4 f5 hx n (i + 1) (by omega)
theorem l2_SR_badAt {d P : Nat} {h : am_H} (F : fr_All P h) : am_Rt nm_pr (d + 3) mi_SR_badAt [.ref 2] h (fun o h' => o = .inl (some (.int (-1))) ∧ h' = h) := by
  obtain ⟨s1, s2, s3⟩ := F.2.2.2.2.2.2.2.2.2.2.2.2.2.2
  have f5 := F.2.2.2.2.2.2.2.2.2.2.2.2.2.1
  have i15 : am_I h 2 15 = 0 := by rw [s3]; rfl
  have i12 : am_I h 2 12 = 1 := by rw [s3]; rfl
  have r0 : am_R h 2 0 = 18 := by rw [s2]; rfl
  have r3 : am_R h 2 3 = 8 := by rw [s2]; rfl
  have r4 : am_R h 2 4 = 12 := by rw [s2]; rfl
  have k8 : am_kd h 8 = 6 := F.1.2.1.1
  have i8 : am_I h 8 1 = 0 := F.1.2.1.2.2.1.1 1
  have hP := F.2.2.2.1
  have hP4 := hP.2.2.2.2.2.2.2.2.1
  have h20 : am_I h 20 1 = 1 := by rw [F.2.2.2.2.2.2.1]; rfl
  have one0 : ¬ ((1 : Int32) = 0) := by decide
  have mn : am_mn 1024 1024 = 1024 := by decide
  have a1 : (1 : Int32) &&& 1 = nI 1 := by decide
  refine am_in' (d := d + 2) mt_SR_badAt 4 rfl rfl rfl ?_
  refine am_go [7, 9] 3 ?_
  simp only [am_wp, am_stp, am_en, am_as, am_pad, am_nth, am_set, am_st1, am_st2, am_kl, am_kill, am_mem, am_fv, am_tk, am_wt, am_bk, Option.toList, List.cons_append, List.nil_append, Nat.reduceAdd, Nat.reduceEqDiff, Nat.reduceLeDiff, reduceIte, Nat.reduceLT, or_self, true_or, or_true, if_true, if_false, and_self, and_true, true_and, not_false_eq_true, not_true_eq_false, fd_SR_badAt_0, fd_SR_badAt_1, fd_SR_badAt_4, s1, i15]
  refine am_go [] 9 ?_
  simp only [am_wp, am_stp, am_en, am_as, am_pad, am_nth, am_set, am_st1, am_st2, am_kl, am_kill, am_mem, am_fv, am_tk, am_wt, am_bk, Option.toList, List.cons_append, List.nil_append, Nat.reduceAdd, Nat.reduceEqDiff, Nat.reduceLeDiff, reduceIte, Nat.reduceLT, or_self, true_or, or_true, if_true, if_false, and_self, and_true, true_and, not_false_eq_true, not_true_eq_false, fd_SR_badAt_9, fd_SR_badAt_10, fd_SR_badAt_13, fd_SR_badAt_14, fd_SR_badAt_15, fd_SR_badAt_16, fd_SR_badAt_17, fd_SR_badAt_20, fd_SR_badAt_21, s1, i12, a1, r0, hP.1]
  refine am_call (l2_isRight hP (by omega) (Or.inr h20)) (fun o h1 q => ?_)
  rw [h20] at q
  obtain ⟨rfl, rfl⟩ := q
  simp only [am_wp, am_stp, am_en, am_as, am_pad, am_nth, am_set, am_st1, am_st2, am_kl, am_kill, am_mem, am_fv, am_tk, am_wt, am_bk, Option.toList, List.cons_append, List.nil_append, Nat.reduceAdd, Nat.reduceEqDiff, Nat.reduceLeDiff, reduceIte, Nat.reduceLT, or_self, true_or, or_true, if_true, if_false, and_self, and_true, true_and, not_false_eq_true, not_true_eq_false]
  refine am_go [33, 35] 5 ?_
  simp only [am_wp, am_stp, am_en, am_as, am_pad, am_nth, am_set, am_st1, am_st2, am_kl, am_kill, am_mem, am_fv, am_tk, am_wt, am_bk, Option.toList, List.cons_append, List.nil_append, Nat.reduceAdd, Nat.reduceEqDiff, Nat.reduceLeDiff, reduceIte, Nat.reduceLT, or_self, true_or, or_true, if_true, if_false, and_self, and_true, true_and, not_false_eq_true, not_true_eq_false, fd_SR_badAt_24, fd_SR_badAt_27, fd_SR_badAt_30, fd_SR_badAt_34, one0]
  refine am_go [] 5 ?_
  simp only [am_wp, am_stp, am_en, am_as, am_pad, am_nth, am_set, am_st1, am_st2, am_kl, am_kill, am_mem, am_fv, am_tk, am_wt, am_bk, Option.toList, List.cons_append, List.nil_append, Nat.reduceAdd, Nat.reduceEqDiff, Nat.reduceLeDiff, reduceIte, Nat.reduceLT, or_self, true_or, or_true, if_true, if_false, and_self, and_true, true_and, not_false_eq_true, not_true_eq_false, fd_SR_badAt_35, fd_SR_badAt_36, fd_SR_badAt_37, fd_SR_badAt_38, fd_SR_badAt_41, s1, r3]
  refine am_call (l2_leastWrong0 k8 i8) (fun o h2 q => ?_)
  obtain ⟨rfl, rfl⟩ := q
  simp only [am_wp, am_stp, am_en, am_as, am_pad, am_nth, am_set, am_st1, am_st2, am_kl, am_kill, am_mem, am_fv, am_tk, am_wt, am_bk, Option.toList, List.cons_append, List.nil_append, Nat.reduceAdd, Nat.reduceEqDiff, Nat.reduceLeDiff, reduceIte, Nat.reduceLT, or_self, true_or, or_true, if_true, if_false, and_self, and_true, true_and, not_false_eq_true, not_true_eq_false]
  refine am_go [50] 6 ?_
  simp only [am_wp, am_stp, am_en, am_as, am_pad, am_nth, am_set, am_st1, am_st2, am_kl, am_kill, am_mem, am_fv, am_tk, am_wt, am_bk, Option.toList, List.cons_append, List.nil_append, Nat.reduceAdd, Nat.reduceEqDiff, Nat.reduceLeDiff, reduceIte, Nat.reduceLT, or_self, true_or, or_true, if_true, if_false, and_self, and_true, true_and, not_false_eq_true, not_true_eq_false, fd_SR_badAt_44, fd_SR_badAt_47, fd_SR_badAt_48, fd_SR_badAt_49, mn]
  exact l2_badAt_loop (d := d + 1) s1 r4 f5 ⟨rfl, rfl⟩ 8 0 rfl
theorem l2_Mo_bad_loop {d P : Nat} {g : am_H} {Q : am_O → am_H → Prop} (hP : P ≤ 1024) (hS : mo_Sk g) (jP : am_I g 72 1 = nI P) (hr : mo_Rt g 1) (hu : ∀ p, p < P → (am_I g 90 p = if p = 1 then 1 else 0)) (hx : Q (.inl (some (.int (-1)))) g) : ∀ n p : Nat, n + p = P →
    am_Ex nm_pr (d + 2) mt_Mo_badAt (61, [.ref 72, .int (nI p)], [], g) Q
  | 0, p, hn => by
    have e : p = P := by omega
    subst e
    have hlt : ¬ (nI p < nI p) := nI_nlt (Nat.le_refl _) (by omega)
    refine am_go [69] 6 ?_
    simp only [am_wp, am_stp, am_en, am_as, am_pad, am_nth, am_set, am_st1, am_st2, am_kl, am_kill, am_mem, am_fv, am_tk, am_wt, am_bk, Option.toList, List.cons_append, List.nil_append, Nat.reduceAdd, Nat.reduceEqDiff, Nat.reduceLeDiff, reduceIte, Nat.reduceLT, or_self, true_or, or_true, if_true, if_false, and_self, and_true, true_and, not_false_eq_true, not_true_eq_false, fd_Mo_badAt_61, fd_Mo_badAt_62, fd_Mo_badAt_63, fd_Mo_badAt_66, fd_Mo_badAt_94, fd_Mo_badAt_95, hS.1, jP, hlt]
    exact hx
  | n + 1, p, hn => by
    obtain ⟨k72, rr, aa⟩ := id hS
    have r29 : am_R g 72 29 = 90 := (rr 29).trans rfl
    have k90 : am_kd g 90 = 103 := (aa 17 _ rfl).1
    have n90 : am_ln g 90 = 1024 := (aa 17 _ rfl).2
    have hlt : nI p < nI P := nI_lt (by omega) (by omega)
    have i1 := am_inb (c := p) (N := 1024) (by omega) (by omega)
    have c1 : (nI p).toNatClampNeg = p := nI_clamp (by omega)
    have one0 : ¬ ((1 : Int32) = 0) := by decide
    have u := hu p (by omega)
    have nx : am_Ex nm_pr (d + 2) mt_Mo_badAt (88, [.ref 72, .int (nI p)], [], g) Q := by
      refine am_go [61] 3 ?_
      simp only [am_wp, am_stp, am_en, am_as, am_pad, am_nth, am_set, am_st1, am_st2, am_kl, am_kill, am_mem, am_fv, am_tk, am_wt, am_bk, Option.toList, List.cons_append, List.nil_append, Nat.reduceAdd, Nat.reduceEqDiff, Nat.reduceLeDiff, reduceIte, Nat.reduceLT, or_self, true_or, or_true, if_true, if_false, and_self, and_true, true_and, not_false_eq_true, not_true_eq_false, fd_Mo_badAt_88, fd_Mo_badAt_91, nI_1]
      exact l2_Mo_bad_loop hP hS jP hr hu hx n (p + 1) (by omega)
    refine am_go [69, 94] 4 ?_
    simp only [am_wp, am_stp, am_en, am_as, am_pad, am_nth, am_set, am_st1, am_st2, am_kl, am_kill, am_mem, am_fv, am_tk, am_wt, am_bk, Option.toList, List.cons_append, List.nil_append, Nat.reduceAdd, Nat.reduceEqDiff, Nat.reduceLeDiff, reduceIte, Nat.reduceLT, or_self, true_or, or_true, if_true, if_false, and_self, and_true, true_and, not_false_eq_true, not_true_eq_false, fd_Mo_badAt_61, fd_Mo_badAt_62, fd_Mo_badAt_63, fd_Mo_badAt_66, k72, jP, hlt]
    refine am_go [78, 88] 5 ?_
    simp only [am_wp, am_stp, am_en, am_as, am_pad, am_nth, am_set, am_st1, am_st2, am_kl, am_kill, am_mem, am_fv, am_tk, am_wt, am_bk, Option.toList, List.cons_append, List.nil_append, Nat.reduceAdd, Nat.reduceEqDiff, Nat.reduceLeDiff, reduceIte, Nat.reduceLT, or_self, true_or, or_true, if_true, if_false, and_self, and_true, true_and, not_false_eq_true, not_true_eq_false, fd_Mo_badAt_69, fd_Mo_badAt_70, fd_Mo_badAt_73, fd_Mo_badAt_74, fd_Mo_badAt_75, k72, r29, k90, n90, i1, c1, u]
    by_cases e : p = 1
    · subst e
      simp only [one0, am_wp, am_stp, am_en, am_as, am_pad, am_nth, am_set, am_st1, am_st2, am_kl, am_kill, am_mem, am_fv, am_tk, am_wt, am_bk, Option.toList, List.cons_append, List.nil_append, Nat.reduceAdd, Nat.reduceEqDiff, Nat.reduceLeDiff, reduceIte, Nat.reduceLT, or_self, true_or, or_true, if_true, if_false, and_self, and_true, true_and, not_false_eq_true, not_true_eq_false]
      refine am_go [] 3 ?_
      simp only [am_wp, am_stp, am_en, am_as, am_pad, am_nth, am_set, am_st1, am_st2, am_kl, am_kill, am_mem, am_fv, am_tk, am_wt, am_bk, Option.toList, List.cons_append, List.nil_append, Nat.reduceAdd, Nat.reduceEqDiff, Nat.reduceLeDiff, reduceIte, Nat.reduceLT, or_self, true_or, or_true, if_true, if_false, and_self, and_true, true_and, not_false_eq_true, not_true_eq_false, fd_Mo_badAt_78, fd_Mo_badAt_79, fd_Mo_badAt_80, k72]
      refine am_call (l2_Mo_isRight hS.Pg (by omega)) (fun o h2 q => ?_)
      rcases q with ⟨rfl, ⟨rfl, -⟩ | ⟨-, q⟩⟩
      · simp only [am_wp, am_stp, am_en, am_as, am_pad, am_nth, am_set, am_st1, am_st2, am_kl, am_kill, am_mem, am_fv, am_tk, am_wt, am_bk, Option.toList, List.cons_append, List.nil_append, Nat.reduceAdd, Nat.reduceEqDiff, Nat.reduceLeDiff, reduceIte, Nat.reduceLT, or_self, true_or, or_true, if_true, if_false, and_self, and_true, true_and, not_false_eq_true, not_true_eq_false]
        refine am_go [86, 88] 1 ?_
        simp only [am_wp, am_stp, am_en, am_as, am_pad, am_nth, am_set, am_st1, am_st2, am_kl, am_kill, am_mem, am_fv, am_tk, am_wt, am_bk, Option.toList, List.cons_append, List.nil_append, Nat.reduceAdd, Nat.reduceEqDiff, Nat.reduceLeDiff, reduceIte, Nat.reduceLT, or_self, true_or, or_true, if_true, if_false, and_self, and_true, true_and, not_false_eq_true, not_true_eq_false, fd_Mo_badAt_83, one0]
        exact nx
      · exact absurd hr q
    · simp only [e, am_wp, am_stp, am_en, am_as, am_pad, am_nth, am_set, am_st1, am_st2, am_kl, am_kill, am_mem, am_fv, am_tk, am_wt, am_bk, Option.toList, List.cons_append, List.nil_append, Nat.reduceAdd, Nat.reduceEqDiff, Nat.reduceLeDiff, reduceIte, Nat.reduceLT, or_self, true_or, or_true, if_true, if_false, and_self, and_true, true_and, not_false_eq_true, not_true_eq_false]
      exact nx
theorem l2_Mo_badAt {d P : Nat} {h : am_H} (hM : mo_All P h) (hP : P ≤ 1024) (h2 : 2 ≤ P) : am_Rt nm_pr (d + 3) mi_Mo_badAt [.ref 72] h (fun o h' => o = .inl (some (.int (-1))) ∧ am_fi [72, 90] h h') := by
  obtain ⟨m1, m2, m3, m4, m5, m6, m7⟩ := id hM
  have hS := hM.Sk
  have k72 := hS.1
  have j0 : am_I h 72 0 = 0 := by rw [m2]; rfl
  have j1 : am_I h 72 1 = nI P := by rw [m2]; rfl
  have j3 : am_I h 72 3 = 0 := by rw [m2]; rfl
  have j4 : am_I h 72 4 = 1 := by rw [m2]; rfl
  have z : am_sI h 72 0 0 = h := hx_sI_id j0
  have hT : ∀ p, ¬ us_T h 100 p := fun p => us_T_new hM
  refine am_in' (d := d + 2) mt_Mo_badAt 2 rfl rfl rfl ?_
  refine am_go [12, 14] 6 ?_
  simp only [am_wp, am_stp, am_en, am_as, am_pad, am_nth, am_set, am_st1, am_st2, am_kl, am_kill, am_mem, am_fv, am_tk, am_wt, am_bk, Option.toList, List.cons_append, List.nil_append, Nat.reduceAdd, Nat.reduceEqDiff, Nat.reduceLeDiff, reduceIte, Nat.reduceLT, or_self, true_or, or_true, if_true, if_false, and_self, and_true, true_and, not_false_eq_true, not_true_eq_false, fd_Mo_badAt_0, fd_Mo_badAt_1, fd_Mo_badAt_2, fd_Mo_badAt_5, fd_Mo_badAt_6, fd_Mo_badAt_9, k72, j3, hx_nx_sI, hx_ce_sI, hx_sl_sI, hx_kd_sI, hx_ln_sI, hx_I_sI, hx_L_sI, hx_R_sI, hx_nx_sL, hx_ce_sL, hx_sl_sL, hx_kd_sL, hx_ln_sL, hx_I_sL, hx_L_sL, hx_R_sL, hx_nx_sR, hx_ce_sR, hx_sl_sR, hx_kd_sR, hx_ln_sR, hx_I_sR, hx_L_sR, hx_R_sR, hx_nx_al, hx_ce_al, hx_sl_al, hx_kd_al, hx_ln_al, hx_I_al, hx_L_al, hx_R_al, hx_nx_row, hx_ce_row, hx_sl_row, hx_kd_row, hx_ln_row, hx_I_row, hx_L_row, hx_R_row, hx_nx_mk, hx_kd_mk, hx_ln_mk, hx_I_mk, hx_L_mk, hx_R_mk]
  rw [z]
  refine am_go [] 2 ?_
  simp only [am_wp, am_stp, am_en, am_as, am_pad, am_nth, am_set, am_st1, am_st2, am_kl, am_kill, am_mem, am_fv, am_tk, am_wt, am_bk, Option.toList, List.cons_append, List.nil_append, Nat.reduceAdd, Nat.reduceEqDiff, Nat.reduceLeDiff, reduceIte, Nat.reduceLT, or_self, true_or, or_true, if_true, if_false, and_self, and_true, true_and, not_false_eq_true, not_true_eq_false, fd_Mo_badAt_14, fd_Mo_badAt_15, k72]
  refine am_call (l2_Mo_markUsed h2 hP hS j1 (us_W_new hM)) (fun o g q => ?_)
  obtain ⟨rfl, f, fl, v⟩ := q
  simp only [am_wp, am_stp, am_en, am_as, am_pad, am_nth, am_set, am_st1, am_st2, am_kl, am_kill, am_mem, am_fv, am_tk, am_wt, am_bk, Option.toList, List.cons_append, List.nil_append, Nat.reduceAdd, Nat.reduceEqDiff, Nat.reduceLeDiff, reduceIte, Nat.reduceLT, or_self, true_or, or_true, if_true, if_false, and_self, and_true, true_and, not_false_eq_true, not_true_eq_false]
  obtain ⟨q72, rr, aa⟩ := id (hS.fi f)
  have r29 : am_R g 72 29 = 90 := (rr 29).trans rfl
  have k90 : am_kd g 90 = 103 := (aa 17 _ rfl).1
  have n90 : am_ln g 90 = 1024 := (aa 17 _ rfl).2
  have y4 : am_I g 72 4 = 1 := (congrFun (f.2.2.2.2.2.2.1 72 (by simp)) 4).trans j4
  have y1 : am_I g 72 1 = nI P := (congrFun (f.2.2.2.2.2.2.1 72 (by simp)) 1).trans j1
  have a1 : (1 : Int32) &&& 1 = 1 := by decide
  have a0 : (0 : Int32) &&& 1 = 0 := by decide
  have one0 : ¬ ((1 : Int32) = 0) := by decide
  have i0 : ¬ ((0 : Int32) < 0 ∨ 1024 ≤ (0 : Int32).toNatClampNeg) := by decide
  have c0 : (0 : Int32).toNatClampNeg = 0 := by decide
  have i1 : ¬ ((1 : Int32) < 0 ∨ 1024 ≤ (1 : Int32).toNatClampNeg) := by decide
  have c1 : (1 : Int32).toNatClampNeg = 1 := by decide
  have l0 : ¬ (0 : Int32) < 0 := by decide
  have l1 : ¬ (1 : Int32) < 0 := by decide
  refine am_go [32] 10 ?_
  simp only [am_wp, am_stp, am_en, am_as, am_pad, am_nth, am_set, am_st1, am_st2, am_kl, am_kill, am_mem, am_fv, am_tk, am_wt, am_bk, Option.toList, List.cons_append, List.nil_append, Nat.reduceAdd, Nat.reduceEqDiff, Nat.reduceLeDiff, reduceIte, Nat.reduceLT, or_self, true_or, or_true, if_true, if_false, and_self, and_true, true_and, not_false_eq_true, not_true_eq_false, fd_Mo_badAt_18, fd_Mo_badAt_19, fd_Mo_badAt_22, fd_Mo_badAt_23, fd_Mo_badAt_24, fd_Mo_badAt_27, fd_Mo_badAt_28, fd_Mo_badAt_29, fd_Mo_badAt_36, fd_Mo_badAt_37, q72, r29, k90, n90, y4, a1, a0, one0, i0, c0, l0]
  refine am_go [57] 12 ?_
  simp only [am_wp, am_stp, am_en, am_as, am_pad, am_nth, am_set, am_st1, am_st2, am_kl, am_kill, am_mem, am_fv, am_tk, am_wt, am_bk, Option.toList, List.cons_append, List.nil_append, Nat.reduceAdd, Nat.reduceEqDiff, Nat.reduceLeDiff, reduceIte, Nat.reduceLT, or_self, true_or, or_true, if_true, if_false, and_self, and_true, true_and, not_false_eq_true, not_true_eq_false, fd_Mo_badAt_38, fd_Mo_badAt_39, fd_Mo_badAt_42, fd_Mo_badAt_43, fd_Mo_badAt_44, fd_Mo_badAt_47, fd_Mo_badAt_48, fd_Mo_badAt_49, fd_Mo_badAt_50, fd_Mo_badAt_53, fd_Mo_badAt_54, fd_Mo_badAt_58, hx_nx_sI, hx_ce_sI, hx_sl_sI, hx_kd_sI, hx_ln_sI, hx_I_sI, hx_L_sI, hx_R_sI, hx_nx_sL, hx_ce_sL, hx_sl_sL, hx_kd_sL, hx_ln_sL, hx_I_sL, hx_L_sL, hx_R_sL, hx_nx_sR, hx_ce_sR, hx_sl_sR, hx_kd_sR, hx_ln_sR, hx_I_sR, hx_L_sR, hx_R_sR, hx_nx_al, hx_ce_al, hx_sl_al, hx_kd_al, hx_ln_al, hx_I_al, hx_L_al, hx_R_al, hx_nx_row, hx_ce_row, hx_sl_row, hx_kd_row, hx_ln_row, hx_I_row, hx_L_row, hx_R_row, hx_nx_mk, hx_kd_mk, hx_ln_mk, hx_I_mk, hx_L_mk, hx_R_mk, q72, r29, k90, n90, y4, a1, a0, one0, i1, c1, l1]
  refine am_go [61] 2 ?_
  simp only [am_wp, am_stp, am_en, am_as, am_pad, am_nth, am_set, am_st1, am_st2, am_kl, am_kill, am_mem, am_fv, am_tk, am_wt, am_bk, Option.toList, List.cons_append, List.nil_append, Nat.reduceAdd, Nat.reduceEqDiff, Nat.reduceLeDiff, reduceIte, Nat.reduceLT, or_self, true_or, or_true, if_true, if_false, and_self, and_true, true_and, not_false_eq_true, not_true_eq_false, fd_Mo_badAt_59, fd_Mo_badAt_60]
  have fr : am_fi [72, 90] h (am_sI (am_sI g 90 0 0) 90 1 1) := ((f.sub (by simp)).sI (by simp)).sI (by simp)
  have w73 : am_I (am_sI (am_sI g 90 0 0) 90 1 1) 73 = am_I h 73 := fr.2.2.2.2.2.2.1 73 (by simp)
  have hr : mo_Rt (am_sI (am_sI g 90 0 0) 90 1 1) 1 := by
    unfold mo_Rt
    rw [w73]
    exact (mo_Rt_new hM (by decide)).mpr (by decide)
  have hu : ∀ p, p < P → am_I (am_sI (am_sI g 90 0 0) 90 1 1) 90 p = if p = 1 then 1 else 0 := by
    intro p hp
    simp only [hx_nx_sI, hx_ce_sI, hx_sl_sI, hx_kd_sI, hx_ln_sI, hx_I_sI, hx_L_sI, hx_R_sI, hx_nx_sL, hx_ce_sL, hx_sl_sL, hx_kd_sL, hx_ln_sL, hx_I_sL, hx_L_sL, hx_R_sL, hx_nx_sR, hx_ce_sR, hx_sl_sR, hx_kd_sR, hx_ln_sR, hx_I_sR, hx_L_sR, hx_R_sR, hx_nx_al, hx_ce_al, hx_sl_al, hx_kd_al, hx_ln_al, hx_I_al, hx_L_al, hx_R_al, hx_nx_row, hx_ce_row, hx_sl_row, hx_kd_row, hx_ln_row, hx_I_row, hx_L_row, hx_R_row, hx_nx_mk, hx_kd_mk, hx_ln_mk, hx_I_mk, hx_L_mk, hx_R_mk, am_wp, am_stp, am_en, am_as, am_pad, am_nth, am_set, am_st1, am_st2, am_kl, am_kill, am_mem, am_fv, am_tk, am_wt, am_bk, Option.toList, List.cons_append, List.nil_append, Nat.reduceAdd, Nat.reduceEqDiff, Nat.reduceLeDiff, reduceIte, Nat.reduceLT, or_self, true_or, or_true, if_true, if_false, and_self, and_true, true_and, not_false_eq_true, not_true_eq_false]
    by_cases e1 : p = 1
    · rw [if_pos e1, if_pos e1]
    · rw [if_neg e1, if_neg e1]
      by_cases e0 : p = 0
      · rw [if_pos e0]
      · rw [if_neg e0]
        obtain ⟨va, vb⟩ := v p hp
        rcases va with va | va
        · exact va
        · rcases vb.mp va with w | w
          · omega
          · exact absurd w (hT p)
  exact l2_Mo_bad_loop hP (hS.fi fr) ((congrFun (congrFun rfl 72) 1).trans y1) hr hu ⟨rfl, fr⟩ P 0 (by omega)
theorem op_badAt (xs : Nat → Int32) : lw_op xs 1460 := by
  intro d h G
  obtain ⟨g1, g2, g3, g4, g5, g6, g7, g8, g9, g10⟩ := id G
  obtain ⟨s1, s2, s3⟩ := g4.2.2.2.2.2.2.2.2.2.2.2.2.2.2
  have hP := g4.2.2.2.1
  have hP4 := hP.2.2.2.2.2.2.2.2.1
  have hPb := hP.2.2.2.2.2.2.2.2.2
  have k72 := g5.1.1
  refine am_go [] 2 ?_
  simp only [am_wp, am_stp, am_en, am_as, am_pad, am_nth, am_set, am_st1, am_st2, am_kl, am_kill, am_mem, am_fv, am_tk, am_wt, am_bk, Option.toList, List.cons_append, List.nil_append, Nat.reduceAdd, Nat.reduceEqDiff, Nat.reduceLeDiff, reduceIte, Nat.reduceLT, or_self, true_or, or_true, if_true, if_false, and_self, and_true, true_and, not_false_eq_true, not_true_eq_false, fd_La_law_1460, fd_La_law_1461, s1]
  refine am_call (l2_SR_badAt g4) (fun o h1 q => ?_)
  obtain ⟨rfl, rfl⟩ := q
  simp only [am_wp, am_stp, am_en, am_as, am_pad, am_nth, am_set, am_st1, am_st2, am_kl, am_kill, am_mem, am_fv, am_tk, am_wt, am_bk, Option.toList, List.cons_append, List.nil_append, Nat.reduceAdd, Nat.reduceEqDiff, Nat.reduceLeDiff, reduceIte, Nat.reduceLT, or_self, true_or, or_true, if_true, if_false, and_self, and_true, true_and, not_false_eq_true, not_true_eq_false]
  refine am_go [] 2 ?_
  simp only [am_wp, am_stp, am_en, am_as, am_pad, am_nth, am_set, am_st1, am_st2, am_kl, am_kill, am_mem, am_fv, am_tk, am_wt, am_bk, Option.toList, List.cons_append, List.nil_append, Nat.reduceAdd, Nat.reduceEqDiff, Nat.reduceLeDiff, reduceIte, Nat.reduceLT, or_self, true_or, or_true, if_true, if_false, and_self, and_true, true_and, not_false_eq_true, not_true_eq_false, fd_La_law_1464, fd_La_law_1465, k72]
  refine am_call (l2_Mo_badAt g5 hPb (by omega)) (fun o h2 q => ?_)
  obtain ⟨rfl, f⟩ := q
  simp only [am_wp, am_stp, am_en, am_as, am_pad, am_nth, am_set, am_st1, am_st2, am_kl, am_kill, am_mem, am_fv, am_tk, am_wt, am_bk, Option.toList, List.cons_append, List.nil_append, Nat.reduceAdd, Nat.reduceEqDiff, Nat.reduceLeDiff, reduceIte, Nat.reduceLT, or_self, true_or, or_true, if_true, if_false, and_self, and_true, true_and, not_false_eq_true, not_true_eq_false]
  refine am_go [1471, 1634] 1 ?_
  simp only [am_wp, am_stp, am_en, am_as, am_pad, am_nth, am_set, am_st1, am_st2, am_kl, am_kill, am_mem, am_fv, am_tk, am_wt, am_bk, Option.toList, List.cons_append, List.nil_append, Nat.reduceAdd, Nat.reduceEqDiff, Nat.reduceLeDiff, reduceIte, Nat.reduceLT, or_self, true_or, or_true, if_true, if_false, and_self, and_true, true_and, not_false_eq_true, not_true_eq_false, fd_La_law_1468]
  exact lw_fi G f
