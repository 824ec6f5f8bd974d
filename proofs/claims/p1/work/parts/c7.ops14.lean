/-! many ON A NEW OBJECT -/
theorem cl_S_new {P : Nat} {h : am_H} (F : fr_All P h) (h9 : am_nx h = 109) : cl_S P h 0 [] := by
  obtain ⟨⟨f1, f1'⟩, -, f3, f4, f5, f6, f7, ⟨f8, f8a, f8b⟩, f9, f10, f11, ⟨b1, b2, b3, b4, b5, b6⟩, -, -, s1, s2, s3⟩ := F
  obtain ⟨c1, c2, c3, c4⟩ := f1'
  have P4 := f4.2.2.2.2.2.2.2.2.1
  have P1024 := f4.2.2.2.2.2.2.2.2.2
  refine ⟨⟨⟨s1, by rw [s2]; rfl, by rw [s2]; rfl, by rw [s2]; rfl, by rw [s2]; rfl, by rw [s2]; rfl, by rw [s2]; rfl⟩, f3, f4, ⟨f8, by rw [f8a]; rfl, by rw [f8a]; rfl, by rw [f8a]; rfl, by rw [f8b]; rfl, f9.1, f9.2.1, f10.1, f10.2.1, f11.1, f11.2.1, P4, P1024⟩, ⟨b1.1, by rw [b1.2.2.2]; rfl, b2.1, by rw [b1.2.2.2]; rfl, by rw [b1.2.2.2]; rfl, by rw [b1.2.2.2]; rfl, b4.1, b4.2.1, b3.1, b3.2.1, fun j hj => by rw [b3.2.2.2]; exact if_pos hj, ⟨b5.1, by rw [b5.2.2.2]; rfl⟩, fun j hj => ⟨(b6 j hj).1, by rw [(b6 j hj).2.2.2]; rfl, by rw [(b6 j hj).2.2.2]; rfl⟩⟩, ⟨c1.1, by rw [c1.2.2.2]; rfl, c2.1, c2.2.1⟩, by rw [f5]; rfl, by rw [s3]; rfl⟩, tb_S_new f1, ⟨fun i r e => by simp at e, c1.2.2.1.1 1, by simp, by simp, by simp [pgs]⟩, ⟨?_, ?_⟩, by omega⟩
  · rw [fz_all P (fun q _ _ => f9.2.2.1.1 q), f8b]; rfl
  · rw [fz_all P (fun q _ _ => f9.2.2.1.1 q)]; simp [pgs]
theorem rf_S_new {P : Nat} {h : am_H} (M : mo_All P h) (P4 : 4 ≤ P) (P1024 : P ≤ 1024) : rf_S P h 0 [] := by
  have hS := M.Sk
  obtain ⟨m1, m2, m3, m4, m5, m6, m7⟩ := M
  refine ⟨⟨hS, by rw [m2]; rfl, by rw [m2]; rfl, by rw [m2]; rfl, P4, P1024⟩, ⟨hS, by rw [m2]; rfl, by decide⟩, ⟨fun i r e => by simp at e, by rw [m2]; rfl, by simp, by simp, by simp [pgs], fun s _ _ => ?_⟩⟩
  exact (m5 4 (100, 100, 15) (by decide) (by decide) rfl).2.2.1.1 s
theorem kd_123 (k : Int32) : (¬ k < 1 ∧ ¬ 3 < k) ↔ (k = 1 ∨ k = 2 ∨ k = 3) := by
  have a1 : (1 : Int32).toInt = 1 := by decide
  have a2 : (2 : Int32).toInt = 2 := by decide
  have a3 : (3 : Int32).toInt = 3 := by decide
  rw [Int32.lt_iff_toInt_lt, Int32.lt_iff_toInt_lt, ← Int32.toInt_inj, ← Int32.toInt_inj, ← Int32.toInt_inj, a1, a2, a3]
  omega
theorem nn_1000 {k : Int32} (h1 : ¬ k < 1) (h2 : ¬ 1000 < k) : ∃ n, k = nI n ∧ 1 ≤ n ∧ n ≤ 1000 := by
  have a1 : (1 : Int32).toInt = 1 := by decide
  have a2 : (1000 : Int32).toInt = 1000 := by decide
  rw [Int32.lt_iff_toInt_lt, a1] at h1
  rw [Int32.lt_iff_toInt_lt, a2] at h2
  refine ⟨k.toInt.toNat, ?_, by omega, by omega⟩
  rw [← Int32.toInt_inj]
  show k.toInt = (Int32.ofNat k.toInt.toNat).toInt
  rw [Int32.toInt_ofNat_of_lt (by omega)]
  omega
theorem l2_isKind {d : Nat} {k : Int32} {h : am_H} : am_Rt nm_pr (d + 1) mi_SR_isKind [.int k] h (fun o h' => o = .inl (some (.int (if k = 1 ∨ k = 2 ∨ k = 3 then 1 else 0))) ∧ h' = h) := by
  have o0 : (0 : Int32) = 0 ∨ (0 : Int32) = 1 := by decide
  have o1 : (1 : Int32) = 0 ∨ (1 : Int32) = 1 := by decide
  refine am_in' mt_SR_isKind 1 rfl rfl rfl ?_
  refine am_go [15] 3 ?_
  simp only [am_wp, am_stp, am_en, am_as, am_pad, am_nth, am_set, am_st1, am_st2, am_kl, am_kill, am_mem, am_fv, am_tk, am_wt, am_bk, Option.toList, List.cons_append, List.nil_append, Nat.reduceAdd, Nat.reduceEqDiff, Nat.reduceLeDiff, reduceIte, Nat.reduceLT, or_self, true_or, or_true, if_true, if_false, and_self, and_true, true_and, not_false_eq_true, not_true_eq_false, fd_SR_isKind_0, fd_SR_isKind_1, fd_SR_isKind_2]
  by_cases e1 : k = 1
  · simp only [e1, am_wp, am_stp, am_en, am_as, am_pad, am_nth, am_set, am_st1, am_st2, am_kl, am_kill, am_mem, am_fv, am_tk, am_wt, am_bk, Option.toList, List.cons_append, List.nil_append, Nat.reduceAdd, Nat.reduceEqDiff, Nat.reduceLeDiff, reduceIte, Nat.reduceLT, or_self, true_or, or_true, if_true, if_false, and_self, and_true, true_and, not_false_eq_true, not_true_eq_false]
    refine am_go [] 4 ?_
    simp only [am_wp, am_stp, am_en, am_as, am_pad, am_nth, am_set, am_st1, am_st2, am_kl, am_kill, am_mem, am_fv, am_tk, am_wt, am_bk, Option.toList, List.cons_append, List.nil_append, Nat.reduceAdd, Nat.reduceEqDiff, Nat.reduceLeDiff, reduceIte, Nat.reduceLT, or_self, true_or, or_true, if_true, if_false, and_self, and_true, true_and, not_false_eq_true, not_true_eq_false, fd_SR_isKind_15, fd_SR_isKind_16, fd_SR_isKind_19, fd_SR_isKind_20, o1]
  simp only [e1, am_wp, am_stp, am_en, am_as, am_pad, am_nth, am_set, am_st1, am_st2, am_kl, am_kill, am_mem, am_fv, am_tk, am_wt, am_bk, Option.toList, List.cons_append, List.nil_append, Nat.reduceAdd, Nat.reduceEqDiff, Nat.reduceLeDiff, reduceIte, Nat.reduceLT, or_self, true_or, or_true, if_true, if_false, and_self, and_true, true_and, not_false_eq_true, not_true_eq_false]
  refine am_go [15] 3 ?_
  simp only [am_wp, am_stp, am_en, am_as, am_pad, am_nth, am_set, am_st1, am_st2, am_kl, am_kill, am_mem, am_fv, am_tk, am_wt, am_bk, Option.toList, List.cons_append, List.nil_append, Nat.reduceAdd, Nat.reduceEqDiff, Nat.reduceLeDiff, reduceIte, Nat.reduceLT, or_self, true_or, or_true, if_true, if_false, and_self, and_true, true_and, not_false_eq_true, not_true_eq_false, fd_SR_isKind_5, fd_SR_isKind_6, fd_SR_isKind_7]
  by_cases e2 : k = 2
  · simp only [e2, am_wp, am_stp, am_en, am_as, am_pad, am_nth, am_set, am_st1, am_st2, am_kl, am_kill, am_mem, am_fv, am_tk, am_wt, am_bk, Option.toList, List.cons_append, List.nil_append, Nat.reduceAdd, Nat.reduceEqDiff, Nat.reduceLeDiff, reduceIte, Nat.reduceLT, or_self, true_or, or_true, if_true, if_false, and_self, and_true, true_and, not_false_eq_true, not_true_eq_false]
    refine am_go [] 4 ?_
    simp only [am_wp, am_stp, am_en, am_as, am_pad, am_nth, am_set, am_st1, am_st2, am_kl, am_kill, am_mem, am_fv, am_tk, am_wt, am_bk, Option.toList, List.cons_append, List.nil_append, Nat.reduceAdd, Nat.reduceEqDiff, Nat.reduceLeDiff, reduceIte, Nat.reduceLT, or_self, true_or, or_true, if_true, if_false, and_self, and_true, true_and, not_false_eq_true, not_true_eq_false, fd_SR_isKind_15, fd_SR_isKind_16, fd_SR_isKind_19, fd_SR_isKind_20, o1]
  simp only [e2, am_wp, am_stp, am_en, am_as, am_pad, am_nth, am_set, am_st1, am_st2, am_kl, am_kill, am_mem, am_fv, am_tk, am_wt, am_bk, Option.toList, List.cons_append, List.nil_append, Nat.reduceAdd, Nat.reduceEqDiff, Nat.reduceLeDiff, reduceIte, Nat.reduceLT, or_self, true_or, or_true, if_true, if_false, and_self, and_true, true_and, not_false_eq_true, not_true_eq_false]
  refine am_go [15, 19] 3 ?_
  simp only [am_wp, am_stp, am_en, am_as, am_pad, am_nth, am_set, am_st1, am_st2, am_kl, am_kill, am_mem, am_fv, am_tk, am_wt, am_bk, Option.toList, List.cons_append, List.nil_append, Nat.reduceAdd, Nat.reduceEqDiff, Nat.reduceLeDiff, reduceIte, Nat.reduceLT, or_self, true_or, or_true, if_true, if_false, and_self, and_true, true_and, not_false_eq_true, not_true_eq_false, fd_SR_isKind_10, fd_SR_isKind_11, fd_SR_isKind_12]
  by_cases e3 : k = 3
  · simp only [e3, am_wp, am_stp, am_en, am_as, am_pad, am_nth, am_set, am_st1, am_st2, am_kl, am_kill, am_mem, am_fv, am_tk, am_wt, am_bk, Option.toList, List.cons_append, List.nil_append, Nat.reduceAdd, Nat.reduceEqDiff, Nat.reduceLeDiff, reduceIte, Nat.reduceLT, or_self, true_or, or_true, if_true, if_false, and_self, and_true, true_and, not_false_eq_true, not_true_eq_false]
    refine am_go [] 4 ?_
    simp only [am_wp, am_stp, am_en, am_as, am_pad, am_nth, am_set, am_st1, am_st2, am_kl, am_kill, am_mem, am_fv, am_tk, am_wt, am_bk, Option.toList, List.cons_append, List.nil_append, Nat.reduceAdd, Nat.reduceEqDiff, Nat.reduceLeDiff, reduceIte, Nat.reduceLT, or_self, true_or, or_true, if_true, if_false, and_self, and_true, true_and, not_false_eq_true, not_true_eq_false, fd_SR_isKind_15, fd_SR_isKind_16, fd_SR_isKind_19, fd_SR_isKind_20, o1]
  simp only [e3, am_wp, am_stp, am_en, am_as, am_pad, am_nth, am_set, am_st1, am_st2, am_kl, am_kill, am_mem, am_fv, am_tk, am_wt, am_bk, Option.toList, List.cons_append, List.nil_append, Nat.reduceAdd, Nat.reduceEqDiff, Nat.reduceLeDiff, reduceIte, Nat.reduceLT, or_self, true_or, or_true, if_true, if_false, and_self, and_true, true_and, not_false_eq_true, not_true_eq_false]
  refine am_go [] 3 ?_
  simp only [am_wp, am_stp, am_en, am_as, am_pad, am_nth, am_set, am_st1, am_st2, am_kl, am_kill, am_mem, am_fv, am_tk, am_wt, am_bk, Option.toList, List.cons_append, List.nil_append, Nat.reduceAdd, Nat.reduceEqDiff, Nat.reduceLeDiff, reduceIte, Nat.reduceLT, or_self, true_or, or_true, if_true, if_false, and_self, and_true, true_and, not_false_eq_true, not_true_eq_false, fd_SR_isKind_19, fd_SR_isKind_20, o0]
