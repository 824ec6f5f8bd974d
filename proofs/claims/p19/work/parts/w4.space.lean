/-! THE SPACE, WEAKLY -/
theorem in_nat {v : Int32} {P : Nat} (hP : P ≤ 1024) (h1 : ¬ v < 0) (h2 : v < nI P) : ∃ p, p < P ∧ v = nI p := by
  have a1 : (0 : Int32).toInt = 0 := by decide
  have a2 : (nI P).toInt = P := Int32.toInt_ofNat_of_lt (by omega)
  rw [Int32.lt_iff_toInt_lt, a1] at h1
  rw [Int32.lt_iff_toInt_lt, a2] at h2
  refine ⟨v.toInt.toNat, by omega, ?_⟩
  rw [← Int32.toInt_inj]
  show v.toInt = (Int32.ofNat v.toInt.toNat).toInt
  rw [Int32.toInt_ofNat_of_lt (by omega)]
  omega
theorem in_nat2 {v : Int32} {P : Nat} (hP : P ≤ 1024) (h1 : ¬ v < 2) (h2 : v < nI P) : ∃ p, 2 ≤ p ∧ p < P ∧ v = nI p := by
  have a1 : (2 : Int32).toInt = 2 := by decide
  have a0 : (0 : Int32).toInt = 0 := by decide
  have h0 : ¬ v < 0 := fun q => h1 (by
    rw [Int32.lt_iff_toInt_lt, a0] at q
    rw [Int32.lt_iff_toInt_lt, a1]
    omega)
  obtain ⟨p, p1, p2⟩ := in_nat hP h0 h2
  refine ⟨p, ?_, p1, p2⟩
  by_cases e : 2 ≤ p
  · exact e
  · exact absurd (by rw [p2]; exact nI_lt (b := 2) (by omega) (by decide)) h1
theorem wk.sp {P : Nat} {h : am_H} (w : wk P h) : (am_kd h 21 = 9 ∧ am_R h 21 1 = 22 ∧ am_R h 21 2 = 23 ∧ am_R h 21 3 = 24 ∧ am_kd h 22 = 100 ∧ am_kd h 23 = 100 ∧ am_kd h 24 = 101) ∧ (am_ln h 22 = P ∧ am_ln h 23 = P ∧ am_ln h 24 = P) ∧ am_I h 21 0 = nI P ∧ 4 ≤ P ∧ P ≤ 1024 :=
  ⟨⟨w.kd 21 9 (by decide), w.R 21 1 22 (by decide), w.R 21 2 23 (by decide), w.R 21 3 24 (by decide), w.kd 22 100 (by decide), w.kd 23 100 (by decide), w.kd 24 101 (by decide)⟩, w.1.2.2.1.2.2, (w.2.1 21 0).1 ⟨Or.inr rfl, rfl⟩, w.1.2.2.2.2.2.2.2⟩
theorem ww_has {d P : Nat} {v : Int32} {h : am_H} (w : wk P h) : am_Rt nm_pr (d + 1) mi_Space_has [.ref 21, .int v] h (fun o h' => h' = h ∧ ((o = .inl (some (.int 1)) ∧ ∃ p, 2 ≤ p ∧ p < P ∧ v = nI p) ∨ o = .inl (some (.int 0)))) := by
  have o0 : (0 : Int32) = 0 ∨ (0 : Int32) = 1 := by decide
  have o1 : (1 : Int32) = 0 ∨ (1 : Int32) = 1 := by decide
  obtain ⟨⟨k21, -⟩, -, i0, P4, P1⟩ := w.sp
  have fin : am_Ex nm_pr d mt_Space_has (17, [.ref 21, .int v], [], h) (fun o h' => h' = h ∧ ((o = .inl (some (.int 1)) ∧ ∃ p, 2 ≤ p ∧ p < P ∧ v = nI p) ∨ o = .inl (some (.int 0)))) := by
    refine am_go [] 2 ?_
    simp only [am_wp, am_stp, am_en, am_as, am_pad, am_nth, am_set, am_st1, am_st2, am_kl, am_kill, am_mem, am_fv, am_tk, am_wt, am_bk, Option.toList, List.cons_append, List.nil_append, Nat.reduceAdd, Nat.reduceEqDiff, Nat.reduceLeDiff, reduceIte, Nat.reduceLT, or_self, true_or, or_true, if_true, if_false, and_self, and_true, true_and, not_false_eq_true, not_true_eq_false, fd_Space_has_17, fd_Space_has_18, o0]
  refine am_in' mt_Space_has 2 rfl rfl rfl ?_
  refine am_go [5, 17] 3 ?_
  simp only [am_wp, am_stp, am_en, am_as, am_pad, am_nth, am_set, am_st1, am_st2, am_kl, am_kill, am_mem, am_fv, am_tk, am_wt, am_bk, Option.toList, List.cons_append, List.nil_append, Nat.reduceAdd, Nat.reduceEqDiff, Nat.reduceLeDiff, reduceIte, Nat.reduceLT, or_self, true_or, or_true, if_true, if_false, and_self, and_true, true_and, not_false_eq_true, not_true_eq_false, fd_Space_has_0, fd_Space_has_1, fd_Space_has_2]
  by_cases e1 : v < 2
  · simp only [e1, am_wp, am_stp, am_en, am_as, am_pad, am_nth, am_set, am_st1, am_st2, am_kl, am_kill, am_mem, am_fv, am_tk, am_wt, am_bk, Option.toList, List.cons_append, List.nil_append, Nat.reduceAdd, Nat.reduceEqDiff, Nat.reduceLeDiff, reduceIte, Nat.reduceLT, or_self, true_or, or_true, if_true, if_false, and_self, and_true, true_and, not_false_eq_true, not_true_eq_false]
    exact fin
  simp only [e1, am_wp, am_stp, am_en, am_as, am_pad, am_nth, am_set, am_st1, am_st2, am_kl, am_kill, am_mem, am_fv, am_tk, am_wt, am_bk, Option.toList, List.cons_append, List.nil_append, Nat.reduceAdd, Nat.reduceEqDiff, Nat.reduceLeDiff, reduceIte, Nat.reduceLT, or_self, true_or, or_true, if_true, if_false, and_self, and_true, true_and, not_false_eq_true, not_true_eq_false]
  refine am_go [13, 17] 4 ?_
  simp only [am_wp, am_stp, am_en, am_as, am_pad, am_nth, am_set, am_st1, am_st2, am_kl, am_kill, am_mem, am_fv, am_tk, am_wt, am_bk, Option.toList, List.cons_append, List.nil_append, Nat.reduceAdd, Nat.reduceEqDiff, Nat.reduceLeDiff, reduceIte, Nat.reduceLT, or_self, true_or, or_true, if_true, if_false, and_self, and_true, true_and, not_false_eq_true, not_true_eq_false, fd_Space_has_5, fd_Space_has_6, fd_Space_has_7, fd_Space_has_10, k21, i0]
  by_cases e2 : v < nI P
  · simp only [e2, am_wp, am_stp, am_en, am_as, am_pad, am_nth, am_set, am_st1, am_st2, am_kl, am_kill, am_mem, am_fv, am_tk, am_wt, am_bk, Option.toList, List.cons_append, List.nil_append, Nat.reduceAdd, Nat.reduceEqDiff, Nat.reduceLeDiff, reduceIte, Nat.reduceLT, or_self, true_or, or_true, if_true, if_false, and_self, and_true, true_and, not_false_eq_true, not_true_eq_false]
    refine am_go [] 4 ?_
    simp only [am_wp, am_stp, am_en, am_as, am_pad, am_nth, am_set, am_st1, am_st2, am_kl, am_kill, am_mem, am_fv, am_tk, am_wt, am_bk, Option.toList, List.cons_append, List.nil_append, Nat.reduceAdd, Nat.reduceEqDiff, Nat.reduceLeDiff, reduceIte, Nat.reduceLT, or_self, true_or, or_true, if_true, if_false, and_self, and_true, true_and, not_false_eq_true, not_true_eq_false, fd_Space_has_13, fd_Space_has_14, fd_Space_has_17, fd_Space_has_18, o1]
    exact Or.inl (in_nat2 P1 e1 e2)
  simp only [e2, am_wp, am_stp, am_en, am_as, am_pad, am_nth, am_set, am_st1, am_st2, am_kl, am_kill, am_mem, am_fv, am_tk, am_wt, am_bk, Option.toList, List.cons_append, List.nil_append, Nat.reduceAdd, Nat.reduceEqDiff, Nat.reduceLeDiff, reduceIte, Nat.reduceLT, or_self, true_or, or_true, if_true, if_false, and_self, and_true, true_and, not_false_eq_true, not_true_eq_false]
  exact fin
theorem ww_after {d P : Nat} {v : Int32} {h : am_H} (w : wk P h) : am_Rt nm_pr (d + 2) mi_Space_after [.ref 21, .int v] h (fun o h' => (∃ x, o = .inl (some (.int x))) ∧ h' = h) := by
  obtain ⟨⟨k21, r1, r2, r3, k22, k23, k24⟩, ⟨n22, n23, n24⟩, i0, P4, P1⟩ := w.sp
  have one0 : ¬ (1 : Int32) = 0 := by decide
  refine am_in' (d := d + 1) mt_Space_after 2 rfl rfl rfl ?_
  refine am_go [] 3 ?_
  simp only [am_wp, am_stp, am_en, am_as, am_pad, am_nth, am_set, am_st1, am_st2, am_kl, am_kill, am_mem, am_fv, am_tk, am_wt, am_bk, Option.toList, List.cons_append, List.nil_append, Nat.reduceAdd, Nat.reduceEqDiff, Nat.reduceLeDiff, reduceIte, Nat.reduceLT, or_self, true_or, or_true, if_true, if_false, and_self, and_true, true_and, not_false_eq_true, not_true_eq_false, fd_Space_after_0, fd_Space_after_1, fd_Space_after_2, k21]
  refine am_call (ww_has w) (fun o h1 q => ?_)
  obtain ⟨rfl, q⟩ := q
  rcases q with ⟨rfl, p, p1, p2, rfl⟩ | rfl
  · have i1 := am_inb (c := p) (N := P) p2 (by omega)
    have q1 : (nI p).toNatClampNeg = p := nI_clamp (by omega)
    simp only [am_wp, am_stp, am_en, am_as, am_pad, am_nth, am_set, am_st1, am_st2, am_kl, am_kill, am_mem, am_fv, am_tk, am_wt, am_bk, Option.toList, List.cons_append, List.nil_append, Nat.reduceAdd, Nat.reduceEqDiff, Nat.reduceLeDiff, reduceIte, Nat.reduceLT, or_self, true_or, or_true, if_true, if_false, and_self, and_true, true_and, not_false_eq_true, not_true_eq_false]
    refine am_go [17] 7 ?_
    simp only [am_wp, am_stp, am_en, am_as, am_pad, am_nth, am_set, am_st1, am_st2, am_kl, am_kill, am_mem, am_fv, am_tk, am_wt, am_bk, Option.toList, List.cons_append, List.nil_append, Nat.reduceAdd, Nat.reduceEqDiff, Nat.reduceLeDiff, reduceIte, Nat.reduceLT, or_self, true_or, or_true, if_true, if_false, and_self, and_true, true_and, not_false_eq_true, not_true_eq_false, fd_Space_after_5, fd_Space_after_8, fd_Space_after_9, fd_Space_after_12, fd_Space_after_13, fd_Space_after_14, fd_Space_after_18, k21, r2, k23, n23, i1, q1, one0]
    exact ⟨_, rfl⟩
  · simp only [am_wp, am_stp, am_en, am_as, am_pad, am_nth, am_set, am_st1, am_st2, am_kl, am_kill, am_mem, am_fv, am_tk, am_wt, am_bk, Option.toList, List.cons_append, List.nil_append, Nat.reduceAdd, Nat.reduceEqDiff, Nat.reduceLeDiff, reduceIte, Nat.reduceLT, or_self, true_or, or_true, if_true, if_false, and_self, and_true, true_and, not_false_eq_true, not_true_eq_false]
    refine am_go [8] 3 ?_
    simp only [am_wp, am_stp, am_en, am_as, am_pad, am_nth, am_set, am_st1, am_st2, am_kl, am_kill, am_mem, am_fv, am_tk, am_wt, am_bk, Option.toList, List.cons_append, List.nil_append, Nat.reduceAdd, Nat.reduceEqDiff, Nat.reduceLeDiff, reduceIte, Nat.reduceLT, or_self, true_or, or_true, if_true, if_false, and_self, and_true, true_and, not_false_eq_true, not_true_eq_false, fd_Space_after_5, fd_Space_after_17, fd_Space_after_18]
    exact ⟨_, rfl⟩
theorem ww_beginsAbove {d P : Nat} {v : Int32} {z : Int64} {h : am_H} (w : wk P h) : am_Rt nm_pr (d + 2) mi_Space_beginsAbove [.ref 21, .int v, .long z] h (fun o h' => b01 o ∧ h' = h) := by
  obtain ⟨⟨k21, r1, r2, r3, k22, k23, k24⟩, ⟨n22, n23, n24⟩, i0, P4, P1⟩ := w.sp
  have one0 : ¬ (1 : Int32) = 0 := by decide
  have o0 : (0 : Int32) = 0 ∨ (0 : Int32) = 1 := by decide
  have o1 : (1 : Int32) = 0 ∨ (1 : Int32) = 1 := by decide
  have fin1 : am_Ex nm_pr (d + 1) mt_Space_beginsAbove (19, [.ref 21, .int v, .long z, .retAddr 0], [], h) (fun o h' => b01 o ∧ h' = h) := by
    refine am_go [] 4 ?_
    simp only [am_wp, am_stp, am_en, am_as, am_pad, am_nth, am_set, am_st1, am_st2, am_kl, am_kill, am_mem, am_fv, am_tk, am_wt, am_bk, Option.toList, List.cons_append, List.nil_append, Nat.reduceAdd, Nat.reduceEqDiff, Nat.reduceLeDiff, reduceIte, Nat.reduceLT, or_self, true_or, or_true, if_true, if_false, and_self, and_true, true_and, not_false_eq_true, not_true_eq_false, fd_Space_beginsAbove_19, fd_Space_beginsAbove_20, fd_Space_beginsAbove_23, fd_Space_beginsAbove_24, o1]
    exact Or.inr rfl
  refine am_in' (d := d + 1) mt_Space_beginsAbove 4 rfl rfl rfl ?_
  refine am_go [] 3 ?_
  simp only [am_wp, am_stp, am_en, am_as, am_pad, am_nth, am_set, am_st1, am_st2, am_kl, am_kill, am_mem, am_fv, am_tk, am_wt, am_bk, Option.toList, List.cons_append, List.nil_append, Nat.reduceAdd, Nat.reduceEqDiff, Nat.reduceLeDiff, reduceIte, Nat.reduceLT, or_self, true_or, or_true, if_true, if_false, and_self, and_true, true_and, not_false_eq_true, not_true_eq_false, fd_Space_beginsAbove_0, fd_Space_beginsAbove_1, fd_Space_beginsAbove_2, k21]
  refine am_call (ww_has w) (fun o h1 q => ?_)
  obtain ⟨rfl, q⟩ := q
  rcases q with ⟨rfl, p, p1, p2, rfl⟩ | rfl
  · have i1 := am_inb (c := p) (N := P) p2 (by omega)
    have q1 : (nI p).toNatClampNeg = p := nI_clamp (by omega)
    simp only [am_wp, am_stp, am_en, am_as, am_pad, am_nth, am_set, am_st1, am_st2, am_kl, am_kill, am_mem, am_fv, am_tk, am_wt, am_bk, Option.toList, List.cons_append, List.nil_append, Nat.reduceAdd, Nat.reduceEqDiff, Nat.reduceLeDiff, reduceIte, Nat.reduceLT, or_self, true_or, or_true, if_true, if_false, and_self, and_true, true_and, not_false_eq_true, not_true_eq_false]
    refine am_go [19, 23] 8 ?_
    simp only [am_wp, am_stp, am_en, am_as, am_pad, am_nth, am_set, am_st1, am_st2, am_kl, am_kill, am_mem, am_fv, am_tk, am_wt, am_bk, Option.toList, List.cons_append, List.nil_append, Nat.reduceAdd, Nat.reduceEqDiff, Nat.reduceLeDiff, reduceIte, Nat.reduceLT, or_self, true_or, or_true, if_true, if_false, and_self, and_true, true_and, not_false_eq_true, not_true_eq_false, fd_Space_beginsAbove_5, fd_Space_beginsAbove_8, fd_Space_beginsAbove_9, fd_Space_beginsAbove_12, fd_Space_beginsAbove_13, fd_Space_beginsAbove_14, fd_Space_beginsAbove_15, fd_Space_beginsAbove_16, k21, r3, k24, n24, i1, q1, one0]
    refine wif ?_ ?_
    · exact fin1
    · refine am_go [] 2 ?_
      simp only [am_wp, am_stp, am_en, am_as, am_pad, am_nth, am_set, am_st1, am_st2, am_kl, am_kill, am_mem, am_fv, am_tk, am_wt, am_bk, Option.toList, List.cons_append, List.nil_append, Nat.reduceAdd, Nat.reduceEqDiff, Nat.reduceLeDiff, reduceIte, Nat.reduceLT, or_self, true_or, or_true, if_true, if_false, and_self, and_true, true_and, not_false_eq_true, not_true_eq_false, fd_Space_beginsAbove_23, fd_Space_beginsAbove_24, o0]
      exact Or.inl rfl
  · simp only [am_wp, am_stp, am_en, am_as, am_pad, am_nth, am_set, am_st1, am_st2, am_kl, am_kill, am_mem, am_fv, am_tk, am_wt, am_bk, Option.toList, List.cons_append, List.nil_append, Nat.reduceAdd, Nat.reduceEqDiff, Nat.reduceLeDiff, reduceIte, Nat.reduceLT, or_self, true_or, or_true, if_true, if_false, and_self, and_true, true_and, not_false_eq_true, not_true_eq_false]
    refine am_go [19, 8] 1 ?_
    simp only [am_wp, am_stp, am_en, am_as, am_pad, am_nth, am_set, am_st1, am_st2, am_kl, am_kill, am_mem, am_fv, am_tk, am_wt, am_bk, Option.toList, List.cons_append, List.nil_append, Nat.reduceAdd, Nat.reduceEqDiff, Nat.reduceLeDiff, reduceIte, Nat.reduceLT, or_self, true_or, or_true, if_true, if_false, and_self, and_true, true_and, not_false_eq_true, not_true_eq_false, fd_Space_beginsAbove_5]
    exact fin1
theorem wcell_21 {P j : Nat} {v : Int32} (hj : j ≠ 0) : wcell P 21 j v := by
  refine ⟨fun q => ?_, fun q => ?_, fun q => ?_, fun q => ?_, fun q => ?_, fun q => ?_, fun q => ?_, fun q => ?_⟩ <;> omega
theorem cw_lt {a : Nat} (h1 : 2 ≤ a) (h2 : a < 72) : cw a := Or.inl ⟨h1, h2⟩
theorem ww_claim {d P : Nat} {v u : Int32} {z : Int64} {h : am_H} (w : wk P h) : am_Rt nm_pr (d + 2) mi_Space_claim [.ref 21, .int v, .int u, .long z] h (fun o h' => o = .inl none ∧ wp P 0 h h') := by
  obtain ⟨⟨k21, r1, r2, r3, k22, k23, k24⟩, ⟨n22, n23, n24⟩, i0, P4, P1⟩ := w.sp
  have one0 : ¬ (1 : Int32) = 0 := by decide
  refine am_in' (d := d + 1) mt_Space_claim 5 rfl rfl rfl ?_
  refine am_go [] 3 ?_
  simp only [am_wp, am_stp, am_en, am_as, am_pad, am_nth, am_set, am_st1, am_st2, am_kl, am_kill, am_mem, am_fv, am_tk, am_wt, am_bk, Option.toList, List.cons_append, List.nil_append, Nat.reduceAdd, Nat.reduceEqDiff, Nat.reduceLeDiff, reduceIte, Nat.reduceLT, or_self, true_or, or_true, if_true, if_false, and_self, and_true, true_and, not_false_eq_true, not_true_eq_false, fd_Space_claim_0, fd_Space_claim_1, fd_Space_claim_2, k21]
  refine am_call (ww_has w) (fun o h1 q => ?_)
  obtain ⟨rfl, q⟩ := q
  rcases q with ⟨rfl, p, p1, p2, rfl⟩ | rfl
  · have i1 := am_inb (c := p) (N := P) p2 (by omega)
    have q1 : (nI p).toNatClampNeg = p := nI_clamp (by omega)
    simp only [am_wp, am_stp, am_en, am_as, am_pad, am_nth, am_set, am_st1, am_st2, am_kl, am_kill, am_mem, am_fv, am_tk, am_wt, am_bk, Option.toList, List.cons_append, List.nil_append, Nat.reduceAdd, Nat.reduceEqDiff, Nat.reduceLeDiff, reduceIte, Nat.reduceLT, or_self, true_or, or_true, if_true, if_false, and_self, and_true, true_and, not_false_eq_true, not_true_eq_false]
    have go : ∀ x : Int32, am_Ex nm_pr (d + 1) mt_Space_claim (28, [.ref 21, .int (nI p), .int u, .long z, .retAddr 0], [.int x, .int (am_I h1 21 4), .ref 21], h1) (fun o h' => o = .inl none ∧ wp P 0 h1 h') := fun x => by
      have w1 := (wp.refl w).sI (a := 21) (j := 4) (v := am_I h1 21 4 - x) (cw_lt (by omega) (by omega)) (fun e => absurd e (by decide)) (wcell_21 (by decide))
      refine am_go [] 2 ?_
      simp only [am_wp, am_stp, am_en, am_as, am_pad, am_nth, am_set, am_st1, am_st2, am_kl, am_kill, am_mem, am_fv, am_tk, am_wt, am_bk, Option.toList, List.cons_append, List.nil_append, Nat.reduceAdd, Nat.reduceEqDiff, Nat.reduceLeDiff, reduceIte, Nat.reduceLT, or_self, true_or, or_true, if_true, if_false, and_self, and_true, true_and, not_false_eq_true, not_true_eq_false, fd_Space_claim_28, fd_Space_claim_29, k21]
      generalize am_sI h1 21 4 (am_I h1 21 4 - x) = g at *
      obtain ⟨⟨k21, r1, r2, r3, k22, k23, k24⟩, ⟨n22, n23, n24⟩, i0, -, -⟩ := w1.1.sp
      have w2 := ((w1.sI (a := 22) (j := p) (v := am_I g 22 p + 1) (cw_lt (by omega) (by omega)) (fun e => absurd e (by decide)) (wcell_free (by decide) (by omega))).sI (a := 23) (j := p) (v := u) (cw_lt (by omega) (by omega)) (fun e => absurd e (by decide)) (wcell_free (by decide) (by omega))).sL (a := 24) (j := p) (v := z) (cw_lt (by omega) (by omega)) (by decide)
      refine am_go [] 8 ?_
      simp only [am_wp, am_stp, am_en, am_as, am_pad, am_nth, am_set, am_st1, am_st2, am_kl, am_kill, am_mem, am_fv, am_tk, am_wt, am_bk, Option.toList, List.cons_append, List.nil_append, Nat.reduceAdd, Nat.reduceEqDiff, Nat.reduceLeDiff, reduceIte, Nat.reduceLT, or_self, true_or, or_true, if_true, if_false, and_self, and_true, true_and, not_false_eq_true, not_true_eq_false, fd_Space_claim_32, fd_Space_claim_33, fd_Space_claim_36, fd_Space_claim_37, fd_Space_claim_38, fd_Space_claim_39, fd_Space_claim_40, fd_Space_claim_41, hx_nx_sI, hx_ce_sI, hx_sl_sI, hx_kd_sI, hx_ln_sI, hx_I_sI, hx_L_sI, hx_R_sI, hx_nx_sL, hx_ce_sL, hx_sl_sL, hx_kd_sL, hx_ln_sL, hx_I_sL, hx_L_sL, hx_R_sL, hx_nx_sR, hx_ce_sR, hx_sl_sR, hx_kd_sR, hx_ln_sR, hx_I_sR, hx_L_sR, hx_R_sR, hx_nx_al, hx_ce_al, hx_sl_al, hx_kd_al, hx_ln_al, hx_I_al, hx_L_al, hx_R_al, hx_nx_row, hx_ce_row, hx_sl_row, hx_kd_row, hx_ln_row, hx_I_row, hx_L_row, hx_R_row, hx_nx_mk, hx_kd_mk, hx_ln_mk, hx_I_mk, hx_L_mk, hx_R_mk, k21, r1, k22, n22, i1, q1]
      refine am_go [] 11 ?_
      simp only [am_wp, am_stp, am_en, am_as, am_pad, am_nth, am_set, am_st1, am_st2, am_kl, am_kill, am_mem, am_fv, am_tk, am_wt, am_bk, Option.toList, List.cons_append, List.nil_append, Nat.reduceAdd, Nat.reduceEqDiff, Nat.reduceLeDiff, reduceIte, Nat.reduceLT, or_self, true_or, or_true, if_true, if_false, and_self, and_true, true_and, not_false_eq_true, not_true_eq_false, fd_Space_claim_42, fd_Space_claim_43, fd_Space_claim_46, fd_Space_claim_47, fd_Space_claim_48, fd_Space_claim_49, fd_Space_claim_50, fd_Space_claim_53, fd_Space_claim_54, fd_Space_claim_55, fd_Space_claim_56, hx_nx_sI, hx_ce_sI, hx_sl_sI, hx_kd_sI, hx_ln_sI, hx_I_sI, hx_L_sI, hx_R_sI, hx_nx_sL, hx_ce_sL, hx_sl_sL, hx_kd_sL, hx_ln_sL, hx_I_sL, hx_L_sL, hx_R_sL, hx_nx_sR, hx_ce_sR, hx_sl_sR, hx_kd_sR, hx_ln_sR, hx_I_sR, hx_L_sR, hx_R_sR, hx_nx_al, hx_ce_al, hx_sl_al, hx_kd_al, hx_ln_al, hx_I_al, hx_L_al, hx_R_al, hx_nx_row, hx_ce_row, hx_sl_row, hx_kd_row, hx_ln_row, hx_I_row, hx_L_row, hx_R_row, hx_nx_mk, hx_kd_mk, hx_ln_mk, hx_I_mk, hx_L_mk, hx_R_mk, k21, r2, r3, k23, k24, n23, n24, i1, q1]
      exact w2
    refine am_go [8, 9] 1 ?_
    simp only [am_wp, am_stp, am_en, am_as, am_pad, am_nth, am_set, am_st1, am_st2, am_kl, am_kill, am_mem, am_fv, am_tk, am_wt, am_bk, Option.toList, List.cons_append, List.nil_append, Nat.reduceAdd, Nat.reduceEqDiff, Nat.reduceLeDiff, reduceIte, Nat.reduceLT, or_self, true_or, or_true, if_true, if_false, and_self, and_true, true_and, not_false_eq_true, not_true_eq_false, fd_Space_claim_5, one0]
    refine am_go [23, 27] 8 ?_
    simp only [am_wp, am_stp, am_en, am_as, am_pad, am_nth, am_set, am_st1, am_st2, am_kl, am_kill, am_mem, am_fv, am_tk, am_wt, am_bk, Option.toList, List.cons_append, List.nil_append, Nat.reduceAdd, Nat.reduceEqDiff, Nat.reduceLeDiff, reduceIte, Nat.reduceLT, or_self, true_or, or_true, if_true, if_false, and_self, and_true, true_and, not_false_eq_true, not_true_eq_false, fd_Space_claim_9, fd_Space_claim_10, fd_Space_claim_11, fd_Space_claim_14, fd_Space_claim_15, fd_Space_claim_18, fd_Space_claim_19, fd_Space_claim_20, k21, r1, k22, n22, i1, q1]
    refine wif ?_ ?_
    · refine am_go [28] 2 ?_
      simp only [am_wp, am_stp, am_en, am_as, am_pad, am_nth, am_set, am_st1, am_st2, am_kl, am_kill, am_mem, am_fv, am_tk, am_wt, am_bk, Option.toList, List.cons_append, List.nil_append, Nat.reduceAdd, Nat.reduceEqDiff, Nat.reduceLeDiff, reduceIte, Nat.reduceLT, or_self, true_or, or_true, if_true, if_false, and_self, and_true, true_and, not_false_eq_true, not_true_eq_false, fd_Space_claim_23, fd_Space_claim_24]
      exact go 1
    · refine am_go [28] 1 ?_
      simp only [am_wp, am_stp, am_en, am_as, am_pad, am_nth, am_set, am_st1, am_st2, am_kl, am_kill, am_mem, am_fv, am_tk, am_wt, am_bk, Option.toList, List.cons_append, List.nil_append, Nat.reduceAdd, Nat.reduceEqDiff, Nat.reduceLeDiff, reduceIte, Nat.reduceLT, or_self, true_or, or_true, if_true, if_false, and_self, and_true, true_and, not_false_eq_true, not_true_eq_false, fd_Space_claim_27]
      exact go 0
  · simp only [am_wp, am_stp, am_en, am_as, am_pad, am_nth, am_set, am_st1, am_st2, am_kl, am_kill, am_mem, am_fv, am_tk, am_wt, am_bk, Option.toList, List.cons_append, List.nil_append, Nat.reduceAdd, Nat.reduceEqDiff, Nat.reduceLeDiff, reduceIte, Nat.reduceLT, or_self, true_or, or_true, if_true, if_false, and_self, and_true, true_and, not_false_eq_true, not_true_eq_false]
    refine am_go [9] 3 ?_
    simp only [am_wp, am_stp, am_en, am_as, am_pad, am_nth, am_set, am_st1, am_st2, am_kl, am_kill, am_mem, am_fv, am_tk, am_wt, am_bk, Option.toList, List.cons_append, List.nil_append, Nat.reduceAdd, Nat.reduceEqDiff, Nat.reduceLeDiff, reduceIte, Nat.reduceLT, or_self, true_or, or_true, if_true, if_false, and_self, and_true, true_and, not_false_eq_true, not_true_eq_false, fd_Space_claim_5, fd_Space_claim_8]
    exact wp.refl w
