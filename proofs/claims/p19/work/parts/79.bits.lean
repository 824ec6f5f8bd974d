/-! PIECES OUT OF p1's FILES OF THE LAW -/
theorem fr_All.xt {P : Nat} {S : List Nat} {n : Nat} {h h' : am_H} (c : fr_All P h) (x : am_xt S n h h') (ha : 72 ≤ n) (h0 : ∀ q ∈ S, 72 ≤ q) : fr_All P h' := by
  have w : ∀ q, q < 72 → q ∉ S := fun q h1 h2 => by have := h0 q h2; omega
  have ww : ∀ q ∈ S, q < 3 ∨ 12 ≤ q := fun q hq => by have := h0 q hq; omega
  obtain ⟨c1, ⟨c2, c3, c4⟩, ⟨s1, s2, s3, s4⟩, ⟨p1, p2, p3, p4, p5, p6, p7, p8, p9, p10⟩, c5, c6, c7, ⟨d1, d2, d3⟩, e1, e2, e3, f1, f2, ⟨g1, g2⟩, k1⟩ := c
  have y : ∀ q, q < 72 → _ := fun q hq => x q (by omega) (w q hq)
  refine ⟨c1.xt x (by omega) ww, ⟨c2.xt x (by omega) (w 13 (by decide)), c3.xt x (by omega) (w 16 (by decide)), c4.xt x (by omega) (w 17 (by decide))⟩, ⟨(y 14 (by decide)).1.trans s1, ?_, (y 15 (by decide)).1.trans s3, (y 15 (by decide)).2.1.trans s4⟩,
    ⟨(y 18 (by decide)).1.trans p1, ?_, ?_, ?_, (y 19 (by decide)).1.trans p5, (y 19 (by decide)).2.1.trans p6, (y 20 (by decide)).1.trans p7, (y 20 (by decide)).2.1.trans p8, p9, p10⟩, (y 18 (by decide)).2.2.1.trans c5, (y 19 (by decide)).2.2.1.trans c6, (y 20 (by decide)).2.2.1.trans c7,
    ⟨(y 21 (by decide)).1.trans d1, (y 21 (by decide)).2.2.2.2.trans d2, (y 21 (by decide)).2.2.1.trans d3⟩, e1.xt x (by omega) (w 22 (by decide)), e2.xt x (by omega) (w 23 (by decide)), e3.xt x (by omega) (w 24 (by decide)), f1.xt x (by omega) (fun q hq => by have := h0 q hq; omega), f2.xt x (by omega) (w 39 (by decide)), ⟨g1.xt x (by omega) (w 12 (by decide)), fun j hj => (g2 j hj).xt x (by omega) (w _ (by omega)) (w _ (by omega)) (w _ (by omega)) (w _ (by omega))⟩, k1.xt x (by omega) (w 2 (by decide))⟩
  · rw [(y 14 (by decide)).2.2.2.2]; exact s2
  · rw [(y 18 (by decide)).2.2.2.2]; exact p2
  · rw [(y 18 (by decide)).2.2.2.2]; exact p3
  · rw [(y 18 (by decide)).2.2.1]; exact p4
theorem mo_All.xt {P : Nat} {S : List Nat} {n : Nat} {h h' : am_H} (c : mo_All P h) (x : am_xt S n h h') (ha : 108 ≤ n) (h0 : ∀ q ∈ S, q < 72 ∨ 108 ≤ q) : mo_All P h' := by
  have w : ∀ q, 72 ≤ q → q < 108 → q ∉ S := fun q h1 h2 h3 => by have := h0 q h3; omega
  have y : ∀ q, 72 ≤ q → q < 108 → _ := fun q h1 h2 => x q (by omega) (w q h1 h2)
  obtain ⟨⟨p1, p2, p3, p4, p5, p6, p7⟩, c2, c3, c4, c5, c6, c7⟩ := c
  obtain ⟨a1, a2, a3, a4, a5⟩ := y 72 (by decide) (by decide)
  obtain ⟨b1, b2, b3, b4, b5⟩ := y 73 (by decide) (by decide)
  obtain ⟨d1, d2, d3, d4, d5⟩ := y 91 (by decide) (by decide)
  refine ⟨⟨a1.trans p1, by rw [a5]; exact p2, by rw [a5]; exact p3, b1.trans p4, b2.trans p5, d1.trans p6, d2.trans p7⟩, a3.trans c2, fun j => by rw [a4]; exact c3 j, fun j => by rw [a5]; exact c4 j, fun i q h1 h2 hi => ?_, b3.trans c6, d3.trans c7⟩
  have hlt : i < 35 := (List.getElem?_eq_some_iff.mp hi).1
  exact (c5 i q h1 h2 hi).xt x (by omega) (w _ (by omega) (by omega))
def oc_ok (P : Nat) (p i : Int32) : Bool := !decide (p < 0) && decide (p < nI P) && !decide (i < 0) && decide (i < 128)
theorem l2_requireOctet {d P : Nat} {p i : Int32} {h : am_H} (k2 : am_kd h 2 = 1) (r0 : am_R h 2 0 = 18) (hP : cl_Pg P h) : am_Rt nm_pr (d + 2) mi_SR_requireOctet [.ref 2, .int p, .int i] h (fun o h' => match oc_ok P p i with
    | true => o = .inl none ∧ h' = h
    | false => o = .inr (2, am_nx h) ∧ h' = am_al h 0 0 6) := by
  refine am_in' (d := d + 1) mt_SR_requireOctet 3 rfl rfl rfl ?_
  have bad : oc_ok P p i = false → am_Ex nm_pr (d + 1) mt_SR_requireOctet (22, [.ref 2, .int p, .int i], [], h) (fun o h' => match oc_ok P p i with
    | true => o = .inl none ∧ h' = h
    | false => o = .inr (2, am_nx h) ∧ h' = am_al h 0 0 6) := by
    intro e
    refine am_go [] 2 ?_
    simp only [am_wp, am_stp, am_en, am_as, am_pad, am_nth, am_set, am_st1, am_st2, am_kl, am_kill, am_mem, am_fv, am_tk, am_wt, am_bk, Option.toList, List.cons_append, List.nil_append, Nat.reduceAdd, Nat.reduceEqDiff, Nat.reduceLeDiff, reduceIte, Nat.reduceLT, or_self, true_or, or_true, if_true, if_false, and_self, and_true, true_and, not_false_eq_true, not_true_eq_false, fd_SR_requireOctet_22, e]
  refine am_go [] 4 ?_
  simp only [am_wp, am_stp, am_en, am_as, am_pad, am_nth, am_set, am_st1, am_st2, am_kl, am_kill, am_mem, am_fv, am_tk, am_wt, am_bk, Option.toList, List.cons_append, List.nil_append, Nat.reduceAdd, Nat.reduceEqDiff, Nat.reduceLeDiff, reduceIte, Nat.reduceLT, or_self, true_or, or_true, if_true, if_false, and_self, and_true, true_and, not_false_eq_true, not_true_eq_false, fd_SR_requireOctet_0, fd_SR_requireOctet_1, fd_SR_requireOctet_4, fd_SR_requireOctet_5, k2, r0, hP.1]
  refine am_call (l2_has hP) (fun o h1 q => ?_)
  obtain ⟨rfl, rfl⟩ := q
  simp only [am_wp, am_stp, am_en, am_as, am_pad, am_nth, am_set, am_st1, am_st2, am_kl, am_kill, am_mem, am_fv, am_tk, am_wt, am_bk, Option.toList, List.cons_append, List.nil_append, Nat.reduceAdd, Nat.reduceEqDiff, Nat.reduceLeDiff, reduceIte, Nat.reduceLT, or_self, true_or, or_true, if_true, if_false, and_self, and_true, true_and, not_false_eq_true, not_true_eq_false]
  have one0 : ¬ ((1 : Int32) = 0) := by decide
  refine am_go [22, 11] 1 ?_
  simp only [am_wp, am_stp, am_en, am_as, am_pad, am_nth, am_set, am_st1, am_st2, am_kl, am_kill, am_mem, am_fv, am_tk, am_wt, am_bk, Option.toList, List.cons_append, List.nil_append, Nat.reduceAdd, Nat.reduceEqDiff, Nat.reduceLeDiff, reduceIte, Nat.reduceLT, or_self, true_or, or_true, if_true, if_false, and_self, and_true, true_and, not_false_eq_true, not_true_eq_false, fd_SR_requireOctet_8]
  by_cases e1 : p < 0
  · simp only [e1, am_wp, am_stp, am_en, am_as, am_pad, am_nth, am_set, am_st1, am_st2, am_kl, am_kill, am_mem, am_fv, am_tk, am_wt, am_bk, Option.toList, List.cons_append, List.nil_append, Nat.reduceAdd, Nat.reduceEqDiff, Nat.reduceLeDiff, reduceIte, Nat.reduceLT, or_self, true_or, or_true, if_true, if_false, and_self, and_true, true_and, not_false_eq_true, not_true_eq_false]; exact bad (by simp [oc_ok, e1])
  by_cases e2 : p < nI P
  · simp only [e1, e2, am_wp, am_stp, am_en, am_as, am_pad, am_nth, am_set, am_st1, am_st2, am_kl, am_kill, am_mem, am_fv, am_tk, am_wt, am_bk, Option.toList, List.cons_append, List.nil_append, Nat.reduceAdd, Nat.reduceEqDiff, Nat.reduceLeDiff, reduceIte, Nat.reduceLT, or_self, true_or, or_true, if_true, if_false, and_self, and_true, true_and, not_false_eq_true, not_true_eq_false, one0]
    refine am_go [22, 15] 2 ?_
    simp only [am_wp, am_stp, am_en, am_as, am_pad, am_nth, am_set, am_st1, am_st2, am_kl, am_kill, am_mem, am_fv, am_tk, am_wt, am_bk, Option.toList, List.cons_append, List.nil_append, Nat.reduceAdd, Nat.reduceEqDiff, Nat.reduceLeDiff, reduceIte, Nat.reduceLT, or_self, true_or, or_true, if_true, if_false, and_self, and_true, true_and, not_false_eq_true, not_true_eq_false, fd_SR_requireOctet_11, fd_SR_requireOctet_12]
    by_cases e3 : i < 0
    · simp only [e3, am_wp, am_stp, am_en, am_as, am_pad, am_nth, am_set, am_st1, am_st2, am_kl, am_kill, am_mem, am_fv, am_tk, am_wt, am_bk, Option.toList, List.cons_append, List.nil_append, Nat.reduceAdd, Nat.reduceEqDiff, Nat.reduceLeDiff, reduceIte, Nat.reduceLT, or_self, true_or, or_true, if_true, if_false, and_self, and_true, true_and, not_false_eq_true, not_true_eq_false]; exact bad (by simp [oc_ok, e3])
    simp only [e3, am_wp, am_stp, am_en, am_as, am_pad, am_nth, am_set, am_st1, am_st2, am_kl, am_kill, am_mem, am_fv, am_tk, am_wt, am_bk, Option.toList, List.cons_append, List.nil_append, Nat.reduceAdd, Nat.reduceEqDiff, Nat.reduceLeDiff, reduceIte, Nat.reduceLT, or_self, true_or, or_true, if_true, if_false, and_self, and_true, true_and, not_false_eq_true, not_true_eq_false]
    refine am_go [22, 33] 3 ?_
    simp only [am_wp, am_stp, am_en, am_as, am_pad, am_nth, am_set, am_st1, am_st2, am_kl, am_kill, am_mem, am_fv, am_tk, am_wt, am_bk, Option.toList, List.cons_append, List.nil_append, Nat.reduceAdd, Nat.reduceEqDiff, Nat.reduceLeDiff, reduceIte, Nat.reduceLT, or_self, true_or, or_true, if_true, if_false, and_self, and_true, true_and, not_false_eq_true, not_true_eq_false, fd_SR_requireOctet_15, fd_SR_requireOctet_16, fd_SR_requireOctet_19]
    by_cases e4 : i < 128
    · simp only [e4, am_wp, am_stp, am_en, am_as, am_pad, am_nth, am_set, am_st1, am_st2, am_kl, am_kill, am_mem, am_fv, am_tk, am_wt, am_bk, Option.toList, List.cons_append, List.nil_append, Nat.reduceAdd, Nat.reduceEqDiff, Nat.reduceLeDiff, reduceIte, Nat.reduceLT, or_self, true_or, or_true, if_true, if_false, and_self, and_true, true_and, not_false_eq_true, not_true_eq_false]
      refine am_go [] 2 ?_
      have e : oc_ok P p i = true := by simp [oc_ok, e1, e2, e3, e4]
      simp only [am_wp, am_stp, am_en, am_as, am_pad, am_nth, am_set, am_st1, am_st2, am_kl, am_kill, am_mem, am_fv, am_tk, am_wt, am_bk, Option.toList, List.cons_append, List.nil_append, Nat.reduceAdd, Nat.reduceEqDiff, Nat.reduceLeDiff, reduceIte, Nat.reduceLT, or_self, true_or, or_true, if_true, if_false, and_self, and_true, true_and, not_false_eq_true, not_true_eq_false, fd_SR_requireOctet_33, e]
    · simp only [e4, am_wp, am_stp, am_en, am_as, am_pad, am_nth, am_set, am_st1, am_st2, am_kl, am_kill, am_mem, am_fv, am_tk, am_wt, am_bk, Option.toList, List.cons_append, List.nil_append, Nat.reduceAdd, Nat.reduceEqDiff, Nat.reduceLeDiff, reduceIte, Nat.reduceLT, or_self, true_or, or_true, if_true, if_false, and_self, and_true, true_and, not_false_eq_true, not_true_eq_false]; exact bad (by simp [oc_ok, e4])
  · simp only [e1, e2, am_wp, am_stp, am_en, am_as, am_pad, am_nth, am_set, am_st1, am_st2, am_kl, am_kill, am_mem, am_fv, am_tk, am_wt, am_bk, Option.toList, List.cons_append, List.nil_append, Nat.reduceAdd, Nat.reduceEqDiff, Nat.reduceLeDiff, reduceIte, Nat.reduceLT, or_self, true_or, or_true, if_true, if_false, and_self, and_true, true_and, not_false_eq_true, not_true_eq_false]; exact bad (by simp [oc_ok, e2])
theorem oc_spec {P : Nat} {p i : Int32} (hP : P ≤ 1024) (e : oc_ok P p i = true) : ∃ a b : Nat, p = nI a ∧ i = nI b ∧ a < P ∧ b < 128 := by
  unfold oc_ok at e
  simp only [Bool.and_eq_true, Bool.not_eq_true', decide_eq_true_eq, decide_eq_false_iff_not] at e
  obtain ⟨⟨⟨e1, e2⟩, e3⟩, e4⟩ := e
  obtain ⟨a, ha, rfl⟩ := nI_of e1
  obtain ⟨b, hb, rfl⟩ := nI_of e3
  exact ⟨a, b, rfl, rfl, (nI_ltI ha (by omega)).mp e2, (nI_ltI (b := 128) hb (by decide)).mp e4⟩
theorem l2_peek {d P a b : Nat} {h : am_H} (hP : cl_Pg P h) (ha : a < P) (hb : b < 128) : am_Rt nm_pr (d + 2) mi_Pages_peek [.ref 18, .int (nI a), .int (nI b)] h (fun o h' => o = .inl (some (.int (am_I h 19 (a * 128 + b) &&& 255))) ∧ h' = h) := by
  obtain ⟨q1, q2, q3, q4, q5, q6, q7, q8, q9, q10⟩ := id hP
  refine am_in' (d := d + 1) mt_Pages_peek 3 rfl rfl rfl ?_
  refine am_go [] 3 ?_
  simp only [am_wp, am_stp, am_en, am_as, am_pad, am_nth, am_set, am_st1, am_st2, am_kl, am_kill, am_mem, am_fv, am_tk, am_wt, am_bk, Option.toList, List.cons_append, List.nil_append, Nat.reduceAdd, Nat.reduceEqDiff, Nat.reduceLeDiff, reduceIte, Nat.reduceLT, or_self, true_or, or_true, if_true, if_false, and_self, and_true, true_and, not_false_eq_true, not_true_eq_false, fd_Pages_peek_0, fd_Pages_peek_1, fd_Pages_peek_2, q1]
  refine am_call (l2_has1 hP ha) (fun o h1 q => ?_)
  obtain ⟨rfl, rfl⟩ := q
  simp only [am_wp, am_stp, am_en, am_as, am_pad, am_nth, am_set, am_st1, am_st2, am_kl, am_kill, am_mem, am_fv, am_tk, am_wt, am_bk, Option.toList, List.cons_append, List.nil_append, Nat.reduceAdd, Nat.reduceEqDiff, Nat.reduceLeDiff, reduceIte, Nat.reduceLT, or_self, true_or, or_true, if_true, if_false, and_self, and_true, true_and, not_false_eq_true, not_true_eq_false]
  have one0 : ¬ ((1 : Int32) = 0) := by decide
  have h1' : ¬ nI b < 0 := nI_pos (by omega)
  have h2 : nI b < 128 := nI_lt (b := 128) hb (by decide)
  have e1 : nI a * 128 = nI (a * 128) := (Int32.ofNat_mul a 128).symm
  have i2 := am_inb (c := a * 128 + b) (N := P * 128) (by omega) (by omega)
  have c2 : (nI (a * 128 + b)).toNatClampNeg = a * 128 + b := nI_clamp (by omega)
  refine am_go [38] 20 ?_
  simp only [am_wp, am_stp, am_en, am_as, am_pad, am_nth, am_set, am_st1, am_st2, am_kl, am_kill, am_mem, am_fv, am_tk, am_wt, am_bk, Option.toList, List.cons_append, List.nil_append, Nat.reduceAdd, Nat.reduceEqDiff, Nat.reduceLeDiff, reduceIte, Nat.reduceLT, or_self, true_or, or_true, if_true, if_false, and_self, and_true, true_and, not_false_eq_true, not_true_eq_false, fd_Pages_peek_5, fd_Pages_peek_8, fd_Pages_peek_9, fd_Pages_peek_12, fd_Pages_peek_13, fd_Pages_peek_16, fd_Pages_peek_19, fd_Pages_peek_20, fd_Pages_peek_23, fd_Pages_peek_24, fd_Pages_peek_27, fd_Pages_peek_28, fd_Pages_peek_29, fd_Pages_peek_30, fd_Pages_peek_31, fd_Pages_peek_34, fd_Pages_peek_35, fd_Pages_peek_39, one0, h1', h2, q1, q2, q5, q6, e1, nI_add, i2, c2]
theorem l2_isRight {d P a : Nat} {h : am_H} (hP : cl_Pg P h) (ha : a < P) (hv : am_I h 20 a = 0 ∨ am_I h 20 a = 1) : am_Rt nm_pr (d + 2) mi_Pages_isRight [.ref 18, .int (nI a)] h (fun o h' => o = .inl (some (.int (am_I h 20 a))) ∧ h' = h) := by
  obtain ⟨q1, q2, q3, q4, q5, q6, q7, q8, q9, q10⟩ := id hP
  refine am_in' (d := d + 1) mt_Pages_isRight 2 rfl rfl rfl ?_
  refine am_go [] 3 ?_
  simp only [am_wp, am_stp, am_en, am_as, am_pad, am_nth, am_set, am_st1, am_st2, am_kl, am_kill, am_mem, am_fv, am_tk, am_wt, am_bk, Option.toList, List.cons_append, List.nil_append, Nat.reduceAdd, Nat.reduceEqDiff, Nat.reduceLeDiff, reduceIte, Nat.reduceLT, or_self, true_or, or_true, if_true, if_false, and_self, and_true, true_and, not_false_eq_true, not_true_eq_false, fd_Pages_isRight_0, fd_Pages_isRight_1, fd_Pages_isRight_2, q1]
  refine am_call (l2_has1 hP ha) (fun o h2 q => ?_)
  obtain ⟨rfl, rfl⟩ := q
  simp only [am_wp, am_stp, am_en, am_as, am_pad, am_nth, am_set, am_st1, am_st2, am_kl, am_kill, am_mem, am_fv, am_tk, am_wt, am_bk, Option.toList, List.cons_append, List.nil_append, Nat.reduceAdd, Nat.reduceEqDiff, Nat.reduceLeDiff, reduceIte, Nat.reduceLT, or_self, true_or, or_true, if_true, if_false, and_self, and_true, true_and, not_false_eq_true, not_true_eq_false]
  have one0 : ¬ ((1 : Int32) = 0) := by decide
  have i1 := am_inb (c := a) (N := P) ha (by omega)
  have ca : (nI a).toNatClampNeg = a := nI_clamp (by omega)
  have o0 : (0 : Int32) = 0 ∨ (0 : Int32) = 1 := by decide
  have o1 : (1 : Int32) = 0 ∨ (1 : Int32) = 1 := by decide
  refine am_go [21, 17] 6 ?_
  simp only [am_wp, am_stp, am_en, am_as, am_pad, am_nth, am_set, am_st1, am_st2, am_kl, am_kill, am_mem, am_fv, am_tk, am_wt, am_bk, Option.toList, List.cons_append, List.nil_append, Nat.reduceAdd, Nat.reduceEqDiff, Nat.reduceLeDiff, reduceIte, Nat.reduceLT, or_self, true_or, or_true, if_true, if_false, and_self, and_true, true_and, not_false_eq_true, not_true_eq_false, fd_Pages_isRight_5, fd_Pages_isRight_8, fd_Pages_isRight_9, fd_Pages_isRight_12, fd_Pages_isRight_13, fd_Pages_isRight_14, one0, q1, q3, q7, q8, i1, ca]
  rcases hv with v1 | v1
  · simp only [v1, am_wp, am_stp, am_en, am_as, am_pad, am_nth, am_set, am_st1, am_st2, am_kl, am_kill, am_mem, am_fv, am_tk, am_wt, am_bk, Option.toList, List.cons_append, List.nil_append, Nat.reduceAdd, Nat.reduceEqDiff, Nat.reduceLeDiff, reduceIte, Nat.reduceLT, or_self, true_or, or_true, if_true, if_false, and_self, and_true, true_and, not_false_eq_true, not_true_eq_false]
    refine am_go [] 4 ?_
    simp only [am_wp, am_stp, am_en, am_as, am_pad, am_nth, am_set, am_st1, am_st2, am_kl, am_kill, am_mem, am_fv, am_tk, am_wt, am_bk, Option.toList, List.cons_append, List.nil_append, Nat.reduceAdd, Nat.reduceEqDiff, Nat.reduceLeDiff, reduceIte, Nat.reduceLT, or_self, true_or, or_true, if_true, if_false, and_self, and_true, true_and, not_false_eq_true, not_true_eq_false, fd_Pages_isRight_21, fd_Pages_isRight_22, o0]
  · simp only [v1, one0, am_wp, am_stp, am_en, am_as, am_pad, am_nth, am_set, am_st1, am_st2, am_kl, am_kill, am_mem, am_fv, am_tk, am_wt, am_bk, Option.toList, List.cons_append, List.nil_append, Nat.reduceAdd, Nat.reduceEqDiff, Nat.reduceLeDiff, reduceIte, Nat.reduceLT, or_self, true_or, or_true, if_true, if_false, and_self, and_true, true_and, not_false_eq_true, not_true_eq_false]
    refine am_go [] 4 ?_
    simp only [am_wp, am_stp, am_en, am_as, am_pad, am_nth, am_set, am_st1, am_st2, am_kl, am_kill, am_mem, am_fv, am_tk, am_wt, am_bk, Option.toList, List.cons_append, List.nil_append, Nat.reduceAdd, Nat.reduceEqDiff, Nat.reduceLeDiff, reduceIte, Nat.reduceLT, or_self, true_or, or_true, if_true, if_false, and_self, and_true, true_and, not_false_eq_true, not_true_eq_false, fd_Pages_isRight_17, fd_Pages_isRight_18, fd_Pages_isRight_21, fd_Pages_isRight_22, o1]
theorem l2_Bl_begin {d : Nat} {b : Int32} {h : am_H} (k : am_kd h 25 = 2) (hb : b = 0 ∨ b = 1) : am_Rt nm_pr (d + 1) mi_Blend_begin [.ref 25, .int b] h (fun o h' => o = .inl none ∧ am_fi [25] h h' ∧ am_I h' 25 5 = 0 ∧ am_I h' 25 6 = 0 ∧ am_I h' 25 7 = b) := by
  refine am_in' mt_Blend_begin 2 rfl rfl rfl ?_
  have b1 : b &&& 1 = b := by rcases hb with e | e <;> subst e <;> decide
  refine am_go [] 12 ?_
  have f : am_fi [25] h (am_sI (am_sI (am_sI h 25 7 b) 25 5 0) 25 6 0) := ((am_fi.refl.sI (by simp)).sI (by simp)).sI (by simp)
  simp only [am_wp, am_stp, am_en, am_as, am_pad, am_nth, am_set, am_st1, am_st2, am_kl, am_kill, am_mem, am_fv, am_tk, am_wt, am_bk, Option.toList, List.cons_append, List.nil_append, Nat.reduceAdd, Nat.reduceEqDiff, Nat.reduceLeDiff, reduceIte, Nat.reduceLT, or_self, true_or, or_true, if_true, if_false, and_self, and_true, true_and, not_false_eq_true, not_true_eq_false, fd_Blend_begin_0, fd_Blend_begin_1, fd_Blend_begin_2, fd_Blend_begin_5, fd_Blend_begin_6, fd_Blend_begin_7, fd_Blend_begin_10, fd_Blend_begin_11, fd_Blend_begin_12, fd_Blend_begin_15, hx_nx_sI, hx_ce_sI, hx_sl_sI, hx_kd_sI, hx_ln_sI, hx_I_sI, hx_L_sI, hx_R_sI, hx_nx_sL, hx_ce_sL, hx_sl_sL, hx_kd_sL, hx_ln_sL, hx_I_sL, hx_L_sL, hx_R_sL, hx_nx_sR, hx_ce_sR, hx_sl_sR, hx_kd_sR, hx_ln_sR, hx_I_sR, hx_L_sR, hx_R_sR, hx_nx_al, hx_ce_al, hx_sl_al, hx_kd_al, hx_ln_al, hx_I_al, hx_L_al, hx_R_al, hx_nx_row, hx_ce_row, hx_sl_row, hx_kd_row, hx_ln_row, hx_I_row, hx_L_row, hx_R_row, hx_nx_mk, hx_kd_mk, hx_ln_mk, hx_I_mk, hx_L_mk, hx_R_mk, k, b1]
  simp [f]
  exact hb
theorem lc_gt (a b : Int64) : (0 < (if a < b then (-1 : Int32) else if a = b then 0 else 1)) = (b < a) := by
  have n : ∀ z : Int64, ¬ z < z := fun z hz => by rw [Int64.lt_iff_toInt_lt] at hz; omega
  by_cases h1 : a < b
  · have h2 : ¬ b < a := fun q => n a (l_tr h1 q)
    simp only [h1, if_true, h2]; decide
  · by_cases h2 : a = b
    · subst h2
      simp only [h1, if_false, if_true]; decide
    · have h3 : b < a := by
        have : a.toInt ≠ b.toInt := fun e => h2 (Int64.toInt_inj.mp e)
        rw [Int64.lt_iff_toInt_lt] at *
        omega
      simp only [h1, if_false, h2, h3]; decide
