/-! THE REFERENCE'S CALLS, 4: octet, poke, badAt, cut, told, hidden -/
theorem l2_Mo_isOctet {d P : Nat} {p i : Int32} {h : am_H} (k : am_kd h 72 = 12) (i1 : am_I h 72 1 = nI P) : am_Rt nm_pr (d + 1) mi_Mo_isOctet [.ref 72, .int p, .int i] h (fun o h' => o = .inl (some (.int (match oc_ok P p i with
    | true => 1
    | false => 0))) ∧ h' = h) := by
  refine am_in' mt_Mo_isOctet 3 rfl rfl rfl ?_
  have bad : oc_ok P p i = false → am_Ex nm_pr d mt_Mo_isOctet (27, [.ref 72, .int p, .int i], [], h) (fun o h' => o = .inl (some (.int (match oc_ok P p i with
    | true => 1
    | false => 0))) ∧ h' = h) := by
    intro e
    refine am_go [] 3 ?_
    have o1 : (0 : Int32) = 0 ∨ (0 : Int32) = 1 := by decide
    simp only [am_wp, am_stp, am_en, am_as, am_pad, am_nth, am_set, am_st1, am_st2, am_kl, am_kill, am_mem, am_fv, am_tk, am_wt, am_bk, Option.toList, List.cons_append, List.nil_append, Nat.reduceAdd, Nat.reduceEqDiff, Nat.reduceLeDiff, reduceIte, Nat.reduceLT, or_self, true_or, or_true, if_true, if_false, and_self, and_true, true_and, not_false_eq_true, not_true_eq_false, fd_Mo_isOctet_27, fd_Mo_isOctet_28, e, o1]
  refine am_go [27, 4] 2 ?_
  simp only [am_wp, am_stp, am_en, am_as, am_pad, am_nth, am_set, am_st1, am_st2, am_kl, am_kill, am_mem, am_fv, am_tk, am_wt, am_bk, Option.toList, List.cons_append, List.nil_append, Nat.reduceAdd, Nat.reduceEqDiff, Nat.reduceLeDiff, reduceIte, Nat.reduceLT, or_self, true_or, or_true, if_true, if_false, and_self, and_true, true_and, not_false_eq_true, not_true_eq_false, fd_Mo_isOctet_0, fd_Mo_isOctet_1]
  by_cases e1 : p < 0
  · simp only [e1, am_wp, am_stp, am_en, am_as, am_pad, am_nth, am_set, am_st1, am_st2, am_kl, am_kill, am_mem, am_fv, am_tk, am_wt, am_bk, Option.toList, List.cons_append, List.nil_append, Nat.reduceAdd, Nat.reduceEqDiff, Nat.reduceLeDiff, reduceIte, Nat.reduceLT, or_self, true_or, or_true, if_true, if_false, and_self, and_true, true_and, not_false_eq_true, not_true_eq_false]; exact bad (by simp [oc_ok, e1])
  simp only [e1, am_wp, am_stp, am_en, am_as, am_pad, am_nth, am_set, am_st1, am_st2, am_kl, am_kill, am_mem, am_fv, am_tk, am_wt, am_bk, Option.toList, List.cons_append, List.nil_append, Nat.reduceAdd, Nat.reduceEqDiff, Nat.reduceLeDiff, reduceIte, Nat.reduceLT, or_self, true_or, or_true, if_true, if_false, and_self, and_true, true_and, not_false_eq_true, not_true_eq_false]
  refine am_go [27, 12] 4 ?_
  simp only [am_wp, am_stp, am_en, am_as, am_pad, am_nth, am_set, am_st1, am_st2, am_kl, am_kill, am_mem, am_fv, am_tk, am_wt, am_bk, Option.toList, List.cons_append, List.nil_append, Nat.reduceAdd, Nat.reduceEqDiff, Nat.reduceLeDiff, reduceIte, Nat.reduceLT, or_self, true_or, or_true, if_true, if_false, and_self, and_true, true_and, not_false_eq_true, not_true_eq_false, fd_Mo_isOctet_4, fd_Mo_isOctet_5, fd_Mo_isOctet_6, fd_Mo_isOctet_9, k, i1]
  by_cases e2 : p < nI P
  · simp only [e2, am_wp, am_stp, am_en, am_as, am_pad, am_nth, am_set, am_st1, am_st2, am_kl, am_kill, am_mem, am_fv, am_tk, am_wt, am_bk, Option.toList, List.cons_append, List.nil_append, Nat.reduceAdd, Nat.reduceEqDiff, Nat.reduceLeDiff, reduceIte, Nat.reduceLT, or_self, true_or, or_true, if_true, if_false, and_self, and_true, true_and, not_false_eq_true, not_true_eq_false]
    refine am_go [27, 16] 2 ?_
    simp only [am_wp, am_stp, am_en, am_as, am_pad, am_nth, am_set, am_st1, am_st2, am_kl, am_kill, am_mem, am_fv, am_tk, am_wt, am_bk, Option.toList, List.cons_append, List.nil_append, Nat.reduceAdd, Nat.reduceEqDiff, Nat.reduceLeDiff, reduceIte, Nat.reduceLT, or_self, true_or, or_true, if_true, if_false, and_self, and_true, true_and, not_false_eq_true, not_true_eq_false, fd_Mo_isOctet_12, fd_Mo_isOctet_13]
    by_cases e3 : i < 0
    · simp only [e3, am_wp, am_stp, am_en, am_as, am_pad, am_nth, am_set, am_st1, am_st2, am_kl, am_kill, am_mem, am_fv, am_tk, am_wt, am_bk, Option.toList, List.cons_append, List.nil_append, Nat.reduceAdd, Nat.reduceEqDiff, Nat.reduceLeDiff, reduceIte, Nat.reduceLT, or_self, true_or, or_true, if_true, if_false, and_self, and_true, true_and, not_false_eq_true, not_true_eq_false]; exact bad (by simp [oc_ok, e3])
    simp only [e3, am_wp, am_stp, am_en, am_as, am_pad, am_nth, am_set, am_st1, am_st2, am_kl, am_kill, am_mem, am_fv, am_tk, am_wt, am_bk, Option.toList, List.cons_append, List.nil_append, Nat.reduceAdd, Nat.reduceEqDiff, Nat.reduceLeDiff, reduceIte, Nat.reduceLT, or_self, true_or, or_true, if_true, if_false, and_self, and_true, true_and, not_false_eq_true, not_true_eq_false]
    refine am_go [27, 23] 3 ?_
    simp only [am_wp, am_stp, am_en, am_as, am_pad, am_nth, am_set, am_st1, am_st2, am_kl, am_kill, am_mem, am_fv, am_tk, am_wt, am_bk, Option.toList, List.cons_append, List.nil_append, Nat.reduceAdd, Nat.reduceEqDiff, Nat.reduceLeDiff, reduceIte, Nat.reduceLT, or_self, true_or, or_true, if_true, if_false, and_self, and_true, true_and, not_false_eq_true, not_true_eq_false, fd_Mo_isOctet_16, fd_Mo_isOctet_17, fd_Mo_isOctet_20]
    by_cases e4 : i < 128
    · simp only [e4, am_wp, am_stp, am_en, am_as, am_pad, am_nth, am_set, am_st1, am_st2, am_kl, am_kill, am_mem, am_fv, am_tk, am_wt, am_bk, Option.toList, List.cons_append, List.nil_append, Nat.reduceAdd, Nat.reduceEqDiff, Nat.reduceLeDiff, reduceIte, Nat.reduceLT, or_self, true_or, or_true, if_true, if_false, and_self, and_true, true_and, not_false_eq_true, not_true_eq_false]
      refine am_go [] 5 ?_
      have e : oc_ok P p i = true := by simp [oc_ok, e1, e2, e3, e4]
      have o1 : (1 : Int32) = 0 ∨ (1 : Int32) = 1 := by decide
      simp only [am_wp, am_stp, am_en, am_as, am_pad, am_nth, am_set, am_st1, am_st2, am_kl, am_kill, am_mem, am_fv, am_tk, am_wt, am_bk, Option.toList, List.cons_append, List.nil_append, Nat.reduceAdd, Nat.reduceEqDiff, Nat.reduceLeDiff, reduceIte, Nat.reduceLT, or_self, true_or, or_true, if_true, if_false, and_self, and_true, true_and, not_false_eq_true, not_true_eq_false, fd_Mo_isOctet_23, fd_Mo_isOctet_24, fd_Mo_isOctet_28, e, o1]
    · simp only [e4, am_wp, am_stp, am_en, am_as, am_pad, am_nth, am_set, am_st1, am_st2, am_kl, am_kill, am_mem, am_fv, am_tk, am_wt, am_bk, Option.toList, List.cons_append, List.nil_append, Nat.reduceAdd, Nat.reduceEqDiff, Nat.reduceLeDiff, reduceIte, Nat.reduceLT, or_self, true_or, or_true, if_true, if_false, and_self, and_true, true_and, not_false_eq_true, not_true_eq_false]; exact bad (by simp [oc_ok, e4])
  · simp only [e2, am_wp, am_stp, am_en, am_as, am_pad, am_nth, am_set, am_st1, am_st2, am_kl, am_kill, am_mem, am_fv, am_tk, am_wt, am_bk, Option.toList, List.cons_append, List.nil_append, Nat.reduceAdd, Nat.reduceEqDiff, Nat.reduceLeDiff, reduceIte, Nat.reduceLT, or_self, true_or, or_true, if_true, if_false, and_self, and_true, true_and, not_false_eq_true, not_true_eq_false]; exact bad (by simp [oc_ok, e2])
theorem mo_O_inj {z z' : Int64} (hz : ∀ j, j < 8 → mo_O z j = mo_O z' j) : z = z' := by
  apply Int64.toBitVec_inj.mp
  apply BitVec.eq_of_getLsbD_eq
  intro i hi
  have q := mo_O_bit (z := z) (j := 7 - i / 8) (t := i % 8) (by omega) (by omega)
  have q' := mo_O_bit (z := z') (j := 7 - i / 8) (t := i % 8) (by omega) (by omega)
  rw [hz (7 - i / 8) (by omega)] at q
  rw [q'] at q
  rw [show 56 - 8 * (7 - i / 8) + i % 8 = i by omega] at q
  exact q.symm
theorem mul_pr {a b : Int64} (h : a * 1099511628211 = b * 1099511628211) : a = b := by
  have c : (1099511628211 : Int64) * (-3560570117845248645) = 1 := by decide
  have := congrArg (· * (-3560570117845248645 : Int64)) h
  simp only [Int64.mul_assoc, c, Int64.mul_one] at this
  exact this
theorem xor_c {a b c : Int64} (h : a ^^^ b = a ^^^ c) : b = c := by
  have := congrArg (fun x => a ^^^ x) h
  simp only [← Int64.xor_assoc, Int64.xor_self, Int64.zero_xor] at this
  exact this
theorem xor_c' {a b c : Int64} (h : b ^^^ a = c ^^^ a) : b = c := by
  have := congrArg (fun x => x ^^^ a) h
  simp only [Int64.xor_assoc, Int64.xor_self, Int64.xor_zero] at this
  exact this
theorem sm_inj {f f' : Nat → Int32} {x : Int64} {i : Nat} (hf : ∀ j, j ≠ i → f j = f' j) : ∀ n, sm_F f x n = sm_F f' x n → n ≤ i ∨ f i &&& 255 = f' i &&& 255
  | 0, _ => Or.inl (Nat.zero_le _)
  | n + 1, h => by
    unfold sm_F at h
    have h1 := mul_pr h
    by_cases e : n = i
    · subst e
      right
      rw [sm_F_ext n (fun j hj => hf j (by omega))] at h1
      have := congrArg Int64.toInt32 (xor_c h1)
      simpa using this
    · rw [hf n e] at h1
      rcases sm_inj hf n (xor_c' h1) with q | q
      · exact Or.inl (by omega)
      · exact Or.inr q
theorem pk_wrong {h h' : am_H} {p i : Nat} (hR : mo_Rt h p) (hi : i < 128) (hne : am_I h' 73 (128 * p + i) &&& 255 ≠ am_I h 73 (128 * p + i) &&& 255) (ho : ∀ j, j ≠ 128 * p + i → am_I h' 73 j = am_I h 73 j) : ¬ mo_Rt h' p := fun hR' => by
  by_cases e : i < 120
  · have es : sm_F (fun j => am_I h' 73 (128 * p + j)) (nI p).toInt64 120 = sm_F (fun j => am_I h 73 (128 * p + j)) (nI p).toInt64 120 := by
      refine mo_O_inj (fun j hj => ?_)
      rw [← hR j hj, ← hR' j hj, ho _ (by omega)]
    rcases sm_inj (i := i) (fun j hj => ho _ (by omega)) 120 es with q | q
    · omega
    · exact hne q
  · have es : sm_F (fun j => am_I h' 73 (128 * p + j)) (nI p).toInt64 120 = sm_F (fun j => am_I h 73 (128 * p + j)) (nI p).toInt64 120 := sm_F_ext 120 (fun j hj => ho _ (by omega))
    have a := hR (i - 120) (by omega)
    have b := hR' (i - 120) (by omega)
    rw [es] at b
    rw [show 128 * p + 120 + (i - 120) = 128 * p + i by omega] at a b
    exact hne (b.trans a.symm)
theorem xor_255 (x y : Int32) : (x ^^^ y) &&& 255 = (x &&& 255) ^^^ (y &&& 255) := by
  apply Int32.toBitVec_inj.mp
  apply BitVec.eq_of_getLsbD_eq
  intro i hi
  simp only [Int32.toBitVec_and, Int32.toBitVec_xor, BitVec.getLsbD_and, BitVec.getLsbD_xor]
  cases (x.toBitVec).getLsbD i <;> cases (y.toBitVec).getLsbD i <;> cases (Int32.toBitVec 255).getLsbD i <;> rfl
theorem pk_oct {x : Int32} {m : Nat} (h1 : 1 ≤ m) (h2 : m ≤ 255) : am_b8 (x ^^^ am_b8 (nI m)) &&& 255 ≠ x &&& 255 := fun e => by
  rw [b8_and, xor_255, b8_and, and255 (by omega)] at e
  have := congrArg (fun z => (x &&& 255) ^^^ z) e
  simp only [← Int32.xor_assoc, Int32.xor_self, Int32.zero_xor] at this
  have := wnI_inj (b := 0) (by omega) (by decide) this
  omega
theorem rx_octet {d P : Nat} {p i : Int32} {h : am_H} (R : rI P h) : am_Rt nm_pr (d + 2) mi_Mo_octet [.ref 72, .int p, .int i] h (fun o h' => iany o ∧ rq P h h') := by
  have hS := R.1.1
  have q0 := rq.refl R
  have P1024 := R.1.2.2.1
  have one0 : ¬ (1 : Int32) = 0 := by decide
  refine am_in' (d := d + 1) mt_Mo_octet 3 rfl rfl rfl ?_
  refine am_go [] 5 ?_
  simp only [am_wp, am_stp, am_en, am_as, am_pad, am_nth, am_set, am_st1, am_st2, am_kl, am_kill, am_mem, am_fv, am_tk, am_wt, am_bk, Option.toList, List.cons_append, List.nil_append, Nat.reduceAdd, Nat.reduceEqDiff, Nat.reduceLeDiff, reduceIte, Nat.reduceLT, or_self, true_or, or_true, if_true, if_false, and_self, and_true, true_and, not_false_eq_true, not_true_eq_false, fd_Mo_octet_0, fd_Mo_octet_1, fd_Mo_octet_2, fd_Mo_octet_3, fd_Mo_octet_4, hS.all]
  refine am_call (l2_Mo_isOctet (d := d) hS.1 R.1.2.2.2.1) (fun o g1 z => ?_)
  obtain ⟨rfl, rfl⟩ := z
  cases e : oc_ok P p i with
  | false =>
    simp only [am_wp, am_stp, am_en, am_as, am_pad, am_nth, am_set, am_st1, am_st2, am_kl, am_kill, am_mem, am_fv, am_tk, am_wt, am_bk, Option.toList, List.cons_append, List.nil_append, Nat.reduceAdd, Nat.reduceEqDiff, Nat.reduceLeDiff, reduceIte, Nat.reduceLT, or_self, true_or, or_true, if_true, if_false, and_self, and_true, true_and, not_false_eq_true, not_true_eq_false]
    refine am_go [10, 14] 1 ?_
    simp only [am_wp, am_stp, am_en, am_as, am_pad, am_nth, am_set, am_st1, am_st2, am_kl, am_kill, am_mem, am_fv, am_tk, am_wt, am_bk, Option.toList, List.cons_append, List.nil_append, Nat.reduceAdd, Nat.reduceEqDiff, Nat.reduceLeDiff, reduceIte, Nat.reduceLT, or_self, true_or, or_true, if_true, if_false, and_self, and_true, true_and, not_false_eq_true, not_true_eq_false, fd_Mo_octet_7, hS.all]
    refine am_go [18] 2 ?_
    simp only [am_wp, am_stp, am_en, am_as, am_pad, am_nth, am_set, am_st1, am_st2, am_kl, am_kill, am_mem, am_fv, am_tk, am_wt, am_bk, Option.toList, List.cons_append, List.nil_append, Nat.reduceAdd, Nat.reduceEqDiff, Nat.reduceLeDiff, reduceIte, Nat.reduceLT, or_self, true_or, or_true, if_true, if_false, and_self, and_true, true_and, not_false_eq_true, not_true_eq_false, fd_Mo_octet_14, fd_Mo_octet_15, hS.all]
    have q1 := q0.s (j := 0) (v := 1) (by unfold rJ; omega)
    have e0 : am_I (am_sI g1 72 0 1) 72 0 = 1 := by rw [hx_I_sI, if_pos rfl, if_pos rfl]
    generalize am_sI g1 72 0 1 = g at *
    have S1 := q1.1.1.1
    refine am_go [25, 29] 3 ?_
    simp only [am_wp, am_stp, am_en, am_as, am_pad, am_nth, am_set, am_st1, am_st2, am_kl, am_kill, am_mem, am_fv, am_tk, am_wt, am_bk, Option.toList, List.cons_append, List.nil_append, Nat.reduceAdd, Nat.reduceEqDiff, Nat.reduceLeDiff, reduceIte, Nat.reduceLT, or_self, true_or, or_true, if_true, if_false, and_self, and_true, true_and, not_false_eq_true, not_true_eq_false, fd_Mo_octet_18, fd_Mo_octet_19, fd_Mo_octet_22, S1.all, e0, one0]
    refine am_go [] 3 ?_
    simp only [am_wp, am_stp, am_en, am_as, am_pad, am_nth, am_set, am_st1, am_st2, am_kl, am_kill, am_mem, am_fv, am_tk, am_wt, am_bk, Option.toList, List.cons_append, List.nil_append, Nat.reduceAdd, Nat.reduceEqDiff, Nat.reduceLeDiff, reduceIte, Nat.reduceLT, or_self, true_or, or_true, if_true, if_false, and_self, and_true, true_and, not_false_eq_true, not_true_eq_false, fd_Mo_octet_25, fd_Mo_octet_26, fd_Mo_octet_45, S1.all]
    exact ⟨⟨_, rfl⟩, q1⟩
  | true =>
    obtain ⟨a, b, rfl, rfl, ha, hb⟩ := oc_spec P1024 e
    simp only [am_wp, am_stp, am_en, am_as, am_pad, am_nth, am_set, am_st1, am_st2, am_kl, am_kill, am_mem, am_fv, am_tk, am_wt, am_bk, Option.toList, List.cons_append, List.nil_append, Nat.reduceAdd, Nat.reduceEqDiff, Nat.reduceLeDiff, reduceIte, Nat.reduceLT, or_self, true_or, or_true, if_true, if_false, and_self, and_true, true_and, not_false_eq_true, not_true_eq_false]
    refine am_go [10, 14] 1 ?_
    simp only [am_wp, am_stp, am_en, am_as, am_pad, am_nth, am_set, am_st1, am_st2, am_kl, am_kill, am_mem, am_fv, am_tk, am_wt, am_bk, Option.toList, List.cons_append, List.nil_append, Nat.reduceAdd, Nat.reduceEqDiff, Nat.reduceLeDiff, reduceIte, Nat.reduceLT, or_self, true_or, or_true, if_true, if_false, and_self, and_true, true_and, not_false_eq_true, not_true_eq_false, fd_Mo_octet_7, hS.all, one0]
    refine am_go [18] 3 ?_
    simp only [am_wp, am_stp, am_en, am_as, am_pad, am_nth, am_set, am_st1, am_st2, am_kl, am_kill, am_mem, am_fv, am_tk, am_wt, am_bk, Option.toList, List.cons_append, List.nil_append, Nat.reduceAdd, Nat.reduceEqDiff, Nat.reduceLeDiff, reduceIte, Nat.reduceLT, or_self, true_or, or_true, if_true, if_false, and_self, and_true, true_and, not_false_eq_true, not_true_eq_false, fd_Mo_octet_10, fd_Mo_octet_11, fd_Mo_octet_15, hS.all]
    have q1 := q0.s (j := 0) (v := 0) (by unfold rJ; omega)
    have e0 : am_I (am_sI g1 72 0 0) 72 0 = 0 := by rw [hx_I_sI, if_pos rfl, if_pos rfl]
    generalize am_sI g1 72 0 0 = g at *
    have S1 := q1.1.1.1
    have e1 : 128 * nI a = nI (128 * a) := (Int32.ofNat_mul 128 a).symm
    have i2 := am_inb (c := 128 * a + b) (N := 131072) (by omega) (by omega)
    have q2 : (nI (128 * a + b)).toNatClampNeg = 128 * a + b := nI_clamp (by omega)
    refine am_go [25, 29] 3 ?_
    simp only [am_wp, am_stp, am_en, am_as, am_pad, am_nth, am_set, am_st1, am_st2, am_kl, am_kill, am_mem, am_fv, am_tk, am_wt, am_bk, Option.toList, List.cons_append, List.nil_append, Nat.reduceAdd, Nat.reduceEqDiff, Nat.reduceLeDiff, reduceIte, Nat.reduceLT, or_self, true_or, or_true, if_true, if_false, and_self, and_true, true_and, not_false_eq_true, not_true_eq_false, fd_Mo_octet_18, fd_Mo_octet_19, fd_Mo_octet_22, S1.all, e0]
    refine am_go [] 11 ?_
    simp only [am_wp, am_stp, am_en, am_as, am_pad, am_nth, am_set, am_st1, am_st2, am_kl, am_kill, am_mem, am_fv, am_tk, am_wt, am_bk, Option.toList, List.cons_append, List.nil_append, Nat.reduceAdd, Nat.reduceEqDiff, Nat.reduceLeDiff, reduceIte, Nat.reduceLT, or_self, true_or, or_true, if_true, if_false, and_self, and_true, true_and, not_false_eq_true, not_true_eq_false, fd_Mo_octet_29, fd_Mo_octet_30, fd_Mo_octet_33, fd_Mo_octet_36, fd_Mo_octet_37, fd_Mo_octet_38, fd_Mo_octet_39, fd_Mo_octet_40, fd_Mo_octet_41, fd_Mo_octet_44, fd_Mo_octet_45, S1.all, e1, nI_add, i2, q2]
    exact ⟨⟨_, rfl⟩, q1⟩
theorem rx_poke {d P : Nat} {p i k : Int32} {h : am_H} (R : rI P h) : am_Rt nm_pr (d + 3) mi_Mo_poke [.ref 72, .int p, .int i, .int k] h (fun o h' => o = .inl none ∧ rq P h h') := by
  have hS := R.1.1
  have q0 := rq.refl R
  have P1024 := R.1.2.2.1
  have one0 : ¬ (1 : Int32) = 0 := by decide
  refine am_in' (d := d + 2) mt_Mo_poke 4 rfl rfl rfl ?_
  refine am_go [] 5 ?_
  simp only [am_wp, am_stp, am_en, am_as, am_pad, am_nth, am_set, am_st1, am_st2, am_kl, am_kill, am_mem, am_fv, am_tk, am_wt, am_bk, Option.toList, List.cons_append, List.nil_append, Nat.reduceAdd, Nat.reduceEqDiff, Nat.reduceLeDiff, reduceIte, Nat.reduceLT, or_self, true_or, or_true, if_true, if_false, and_self, and_true, true_and, not_false_eq_true, not_true_eq_false, fd_Mo_poke_0, fd_Mo_poke_1, fd_Mo_poke_2, fd_Mo_poke_3, fd_Mo_poke_4, hS.all]
  refine am_call (l2_Mo_isOctet (d := d + 1) hS.1 R.1.2.2.2.1) (fun o g1 z => ?_)
  obtain ⟨rfl, rfl⟩ := z
  have no : ∀ c : Int32, c ≠ 0 → am_Ex nm_pr (d + 2) mt_Mo_poke (43, [.ref 72, .int p, .int i, .int k], [.int c, .ref 72], g1) (fun o h' => o = .inl none ∧ rq P g1 h') := fun c hc => by
    refine am_go [46] 1 ?_
    simp only [am_wp, am_stp, am_en, am_as, am_pad, am_nth, am_set, am_st1, am_st2, am_kl, am_kill, am_mem, am_fv, am_tk, am_wt, am_bk, Option.toList, List.cons_append, List.nil_append, Nat.reduceAdd, Nat.reduceEqDiff, Nat.reduceLeDiff, reduceIte, Nat.reduceLT, or_self, true_or, or_true, if_true, if_false, and_self, and_true, true_and, not_false_eq_true, not_true_eq_false, fd_Mo_poke_43, hS.all]
    have q1 := q0.s (j := 0) (v := c) (by unfold rJ; omega)
    have e0 : am_I (am_sI g1 72 0 c) 72 0 = c := by rw [hx_I_sI, if_pos rfl, if_pos rfl]
    generalize am_sI g1 72 0 c = g at *
    have S1 := q1.1.1.1
    refine am_go [53, 71] 3 ?_
    simp only [am_wp, am_stp, am_en, am_as, am_pad, am_nth, am_set, am_st1, am_st2, am_kl, am_kill, am_mem, am_fv, am_tk, am_wt, am_bk, Option.toList, List.cons_append, List.nil_append, Nat.reduceAdd, Nat.reduceEqDiff, Nat.reduceLeDiff, reduceIte, Nat.reduceLT, or_self, true_or, or_true, if_true, if_false, and_self, and_true, true_and, not_false_eq_true, not_true_eq_false, fd_Mo_poke_46, fd_Mo_poke_47, fd_Mo_poke_50, S1.all, e0, hc]
    refine am_go [] 1 ?_
    simp only [am_wp, am_stp, am_en, am_as, am_pad, am_nth, am_set, am_st1, am_st2, am_kl, am_kill, am_mem, am_fv, am_tk, am_wt, am_bk, Option.toList, List.cons_append, List.nil_append, Nat.reduceAdd, Nat.reduceEqDiff, Nat.reduceLeDiff, reduceIte, Nat.reduceLT, or_self, true_or, or_true, if_true, if_false, and_self, and_true, true_and, not_false_eq_true, not_true_eq_false, fd_Mo_poke_71, S1.all]
    exact q1
  cases e : oc_ok P p i with
  | false =>
    simp only [am_wp, am_stp, am_en, am_as, am_pad, am_nth, am_set, am_st1, am_st2, am_kl, am_kill, am_mem, am_fv, am_tk, am_wt, am_bk, Option.toList, List.cons_append, List.nil_append, Nat.reduceAdd, Nat.reduceEqDiff, Nat.reduceLeDiff, reduceIte, Nat.reduceLT, or_self, true_or, or_true, if_true, if_false, and_self, and_true, true_and, not_false_eq_true, not_true_eq_false]
    refine am_go [10, 14] 1 ?_
    simp only [am_wp, am_stp, am_en, am_as, am_pad, am_nth, am_set, am_st1, am_st2, am_kl, am_kill, am_mem, am_fv, am_tk, am_wt, am_bk, Option.toList, List.cons_append, List.nil_append, Nat.reduceAdd, Nat.reduceEqDiff, Nat.reduceLeDiff, reduceIte, Nat.reduceLT, or_self, true_or, or_true, if_true, if_false, and_self, and_true, true_and, not_false_eq_true, not_true_eq_false, fd_Mo_poke_7, hS.all]
    refine am_go [43] 2 ?_
    simp only [am_wp, am_stp, am_en, am_as, am_pad, am_nth, am_set, am_st1, am_st2, am_kl, am_kill, am_mem, am_fv, am_tk, am_wt, am_bk, Option.toList, List.cons_append, List.nil_append, Nat.reduceAdd, Nat.reduceEqDiff, Nat.reduceLeDiff, reduceIte, Nat.reduceLT, or_self, true_or, or_true, if_true, if_false, and_self, and_true, true_and, not_false_eq_true, not_true_eq_false, fd_Mo_poke_10, fd_Mo_poke_11, hS.all]
    exact no 1 (by decide)
  | true =>
    obtain ⟨a, b, rfl, rfl, ha, hb⟩ := oc_spec P1024 e
    simp only [am_wp, am_stp, am_en, am_as, am_pad, am_nth, am_set, am_st1, am_st2, am_kl, am_kill, am_mem, am_fv, am_tk, am_wt, am_bk, Option.toList, List.cons_append, List.nil_append, Nat.reduceAdd, Nat.reduceEqDiff, Nat.reduceLeDiff, reduceIte, Nat.reduceLT, or_self, true_or, or_true, if_true, if_false, and_self, and_true, true_and, not_false_eq_true, not_true_eq_false]
    refine am_go [10, 14] 1 ?_
    simp only [am_wp, am_stp, am_en, am_as, am_pad, am_nth, am_set, am_st1, am_st2, am_kl, am_kill, am_mem, am_fv, am_tk, am_wt, am_bk, Option.toList, List.cons_append, List.nil_append, Nat.reduceAdd, Nat.reduceEqDiff, Nat.reduceLeDiff, reduceIte, Nat.reduceLT, or_self, true_or, or_true, if_true, if_false, and_self, and_true, true_and, not_false_eq_true, not_true_eq_false, fd_Mo_poke_7, hS.all, one0]
    refine am_go [] 3 ?_
    simp only [am_wp, am_stp, am_en, am_as, am_pad, am_nth, am_set, am_st1, am_st2, am_kl, am_kill, am_mem, am_fv, am_tk, am_wt, am_bk, Option.toList, List.cons_append, List.nil_append, Nat.reduceAdd, Nat.reduceEqDiff, Nat.reduceLeDiff, reduceIte, Nat.reduceLT, or_self, true_or, or_true, if_true, if_false, and_self, and_true, true_and, not_false_eq_true, not_true_eq_false, fd_Mo_poke_14, fd_Mo_poke_15, fd_Mo_poke_16, hS.all]
    refine am_call (l2_Mo_isRight (d := d) hS.Pg (show a < 1024 by omega)) (fun o g2 z => ?_)
    obtain ⟨rfl, z⟩ := z
    rcases z with ⟨rfl, hR⟩ | ⟨rfl, -⟩
    · simp only [am_wp, am_stp, am_en, am_as, am_pad, am_nth, am_set, am_st1, am_st2, am_kl, am_kill, am_mem, am_fv, am_tk, am_wt, am_bk, Option.toList, List.cons_append, List.nil_append, Nat.reduceAdd, Nat.reduceEqDiff, Nat.reduceLeDiff, reduceIte, Nat.reduceLT, or_self, true_or, or_true, if_true, if_false, and_self, and_true, true_and, not_false_eq_true, not_true_eq_false]
      refine am_go [22, 26] 1 ?_
      simp only [am_wp, am_stp, am_en, am_as, am_pad, am_nth, am_set, am_st1, am_st2, am_kl, am_kill, am_mem, am_fv, am_tk, am_wt, am_bk, Option.toList, List.cons_append, List.nil_append, Nat.reduceAdd, Nat.reduceEqDiff, Nat.reduceLeDiff, reduceIte, Nat.reduceLT, or_self, true_or, or_true, if_true, if_false, and_self, and_true, true_and, not_false_eq_true, not_true_eq_false, fd_Mo_poke_19, hS.all, one0]
      by_cases e1 : k < 1
      · refine am_go [31, 38] 3 ?_
        simp only [am_wp, am_stp, am_en, am_as, am_pad, am_nth, am_set, am_st1, am_st2, am_kl, am_kill, am_mem, am_fv, am_tk, am_wt, am_bk, Option.toList, List.cons_append, List.nil_append, Nat.reduceAdd, Nat.reduceEqDiff, Nat.reduceLeDiff, reduceIte, Nat.reduceLT, or_self, true_or, or_true, if_true, if_false, and_self, and_true, true_and, not_false_eq_true, not_true_eq_false, fd_Mo_poke_26, fd_Mo_poke_27, fd_Mo_poke_28, hS.all, e1]
        refine am_go [43] 2 ?_
        simp only [am_wp, am_stp, am_en, am_as, am_pad, am_nth, am_set, am_st1, am_st2, am_kl, am_kill, am_mem, am_fv, am_tk, am_wt, am_bk, Option.toList, List.cons_append, List.nil_append, Nat.reduceAdd, Nat.reduceEqDiff, Nat.reduceLeDiff, reduceIte, Nat.reduceLT, or_self, true_or, or_true, if_true, if_false, and_self, and_true, true_and, not_false_eq_true, not_true_eq_false, fd_Mo_poke_38, fd_Mo_poke_39, hS.all]
        exact no 3 (by decide)
      refine am_go [31, 38] 3 ?_
      simp only [am_wp, am_stp, am_en, am_as, am_pad, am_nth, am_set, am_st1, am_st2, am_kl, am_kill, am_mem, am_fv, am_tk, am_wt, am_bk, Option.toList, List.cons_append, List.nil_append, Nat.reduceAdd, Nat.reduceEqDiff, Nat.reduceLeDiff, reduceIte, Nat.reduceLT, or_self, true_or, or_true, if_true, if_false, and_self, and_true, true_and, not_false_eq_true, not_true_eq_false, fd_Mo_poke_26, fd_Mo_poke_27, fd_Mo_poke_28, hS.all, e1]
      by_cases e2 : 255 < k
      · refine am_go [38, 42] 3 ?_
        simp only [am_wp, am_stp, am_en, am_as, am_pad, am_nth, am_set, am_st1, am_st2, am_kl, am_kill, am_mem, am_fv, am_tk, am_wt, am_bk, Option.toList, List.cons_append, List.nil_append, Nat.reduceAdd, Nat.reduceEqDiff, Nat.reduceLeDiff, reduceIte, Nat.reduceLT, or_self, true_or, or_true, if_true, if_false, and_self, and_true, true_and, not_false_eq_true, not_true_eq_false, fd_Mo_poke_31, fd_Mo_poke_32, fd_Mo_poke_35, hS.all, e2]
        refine am_go [43] 2 ?_
        simp only [am_wp, am_stp, am_en, am_as, am_pad, am_nth, am_set, am_st1, am_st2, am_kl, am_kill, am_mem, am_fv, am_tk, am_wt, am_bk, Option.toList, List.cons_append, List.nil_append, Nat.reduceAdd, Nat.reduceEqDiff, Nat.reduceLeDiff, reduceIte, Nat.reduceLT, or_self, true_or, or_true, if_true, if_false, and_self, and_true, true_and, not_false_eq_true, not_true_eq_false, fd_Mo_poke_38, fd_Mo_poke_39, hS.all]
        exact no 3 (by decide)
      refine am_go [38, 42] 3 ?_
      simp only [am_wp, am_stp, am_en, am_as, am_pad, am_nth, am_set, am_st1, am_st2, am_kl, am_kill, am_mem, am_fv, am_tk, am_wt, am_bk, Option.toList, List.cons_append, List.nil_append, Nat.reduceAdd, Nat.reduceEqDiff, Nat.reduceLeDiff, reduceIte, Nat.reduceLT, or_self, true_or, or_true, if_true, if_false, and_self, and_true, true_and, not_false_eq_true, not_true_eq_false, fd_Mo_poke_31, fd_Mo_poke_32, fd_Mo_poke_35, hS.all, e2]
      obtain ⟨m, rfl, m1, m2⟩ : ∃ m, k = nI m ∧ 1 ≤ m ∧ m ≤ 255 := by
        have a1 : (1 : Int32).toInt = 1 := by decide
        have a2 : (255 : Int32).toInt = 255 := by decide
        rw [Int32.lt_iff_toInt_lt, a1] at e1
        rw [Int32.lt_iff_toInt_lt, a2] at e2
        refine ⟨k.toInt.toNat, ?_, by omega, by omega⟩
        rw [← Int32.toInt_inj]
        show k.toInt = (Int32.ofNat k.toInt.toNat).toInt
        rw [Int32.toInt_ofNat_of_lt (by omega)]
        omega
      refine am_go [46] 2 ?_
      simp only [am_wp, am_stp, am_en, am_as, am_pad, am_nth, am_set, am_st1, am_st2, am_kl, am_kill, am_mem, am_fv, am_tk, am_wt, am_bk, Option.toList, List.cons_append, List.nil_append, Nat.reduceAdd, Nat.reduceEqDiff, Nat.reduceLeDiff, reduceIte, Nat.reduceLT, or_self, true_or, or_true, if_true, if_false, and_self, and_true, true_and, not_false_eq_true, not_true_eq_false, fd_Mo_poke_42, fd_Mo_poke_43, hS.all]
      have q1 := q0.s (j := 0) (v := 0) (by unfold rJ; omega)
      have e0 : am_I (am_sI g2 72 0 0) 72 0 = 0 := by rw [hx_I_sI, if_pos rfl, if_pos rfl]
      have hR1 : mo_Rt (am_sI g2 72 0 0) a := (mo_Rt.eq (fun j _ => by rw [hx_I_sI, if_neg (by decide)])).mpr hR
      generalize am_sI g2 72 0 0 = g at *
      obtain ⟨C, E, now, mk, RR⟩ := id q1.1
      have S1 := C.1
      have e1' : 128 * nI a = nI (128 * a) := (Int32.ofNat_mul 128 a).symm
      have i2 := am_inb (c := 128 * a + b) (N := 131072) (by omega) (by omega)
      have q2 : (nI (128 * a + b)).toNatClampNeg = 128 * a + b := nI_clamp (by omega)
      refine am_go [53, 71] 3 ?_
      simp only [am_wp, am_stp, am_en, am_as, am_pad, am_nth, am_set, am_st1, am_st2, am_kl, am_kill, am_mem, am_fv, am_tk, am_wt, am_bk, Option.toList, List.cons_append, List.nil_append, Nat.reduceAdd, Nat.reduceEqDiff, Nat.reduceLeDiff, reduceIte, Nat.reduceLT, or_self, true_or, or_true, if_true, if_false, and_self, and_true, true_and, not_false_eq_true, not_true_eq_false, fd_Mo_poke_46, fd_Mo_poke_47, fd_Mo_poke_50, S1.all, e0]
      refine am_go [] 15 ?_
      simp only [am_wp, am_stp, am_en, am_as, am_pad, am_nth, am_set, am_st1, am_st2, am_kl, am_kill, am_mem, am_fv, am_tk, am_wt, am_bk, Option.toList, List.cons_append, List.nil_append, Nat.reduceAdd, Nat.reduceEqDiff, Nat.reduceLeDiff, reduceIte, Nat.reduceLT, or_self, true_or, or_true, if_true, if_false, and_self, and_true, true_and, not_false_eq_true, not_true_eq_false, fd_Mo_poke_53, fd_Mo_poke_54, fd_Mo_poke_57, fd_Mo_poke_60, fd_Mo_poke_61, fd_Mo_poke_62, fd_Mo_poke_63, fd_Mo_poke_64, fd_Mo_poke_65, fd_Mo_poke_66, fd_Mo_poke_67, fd_Mo_poke_68, fd_Mo_poke_69, fd_Mo_poke_70, fd_Mo_poke_71, S1.all, e1', nI_add, i2, q2, am_b8_b8]
      have F : am_fi [73] g (am_sI g 73 (128 * a + b) (am_b8 (am_I g 73 (128 * a + b) ^^^ am_b8 (nI m)))) := am_fi.refl.sI (by simp)
      have ho : ∀ j, j ≠ 128 * a + b → am_I (am_sI g 73 (128 * a + b) (am_b8 (am_I g 73 (128 * a + b) ^^^ am_b8 (nI m)))) 73 j = am_I g 73 j := fun j hj => by rw [hx_I_sI, if_pos rfl, if_neg hj]
      have hv : am_I (am_sI g 73 (128 * a + b) (am_b8 (am_I g 73 (128 * a + b) ^^^ am_b8 (nI m)))) 73 (128 * a + b) &&& 255 ≠ am_I g 73 (128 * a + b) &&& 255 := by
        rw [hx_I_sI, if_pos rfl, if_pos rfl]; exact pk_oct m1 m2
      have b3 : BY (am_sI g 73 (128 * a + b) (am_b8 (am_I g 73 (128 * a + b) ^^^ am_b8 (nI m)))) := C.b.sI
      generalize am_sI g 73 (128 * a + b) (am_b8 (am_I g 73 (128 * a + b) ^^^ am_b8 (nI m))) = g3 at *
      have wr := pk_wrong hR1 hb hv ho
      have w := F.2.2.2.2.2.2.1
      have pw : ∀ q, pgw P g E q → pgw P g3 E q := fun q hq => by
        by_cases eq : q = a
        · subst eq
          obtain ⟨c1, c2, c3, c4, c5, c6⟩ := hq
          exact ⟨c1, c2, c3, c4, c5, fun z => absurd z wr⟩
        · refine hq.eq (fun j hj => ho _ ?_)
          rcases Nat.lt_or_gt_of_ne eq with x | x <;> omega
      refine ⟨⟨C.v F (by decide) (by rw [w 72 (by decide)]) (by rw [w 72 (by decide)]) (by rw [w 72 (by decide)]) (by rw [w 72 (by decide)]) (by rw [w 72 (by decide)]; exact C.a8) b3, E, now, mk, ?_⟩, q1.2.trans (F.sub (by decide))⟩
      obtain ⟨r1, r2, ⟨r3, r4⟩, r5⟩ := RR
      refine ⟨?_, ?_, ⟨?_, fun s hs => ?_⟩, ?_⟩
      · unfold rR_n lev
        rw [w 72 (by decide), w 86 (by decide), w 79 (by decide)]; exact r1
      · unfold rR_m
        rw [w 87 (by decide), w 88 (by decide), w 89 (by decide)]; exact r2
      · rw [w 77 (by decide)]; exact r3
      · exact (r4 s hs).eq P1024 (by rw [w 80 (by decide)]) (fun k _ => by rw [w 82 (by decide)]) pw
      · rw [w 72 (by decide)]; exact r5
    · simp only [am_wp, am_stp, am_en, am_as, am_pad, am_nth, am_set, am_st1, am_st2, am_kl, am_kill, am_mem, am_fv, am_tk, am_wt, am_bk, Option.toList, List.cons_append, List.nil_append, Nat.reduceAdd, Nat.reduceEqDiff, Nat.reduceLeDiff, reduceIte, Nat.reduceLT, or_self, true_or, or_true, if_true, if_false, and_self, and_true, true_and, not_false_eq_true, not_true_eq_false]
      refine am_go [22, 26] 1 ?_
      simp only [am_wp, am_stp, am_en, am_as, am_pad, am_nth, am_set, am_st1, am_st2, am_kl, am_kill, am_mem, am_fv, am_tk, am_wt, am_bk, Option.toList, List.cons_append, List.nil_append, Nat.reduceAdd, Nat.reduceEqDiff, Nat.reduceLeDiff, reduceIte, Nat.reduceLT, or_self, true_or, or_true, if_true, if_false, and_self, and_true, true_and, not_false_eq_true, not_true_eq_false, fd_Mo_poke_19, hS.all]
      refine am_go [43] 2 ?_
      simp only [am_wp, am_stp, am_en, am_as, am_pad, am_nth, am_set, am_st1, am_st2, am_kl, am_kill, am_mem, am_fv, am_tk, am_wt, am_bk, Option.toList, List.cons_append, List.nil_append, Nat.reduceAdd, Nat.reduceEqDiff, Nat.reduceLeDiff, reduceIte, Nat.reduceLT, or_self, true_or, or_true, if_true, if_false, and_self, and_true, true_and, not_false_eq_true, not_true_eq_false, fd_Mo_poke_22, fd_Mo_poke_23, hS.all]
      exact no 2 (by decide)
theorem rx_bad_loop {d P : Nat} {h g : am_H} (q : rq P h g) : ∀ (m p : Nat), m + p = P →
    am_Ex nm_pr (d + 2) mt_Mo_badAt (61, [.ref 72, .int (nI p)], [], g) (fun o h' => iany o ∧ rq P h h')
  | 0, p, hm => by
    have S := q.1.1.1
    have P1024 := q.1.1.2.2.1
    have e : p = P := by omega
    subst e
    have l1 : ¬ nI p < nI p := nI_nlt (Nat.le_refl _) (by omega)
    refine am_go [69, 94] 4 ?_
    simp only [am_wp, am_stp, am_en, am_as, am_pad, am_nth, am_set, am_st1, am_st2, am_kl, am_kill, am_mem, am_fv, am_tk, am_wt, am_bk, Option.toList, List.cons_append, List.nil_append, Nat.reduceAdd, Nat.reduceEqDiff, Nat.reduceLeDiff, reduceIte, Nat.reduceLT, or_self, true_or, or_true, if_true, if_false, and_self, and_true, true_and, not_false_eq_true, not_true_eq_false, fd_Mo_badAt_61, fd_Mo_badAt_62, fd_Mo_badAt_63, fd_Mo_badAt_66, S.all, q.1.1.2.2.2.1, l1]
    refine am_go [] 2 ?_
    simp only [am_wp, am_stp, am_en, am_as, am_pad, am_nth, am_set, am_st1, am_st2, am_kl, am_kill, am_mem, am_fv, am_tk, am_wt, am_bk, Option.toList, List.cons_append, List.nil_append, Nat.reduceAdd, Nat.reduceEqDiff, Nat.reduceLeDiff, reduceIte, Nat.reduceLT, or_self, true_or, or_true, if_true, if_false, and_self, and_true, true_and, not_false_eq_true, not_true_eq_false, fd_Mo_badAt_94, fd_Mo_badAt_95, S.all]
    exact ⟨⟨_, rfl⟩, q⟩
  | m + 1, p, hm => by
    have S := q.1.1.1
    have P1024 := q.1.1.2.2.1
    have l1 : nI p < nI P := nI_lt (by omega) (by omega)
    have i1 := am_inb (c := p) (N := 1024) (by omega) (by omega)
    have q1 : (nI p).toNatClampNeg = p := nI_clamp (by omega)
    have one0 : ¬ (1 : Int32) = 0 := by decide
    have next : am_Ex nm_pr (d + 2) mt_Mo_badAt (88, [.ref 72, .int (nI p)], [], g) (fun o h' => iany o ∧ rq P h h') := by
      refine am_go [61] 2 ?_
      simp only [am_wp, am_stp, am_en, am_as, am_pad, am_nth, am_set, am_st1, am_st2, am_kl, am_kill, am_mem, am_fv, am_tk, am_wt, am_bk, Option.toList, List.cons_append, List.nil_append, Nat.reduceAdd, Nat.reduceEqDiff, Nat.reduceLeDiff, reduceIte, Nat.reduceLT, or_self, true_or, or_true, if_true, if_false, and_self, and_true, true_and, not_false_eq_true, not_true_eq_false, fd_Mo_badAt_88, fd_Mo_badAt_91, S.all, nI_1]
      exact rx_bad_loop q m (p + 1) (by omega)
    refine am_go [69, 94] 4 ?_
    simp only [am_wp, am_stp, am_en, am_as, am_pad, am_nth, am_set, am_st1, am_st2, am_kl, am_kill, am_mem, am_fv, am_tk, am_wt, am_bk, Option.toList, List.cons_append, List.nil_append, Nat.reduceAdd, Nat.reduceEqDiff, Nat.reduceLeDiff, reduceIte, Nat.reduceLT, or_self, true_or, or_true, if_true, if_false, and_self, and_true, true_and, not_false_eq_true, not_true_eq_false, fd_Mo_badAt_61, fd_Mo_badAt_62, fd_Mo_badAt_63, fd_Mo_badAt_66, S.all, q.1.1.2.2.2.1, l1]
    refine am_go [78, 88] 5 ?_
    simp only [am_wp, am_stp, am_en, am_as, am_pad, am_nth, am_set, am_st1, am_st2, am_kl, am_kill, am_mem, am_fv, am_tk, am_wt, am_bk, Option.toList, List.cons_append, List.nil_append, Nat.reduceAdd, Nat.reduceEqDiff, Nat.reduceLeDiff, reduceIte, Nat.reduceLT, or_self, true_or, or_true, if_true, if_false, and_self, and_true, true_and, not_false_eq_true, not_true_eq_false, fd_Mo_badAt_69, fd_Mo_badAt_70, fd_Mo_badAt_73, fd_Mo_badAt_74, fd_Mo_badAt_75, S.all, i1, q1]
    refine wif next ?_
    refine am_go [] 3 ?_
    simp only [am_wp, am_stp, am_en, am_as, am_pad, am_nth, am_set, am_st1, am_st2, am_kl, am_kill, am_mem, am_fv, am_tk, am_wt, am_bk, Option.toList, List.cons_append, List.nil_append, Nat.reduceAdd, Nat.reduceEqDiff, Nat.reduceLeDiff, reduceIte, Nat.reduceLT, or_self, true_or, or_true, if_true, if_false, and_self, and_true, true_and, not_false_eq_true, not_true_eq_false, fd_Mo_badAt_78, fd_Mo_badAt_79, fd_Mo_badAt_80, S.all]
    refine am_call (l2_Mo_isRight (d := d) S.Pg (show p < 1024 by omega)) (fun o g2 z => ?_)
    obtain ⟨rfl, z⟩ := z
    rcases z with ⟨rfl, -⟩ | ⟨rfl, -⟩
    · simp only [am_wp, am_stp, am_en, am_as, am_pad, am_nth, am_set, am_st1, am_st2, am_kl, am_kill, am_mem, am_fv, am_tk, am_wt, am_bk, Option.toList, List.cons_append, List.nil_append, Nat.reduceAdd, Nat.reduceEqDiff, Nat.reduceLeDiff, reduceIte, Nat.reduceLT, or_self, true_or, or_true, if_true, if_false, and_self, and_true, true_and, not_false_eq_true, not_true_eq_false]
      refine am_go [86, 88] 1 ?_
      simp only [am_wp, am_stp, am_en, am_as, am_pad, am_nth, am_set, am_st1, am_st2, am_kl, am_kill, am_mem, am_fv, am_tk, am_wt, am_bk, Option.toList, List.cons_append, List.nil_append, Nat.reduceAdd, Nat.reduceEqDiff, Nat.reduceLeDiff, reduceIte, Nat.reduceLT, or_self, true_or, or_true, if_true, if_false, and_self, and_true, true_and, not_false_eq_true, not_true_eq_false, fd_Mo_badAt_83, S.all, one0]
      exact next
    · simp only [am_wp, am_stp, am_en, am_as, am_pad, am_nth, am_set, am_st1, am_st2, am_kl, am_kill, am_mem, am_fv, am_tk, am_wt, am_bk, Option.toList, List.cons_append, List.nil_append, Nat.reduceAdd, Nat.reduceEqDiff, Nat.reduceLeDiff, reduceIte, Nat.reduceLT, or_self, true_or, or_true, if_true, if_false, and_self, and_true, true_and, not_false_eq_true, not_true_eq_false]
      refine am_go [86, 88] 1 ?_
      simp only [am_wp, am_stp, am_en, am_as, am_pad, am_nth, am_set, am_st1, am_st2, am_kl, am_kill, am_mem, am_fv, am_tk, am_wt, am_bk, Option.toList, List.cons_append, List.nil_append, Nat.reduceAdd, Nat.reduceEqDiff, Nat.reduceLeDiff, reduceIte, Nat.reduceLT, or_self, true_or, or_true, if_true, if_false, and_self, and_true, true_and, not_false_eq_true, not_true_eq_false, fd_Mo_badAt_83, S.all]
      refine am_go [] 2 ?_
      simp only [am_wp, am_stp, am_en, am_as, am_pad, am_nth, am_set, am_st1, am_st2, am_kl, am_kill, am_mem, am_fv, am_tk, am_wt, am_bk, Option.toList, List.cons_append, List.nil_append, Nat.reduceAdd, Nat.reduceEqDiff, Nat.reduceLeDiff, reduceIte, Nat.reduceLT, or_self, true_or, or_true, if_true, if_false, and_self, and_true, true_and, not_false_eq_true, not_true_eq_false, fd_Mo_badAt_86, fd_Mo_badAt_87, S.all]
      exact ⟨⟨_, rfl⟩, q⟩
theorem rx_badAt {d P : Nat} {h : am_H} (R : rI P h) : am_Rt nm_pr (d + 3) mi_Mo_badAt [.ref 72] h (fun o h' => iany o ∧ rq P h h') := by
  have hS := R.1.1
  have q0 := rq.refl R
  refine am_in' (d := d + 2) mt_Mo_badAt 2 rfl rfl rfl ?_
  refine am_go [5] 3 ?_
  simp only [am_wp, am_stp, am_en, am_as, am_pad, am_nth, am_set, am_st1, am_st2, am_kl, am_kill, am_mem, am_fv, am_tk, am_wt, am_bk, Option.toList, List.cons_append, List.nil_append, Nat.reduceAdd, Nat.reduceEqDiff, Nat.reduceLeDiff, reduceIte, Nat.reduceLT, or_self, true_or, or_true, if_true, if_false, and_self, and_true, true_and, not_false_eq_true, not_true_eq_false, fd_Mo_badAt_0, fd_Mo_badAt_1, fd_Mo_badAt_2, hS.all]
  have q1 := q0.s (j := 0) (v := 0) (by unfold rJ; omega)
  generalize am_sI h 72 0 0 = g at *
  obtain ⟨C, E, now, mk, RR⟩ := id q1.1
  have S1 := C.1
  have P1024 := C.2.2.1
  refine am_go [12, 14] 3 ?_
  simp only [am_wp, am_stp, am_en, am_as, am_pad, am_nth, am_set, am_st1, am_st2, am_kl, am_kill, am_mem, am_fv, am_tk, am_wt, am_bk, Option.toList, List.cons_append, List.nil_append, Nat.reduceAdd, Nat.reduceEqDiff, Nat.reduceLeDiff, reduceIte, Nat.reduceLT, or_self, true_or, or_true, if_true, if_false, and_self, and_true, true_and, not_false_eq_true, not_true_eq_false, fd_Mo_badAt_5, fd_Mo_badAt_6, fd_Mo_badAt_9, S1.all]
  refine wif ?_ ?_
  rotate_left
  · refine am_go [] 2 ?_
    simp only [am_wp, am_stp, am_en, am_as, am_pad, am_nth, am_set, am_st1, am_st2, am_kl, am_kill, am_mem, am_fv, am_tk, am_wt, am_bk, Option.toList, List.cons_append, List.nil_append, Nat.reduceAdd, Nat.reduceEqDiff, Nat.reduceLeDiff, reduceIte, Nat.reduceLT, or_self, true_or, or_true, if_true, if_false, and_self, and_true, true_and, not_false_eq_true, not_true_eq_false, fd_Mo_badAt_12, fd_Mo_badAt_13, S1.all]
    exact ⟨⟨_, rfl⟩, q1⟩
  refine am_go [] 2 ?_
  simp only [am_wp, am_stp, am_en, am_as, am_pad, am_nth, am_set, am_st1, am_st2, am_kl, am_kill, am_mem, am_fv, am_tk, am_wt, am_bk, Option.toList, List.cons_append, List.nil_append, Nat.reduceAdd, Nat.reduceEqDiff, Nat.reduceLeDiff, reduceIte, Nat.reduceLT, or_self, true_or, or_true, if_true, if_false, and_self, and_true, true_and, not_false_eq_true, not_true_eq_false, fd_Mo_badAt_14, fd_Mo_badAt_15, S1.all]
  refine am_call (l2_Mo_markUsed (d := d + 1) (by have := C.2.1; omega) P1024 S1 C.2.2.2.1 (RR.W P1024)) (fun o g2 z => ?_)
  obtain ⟨rfl, F2, -, -⟩ := z
  have q2 := q1.trans (rq.fr q1.1 F2 (by simp [rB]) (fun j _ => by rw [F2.2.2.2.2.2.2.1 72 (by simp)]))
  have S2 := S1.fi F2
  have i0 : ((0 : Int32) < 0 ∨ 1024 ≤ (0 : Int32).toNatClampNeg) = False := by decide
  have c0 : (0 : Int32).toNatClampNeg = 0 := by decide
  have i1 : ((1 : Int32) < 0 ∨ 1024 ≤ (1 : Int32).toNatClampNeg) = False := by decide
  have c1 : (1 : Int32).toNatClampNeg = 1 := by decide
  have b90 : ∀ g (v : Int32) j, rq P h g → rq P h (am_sI g 90 j v) := fun g v j q => q.trans (rq.fr (S := [90]) q.1 (am_fi.refl.sI (by simp)) (by simp [rB]) (fun i _ => by rw [hx_I_sI, if_neg (by decide)]))
  simp only [am_wp, am_stp, am_en, am_as, am_pad, am_nth, am_set, am_st1, am_st2, am_kl, am_kill, am_mem, am_fv, am_tk, am_wt, am_bk, Option.toList, List.cons_append, List.nil_append, Nat.reduceAdd, Nat.reduceEqDiff, Nat.reduceLeDiff, reduceIte, Nat.reduceLT, or_self, true_or, or_true, if_true, if_false, and_self, and_true, true_and, not_false_eq_true, not_true_eq_false]
  have two : ∀ (v : Int32) g, rq P h g → am_Ex nm_pr (d + 2) mt_Mo_badAt (58, [.ref 72, .retAddr 0], [.int v, .int 1, .ref 90], g) (fun o h' => iany o ∧ rq P h h') := fun v g q => by
    have S := q.1.1.1
    refine am_go [61] 3 ?_
    simp only [am_wp, am_stp, am_en, am_as, am_pad, am_nth, am_set, am_st1, am_st2, am_kl, am_kill, am_mem, am_fv, am_tk, am_wt, am_bk, Option.toList, List.cons_append, List.nil_append, Nat.reduceAdd, Nat.reduceEqDiff, Nat.reduceLeDiff, reduceIte, Nat.reduceLT, or_self, true_or, or_true, if_true, if_false, and_self, and_true, true_and, not_false_eq_true, not_true_eq_false, fd_Mo_badAt_58, fd_Mo_badAt_59, fd_Mo_badAt_60, S.all, i1]
    rw [c1]
    have := C.2.1
    exact rx_bad_loop (b90 _ _ _ q) P 0 (by omega)
  have one : ∀ (v : Int32) g, rq P h g → am_Ex nm_pr (d + 2) mt_Mo_badAt (37, [.ref 72, .retAddr 0], [.int v, .int 0, .ref 90], g) (fun o h' => iany o ∧ rq P h h') := fun v g q => by
    have S := q.1.1.1
    refine am_go [38] 1 ?_
    simp only [am_wp, am_stp, am_en, am_as, am_pad, am_nth, am_set, am_st1, am_st2, am_kl, am_kill, am_mem, am_fv, am_tk, am_wt, am_bk, Option.toList, List.cons_append, List.nil_append, Nat.reduceAdd, Nat.reduceEqDiff, Nat.reduceLeDiff, reduceIte, Nat.reduceLT, or_self, true_or, or_true, if_true, if_false, and_self, and_true, true_and, not_false_eq_true, not_true_eq_false, fd_Mo_badAt_37, S.all, i0]
    rw [c0]
    have q3 := b90 _ (v &&& 1) 0 q
    generalize am_sI g 90 0 (v &&& 1) = g3 at *
    have S3 := q3.1.1.1
    refine am_go [53, 57] 9 ?_
    simp only [am_wp, am_stp, am_en, am_as, am_pad, am_nth, am_set, am_st1, am_st2, am_kl, am_kill, am_mem, am_fv, am_tk, am_wt, am_bk, Option.toList, List.cons_append, List.nil_append, Nat.reduceAdd, Nat.reduceEqDiff, Nat.reduceLeDiff, reduceIte, Nat.reduceLT, or_self, true_or, or_true, if_true, if_false, and_self, and_true, true_and, not_false_eq_true, not_true_eq_false, fd_Mo_badAt_38, fd_Mo_badAt_39, fd_Mo_badAt_42, fd_Mo_badAt_43, fd_Mo_badAt_44, fd_Mo_badAt_47, fd_Mo_badAt_48, fd_Mo_badAt_49, fd_Mo_badAt_50, S3.all]
    refine wif ?_ ?_
    rotate_left
    · refine am_go [58] 1 ?_
      simp only [am_wp, am_stp, am_en, am_as, am_pad, am_nth, am_set, am_st1, am_st2, am_kl, am_kill, am_mem, am_fv, am_tk, am_wt, am_bk, Option.toList, List.cons_append, List.nil_append, Nat.reduceAdd, Nat.reduceEqDiff, Nat.reduceLeDiff, reduceIte, Nat.reduceLT, or_self, true_or, or_true, if_true, if_false, and_self, and_true, true_and, not_false_eq_true, not_true_eq_false, fd_Mo_badAt_57, S3.all]
      exact two _ _ q3
    · refine am_go [58] 2 ?_
      simp only [am_wp, am_stp, am_en, am_as, am_pad, am_nth, am_set, am_st1, am_st2, am_kl, am_kill, am_mem, am_fv, am_tk, am_wt, am_bk, Option.toList, List.cons_append, List.nil_append, Nat.reduceAdd, Nat.reduceEqDiff, Nat.reduceLeDiff, reduceIte, Nat.reduceLT, or_self, true_or, or_true, if_true, if_false, and_self, and_true, true_and, not_false_eq_true, not_true_eq_false, fd_Mo_badAt_53, fd_Mo_badAt_54, S3.all]
      exact two _ _ q3
  refine am_go [32, 36] 8 ?_
  simp only [am_wp, am_stp, am_en, am_as, am_pad, am_nth, am_set, am_st1, am_st2, am_kl, am_kill, am_mem, am_fv, am_tk, am_wt, am_bk, Option.toList, List.cons_append, List.nil_append, Nat.reduceAdd, Nat.reduceEqDiff, Nat.reduceLeDiff, reduceIte, Nat.reduceLT, or_self, true_or, or_true, if_true, if_false, and_self, and_true, true_and, not_false_eq_true, not_true_eq_false, fd_Mo_badAt_18, fd_Mo_badAt_19, fd_Mo_badAt_22, fd_Mo_badAt_23, fd_Mo_badAt_24, fd_Mo_badAt_27, fd_Mo_badAt_28, fd_Mo_badAt_29, S2.all]
  refine wif ?_ ?_
  rotate_left
  · refine am_go [37] 1 ?_
    simp only [am_wp, am_stp, am_en, am_as, am_pad, am_nth, am_set, am_st1, am_st2, am_kl, am_kill, am_mem, am_fv, am_tk, am_wt, am_bk, Option.toList, List.cons_append, List.nil_append, Nat.reduceAdd, Nat.reduceEqDiff, Nat.reduceLeDiff, reduceIte, Nat.reduceLT, or_self, true_or, or_true, if_true, if_false, and_self, and_true, true_and, not_false_eq_true, not_true_eq_false, fd_Mo_badAt_36, S2.all]
    exact one _ _ q2
  · refine am_go [37] 2 ?_
    simp only [am_wp, am_stp, am_en, am_as, am_pad, am_nth, am_set, am_st1, am_st2, am_kl, am_kill, am_mem, am_fv, am_tk, am_wt, am_bk, Option.toList, List.cons_append, List.nil_append, Nat.reduceAdd, Nat.reduceEqDiff, Nat.reduceLeDiff, reduceIte, Nat.reduceLT, or_self, true_or, or_true, if_true, if_false, and_self, and_true, true_and, not_false_eq_true, not_true_eq_false, fd_Mo_badAt_32, fd_Mo_badAt_33, S2.all]
    exact one _ _ q2
theorem rI.cut {P a b : Nat} {h : am_H} (R : rI P h) (ha : a ≤ 1000) (hb : b ≤ 127) : rI P (am_sI (am_sI h 72 8 (nI a)) 72 9 (nI b)) := by
  obtain ⟨C, E, now, mk, RR⟩ := R
  have F : am_fi [72] h (am_sI (am_sI h 72 8 (nI a)) 72 9 (nI b)) := (am_fi.refl.sI (by simp)).sI (by simp)
  have vj : ∀ j, j ≠ 8 → j ≠ 9 → am_I (am_sI (am_sI h 72 8 (nI a)) 72 9 (nI b)) 72 j = am_I h 72 j := fun j h8 h9 => by simp only [hx_nx_sI, hx_ce_sI, hx_sl_sI, hx_kd_sI, hx_ln_sI, hx_I_sI, hx_L_sI, hx_R_sI, hx_nx_sL, hx_ce_sL, hx_sl_sL, hx_kd_sL, hx_ln_sL, hx_I_sL, hx_L_sL, hx_R_sL, hx_nx_sR, hx_ce_sR, hx_sl_sR, hx_kd_sR, hx_ln_sR, hx_I_sR, hx_L_sR, hx_R_sR, hx_nx_al, hx_ce_al, hx_sl_al, hx_kd_al, hx_ln_al, hx_I_al, hx_L_al, hx_R_al, hx_nx_row, hx_ce_row, hx_sl_row, hx_kd_row, hx_ln_row, hx_I_row, hx_L_row, hx_R_row, hx_nx_mk, hx_kd_mk, hx_ln_mk, hx_I_mk, hx_L_mk, hx_R_mk, am_wp, am_stp, am_en, am_as, am_pad, am_nth, am_set, am_st1, am_st2, am_kl, am_kill, am_mem, am_fv, am_tk, am_wt, am_bk, Option.toList, List.cons_append, List.nil_append, Nat.reduceAdd, Nat.reduceEqDiff, Nat.reduceLeDiff, reduceIte, Nat.reduceLT, or_self, true_or, or_true, if_true, if_false, and_self, and_true, true_and, not_false_eq_true, not_true_eq_false, h8, h9]
  have v8 : am_I (am_sI (am_sI h 72 8 (nI a)) 72 9 (nI b)) 72 8 = nI a := by simp only [hx_nx_sI, hx_ce_sI, hx_sl_sI, hx_kd_sI, hx_ln_sI, hx_I_sI, hx_L_sI, hx_R_sI, hx_nx_sL, hx_ce_sL, hx_sl_sL, hx_kd_sL, hx_ln_sL, hx_I_sL, hx_L_sL, hx_R_sL, hx_nx_sR, hx_ce_sR, hx_sl_sR, hx_kd_sR, hx_ln_sR, hx_I_sR, hx_L_sR, hx_R_sR, hx_nx_al, hx_ce_al, hx_sl_al, hx_kd_al, hx_ln_al, hx_I_al, hx_L_al, hx_R_al, hx_nx_row, hx_ce_row, hx_sl_row, hx_kd_row, hx_ln_row, hx_I_row, hx_L_row, hx_R_row, hx_nx_mk, hx_kd_mk, hx_ln_mk, hx_I_mk, hx_L_mk, hx_R_mk, am_wp, am_stp, am_en, am_as, am_pad, am_nth, am_set, am_st1, am_st2, am_kl, am_kill, am_mem, am_fv, am_tk, am_wt, am_bk, Option.toList, List.cons_append, List.nil_append, Nat.reduceAdd, Nat.reduceEqDiff, Nat.reduceLeDiff, reduceIte, Nat.reduceLT, or_self, true_or, or_true, if_true, if_false, and_self, and_true, true_and, not_false_eq_true, not_true_eq_false]
  have v9 : am_I (am_sI (am_sI h 72 8 (nI a)) 72 9 (nI b)) 72 9 = nI b := by simp only [hx_nx_sI, hx_ce_sI, hx_sl_sI, hx_kd_sI, hx_ln_sI, hx_I_sI, hx_L_sI, hx_R_sI, hx_nx_sL, hx_ce_sL, hx_sl_sL, hx_kd_sL, hx_ln_sL, hx_I_sL, hx_L_sL, hx_R_sL, hx_nx_sR, hx_ce_sR, hx_sl_sR, hx_kd_sR, hx_ln_sR, hx_I_sR, hx_L_sR, hx_R_sR, hx_nx_al, hx_ce_al, hx_sl_al, hx_kd_al, hx_ln_al, hx_I_al, hx_L_al, hx_R_al, hx_nx_row, hx_ce_row, hx_sl_row, hx_kd_row, hx_ln_row, hx_I_row, hx_L_row, hx_R_row, hx_nx_mk, hx_kd_mk, hx_ln_mk, hx_I_mk, hx_L_mk, hx_R_mk, am_wp, am_stp, am_en, am_as, am_pad, am_nth, am_set, am_st1, am_st2, am_kl, am_kill, am_mem, am_fv, am_tk, am_wt, am_bk, Option.toList, List.cons_append, List.nil_append, Nat.reduceAdd, Nat.reduceEqDiff, Nat.reduceLeDiff, reduceIte, Nat.reduceLT, or_self, true_or, or_true, if_true, if_false, and_self, and_true, true_and, not_false_eq_true, not_true_eq_false]
  generalize am_sI (am_sI h 72 8 (nI a)) 72 9 (nI b) = g at *
  have P1024 := C.2.2.1
  refine ⟨?_, E, now, mk, RR.f2 P1024 F (by decide) (vj 3 (by decide) (by decide)) (vj 24 (by decide) (by decide))⟩
  obtain ⟨c1, c2, c3, c4, -, c9, c10, cB⟩ := C
  refine ⟨c1.fi F, c2, c3, (vj 1 (by decide) (by decide)).trans c4, ⟨a, b, ha, hb, v8, v9⟩, by rw [vj 45 (by decide) (by decide)]; exact c9, ?_, cB.eq (F.2.2.2.2.2.2.1 73 (by decide))⟩
  rw [vj 11 (by decide) (by decide), F.2.2.2.2.2.2.2 74 (by decide), F.2.2.2.2.2.2.1 75 (by decide), F.2.2.2.2.2.2.2 76 (by decide)]; exact c10
theorem rx_cut {d P : Nat} {m k : Int32} {h : am_H} (R : rI P h) : am_Rt nm_pr (d + 1) mi_Mo_cut [.ref 72, .int m, .int k] h (fun o h' => o = .inl none ∧ rq P h h' ∧ am_I h' 72 0 = (match ct_ok m k with
    | true => 0
    | false => 1)) := by
  have hS := R.1.1
  have q0 := rq.refl R
  refine am_in' (d := d) mt_Mo_cut 3 rfl rfl rfl ?_
  have one0 : ¬ ((1 : Int32) = 0) := by decide
  have bad : ct_ok m k = false → am_Ex nm_pr d mt_Mo_cut (22, [.ref 72, .int m, .int k], [.ref 72], h) (fun o h' => o = .inl none ∧ rq P h h' ∧ am_I h' 72 0 = (match ct_ok m k with
    | true => 0
    | false => 1)) := by
    intro e
    refine am_go [30] 3 ?_
    simp only [am_wp, am_stp, am_en, am_as, am_pad, am_nth, am_set, am_st1, am_st2, am_kl, am_kill, am_mem, am_fv, am_tk, am_wt, am_bk, Option.toList, List.cons_append, List.nil_append, Nat.reduceAdd, Nat.reduceEqDiff, Nat.reduceLeDiff, reduceIte, Nat.reduceLT, or_self, true_or, or_true, if_true, if_false, and_self, and_true, true_and, not_false_eq_true, not_true_eq_false, fd_Mo_cut_22, fd_Mo_cut_23, fd_Mo_cut_27, hS.all]
    have q1 := q0.s (j := 0) (v := 1) (by unfold rJ; omega)
    have e0 : am_I (am_sI h 72 0 1) 72 0 = 1 := by rw [hx_I_sI, if_pos rfl, if_pos rfl]
    generalize am_sI h 72 0 1 = g at *
    have S1 := q1.1.1.1
    refine am_go [37, 47] 3 ?_
    simp only [am_wp, am_stp, am_en, am_as, am_pad, am_nth, am_set, am_st1, am_st2, am_kl, am_kill, am_mem, am_fv, am_tk, am_wt, am_bk, Option.toList, List.cons_append, List.nil_append, Nat.reduceAdd, Nat.reduceEqDiff, Nat.reduceLeDiff, reduceIte, Nat.reduceLT, or_self, true_or, or_true, if_true, if_false, and_self, and_true, true_and, not_false_eq_true, not_true_eq_false, fd_Mo_cut_30, fd_Mo_cut_31, fd_Mo_cut_34, S1.all, e0, one0]
    refine am_go [] 1 ?_
    simp only [am_wp, am_stp, am_en, am_as, am_pad, am_nth, am_set, am_st1, am_st2, am_kl, am_kill, am_mem, am_fv, am_tk, am_wt, am_bk, Option.toList, List.cons_append, List.nil_append, Nat.reduceAdd, Nat.reduceEqDiff, Nat.reduceLeDiff, reduceIte, Nat.reduceLT, or_self, true_or, or_true, if_true, if_false, and_self, and_true, true_and, not_false_eq_true, not_true_eq_false, fd_Mo_cut_47, S1.all]
    rw [e]
    exact ⟨q1, e0⟩
  by_cases e1 : m < 0
  · refine am_go [5, 22] 3 ?_
    simp only [am_wp, am_stp, am_en, am_as, am_pad, am_nth, am_set, am_st1, am_st2, am_kl, am_kill, am_mem, am_fv, am_tk, am_wt, am_bk, Option.toList, List.cons_append, List.nil_append, Nat.reduceAdd, Nat.reduceEqDiff, Nat.reduceLeDiff, reduceIte, Nat.reduceLT, or_self, true_or, or_true, if_true, if_false, and_self, and_true, true_and, not_false_eq_true, not_true_eq_false, fd_Mo_cut_0, fd_Mo_cut_1, fd_Mo_cut_2, hS.all, e1]
    exact bad (by simp [ct_ok, e1])
  refine am_go [5, 22] 3 ?_
  simp only [am_wp, am_stp, am_en, am_as, am_pad, am_nth, am_set, am_st1, am_st2, am_kl, am_kill, am_mem, am_fv, am_tk, am_wt, am_bk, Option.toList, List.cons_append, List.nil_append, Nat.reduceAdd, Nat.reduceEqDiff, Nat.reduceLeDiff, reduceIte, Nat.reduceLT, or_self, true_or, or_true, if_true, if_false, and_self, and_true, true_and, not_false_eq_true, not_true_eq_false, fd_Mo_cut_0, fd_Mo_cut_1, fd_Mo_cut_2, hS.all, e1]
  by_cases e2 : 1000 < m
  · refine am_go [12, 22] 3 ?_
    simp only [am_wp, am_stp, am_en, am_as, am_pad, am_nth, am_set, am_st1, am_st2, am_kl, am_kill, am_mem, am_fv, am_tk, am_wt, am_bk, Option.toList, List.cons_append, List.nil_append, Nat.reduceAdd, Nat.reduceEqDiff, Nat.reduceLeDiff, reduceIte, Nat.reduceLT, or_self, true_or, or_true, if_true, if_false, and_self, and_true, true_and, not_false_eq_true, not_true_eq_false, fd_Mo_cut_5, fd_Mo_cut_6, fd_Mo_cut_9, hS.all, e2]
    exact bad (by simp [ct_ok, e2])
  refine am_go [12, 22] 3 ?_
  simp only [am_wp, am_stp, am_en, am_as, am_pad, am_nth, am_set, am_st1, am_st2, am_kl, am_kill, am_mem, am_fv, am_tk, am_wt, am_bk, Option.toList, List.cons_append, List.nil_append, Nat.reduceAdd, Nat.reduceEqDiff, Nat.reduceLeDiff, reduceIte, Nat.reduceLT, or_self, true_or, or_true, if_true, if_false, and_self, and_true, true_and, not_false_eq_true, not_true_eq_false, fd_Mo_cut_5, fd_Mo_cut_6, fd_Mo_cut_9, hS.all, e2]
  by_cases e3 : k < 0
  · refine am_go [16, 22] 2 ?_
    simp only [am_wp, am_stp, am_en, am_as, am_pad, am_nth, am_set, am_st1, am_st2, am_kl, am_kill, am_mem, am_fv, am_tk, am_wt, am_bk, Option.toList, List.cons_append, List.nil_append, Nat.reduceAdd, Nat.reduceEqDiff, Nat.reduceLeDiff, reduceIte, Nat.reduceLT, or_self, true_or, or_true, if_true, if_false, and_self, and_true, true_and, not_false_eq_true, not_true_eq_false, fd_Mo_cut_12, fd_Mo_cut_13, hS.all, e3]
    exact bad (by simp [ct_ok, e3])
  refine am_go [16, 22] 2 ?_
  simp only [am_wp, am_stp, am_en, am_as, am_pad, am_nth, am_set, am_st1, am_st2, am_kl, am_kill, am_mem, am_fv, am_tk, am_wt, am_bk, Option.toList, List.cons_append, List.nil_append, Nat.reduceAdd, Nat.reduceEqDiff, Nat.reduceLeDiff, reduceIte, Nat.reduceLT, or_self, true_or, or_true, if_true, if_false, and_self, and_true, true_and, not_false_eq_true, not_true_eq_false, fd_Mo_cut_12, fd_Mo_cut_13, hS.all, e3]
  have e127 : (127 < k) ↔ ¬ (k < 128) := by
    have h1 : (127 : Int32).toInt = 127 := by decide
    have h2 : (128 : Int32).toInt = 128 := by decide
    rw [Int32.lt_iff_toInt_lt, Int32.lt_iff_toInt_lt, h1, h2]
    omega
  by_cases e4 : k < 128
  · have e5 : ¬ (127 < k) := fun q => e127.mp q e4
    have e : ct_ok m k = true := by simp [ct_ok, e1, e2, e3, e4]
    obtain ⟨a, ha', rfl⟩ := nI_of e1
    have ha : a ≤ 1000 := by
      rcases Nat.lt_or_ge 1000 a with q | q
      · exact absurd ((nI_ltI (a := 1000) (by decide) ha').mpr q) e2
      · exact q
    obtain ⟨b, hb, rfl⟩ := in_natL (N := 128) (by decide) e3 e4
    refine am_go [22, 26] 3 ?_
    simp only [am_wp, am_stp, am_en, am_as, am_pad, am_nth, am_set, am_st1, am_st2, am_kl, am_kill, am_mem, am_fv, am_tk, am_wt, am_bk, Option.toList, List.cons_append, List.nil_append, Nat.reduceAdd, Nat.reduceEqDiff, Nat.reduceLeDiff, reduceIte, Nat.reduceLT, or_self, true_or, or_true, if_true, if_false, and_self, and_true, true_and, not_false_eq_true, not_true_eq_false, fd_Mo_cut_16, fd_Mo_cut_17, fd_Mo_cut_19, hS.all, e5]
    refine am_go [30] 2 ?_
    simp only [am_wp, am_stp, am_en, am_as, am_pad, am_nth, am_set, am_st1, am_st2, am_kl, am_kill, am_mem, am_fv, am_tk, am_wt, am_bk, Option.toList, List.cons_append, List.nil_append, Nat.reduceAdd, Nat.reduceEqDiff, Nat.reduceLeDiff, reduceIte, Nat.reduceLT, or_self, true_or, or_true, if_true, if_false, and_self, and_true, true_and, not_false_eq_true, not_true_eq_false, fd_Mo_cut_26, fd_Mo_cut_27, hS.all]
    have q1 := q0.s (j := 0) (v := 0) (by unfold rJ; omega)
    have e0 : am_I (am_sI h 72 0 0) 72 0 = 0 := by rw [hx_I_sI, if_pos rfl, if_pos rfl]
    generalize am_sI h 72 0 0 = g at *
    have S1 := q1.1.1.1
    refine am_go [37, 47] 3 ?_
    simp only [am_wp, am_stp, am_en, am_as, am_pad, am_nth, am_set, am_st1, am_st2, am_kl, am_kill, am_mem, am_fv, am_tk, am_wt, am_bk, Option.toList, List.cons_append, List.nil_append, Nat.reduceAdd, Nat.reduceEqDiff, Nat.reduceLeDiff, reduceIte, Nat.reduceLT, or_self, true_or, or_true, if_true, if_false, and_self, and_true, true_and, not_false_eq_true, not_true_eq_false, fd_Mo_cut_30, fd_Mo_cut_31, fd_Mo_cut_34, S1.all, e0]
    refine am_go [] 7 ?_
    simp only [am_wp, am_stp, am_en, am_as, am_pad, am_nth, am_set, am_st1, am_st2, am_kl, am_kill, am_mem, am_fv, am_tk, am_wt, am_bk, Option.toList, List.cons_append, List.nil_append, Nat.reduceAdd, Nat.reduceEqDiff, Nat.reduceLeDiff, reduceIte, Nat.reduceLT, or_self, true_or, or_true, if_true, if_false, and_self, and_true, true_and, not_false_eq_true, not_true_eq_false, fd_Mo_cut_37, fd_Mo_cut_38, fd_Mo_cut_39, fd_Mo_cut_42, fd_Mo_cut_43, fd_Mo_cut_44, fd_Mo_cut_47, hx_nx_sI, hx_ce_sI, hx_sl_sI, hx_kd_sI, hx_ln_sI, hx_I_sI, hx_L_sI, hx_R_sI, hx_nx_sL, hx_ce_sL, hx_sl_sL, hx_kd_sL, hx_ln_sL, hx_I_sL, hx_L_sL, hx_R_sL, hx_nx_sR, hx_ce_sR, hx_sl_sR, hx_kd_sR, hx_ln_sR, hx_I_sR, hx_L_sR, hx_R_sR, hx_nx_al, hx_ce_al, hx_sl_al, hx_kd_al, hx_ln_al, hx_I_al, hx_L_al, hx_R_al, hx_nx_row, hx_ce_row, hx_sl_row, hx_kd_row, hx_ln_row, hx_I_row, hx_L_row, hx_R_row, hx_nx_mk, hx_kd_mk, hx_ln_mk, hx_I_mk, hx_L_mk, hx_R_mk, S1.1]
    rw [e]
    refine ⟨⟨q1.1.cut ha (by omega), q1.2.trans ((am_fi.refl.sI (by decide)).sI (by decide))⟩, ?_⟩
    simp only [hx_nx_sI, hx_ce_sI, hx_sl_sI, hx_kd_sI, hx_ln_sI, hx_I_sI, hx_L_sI, hx_R_sI, hx_nx_sL, hx_ce_sL, hx_sl_sL, hx_kd_sL, hx_ln_sL, hx_I_sL, hx_L_sL, hx_R_sL, hx_nx_sR, hx_ce_sR, hx_sl_sR, hx_kd_sR, hx_ln_sR, hx_I_sR, hx_L_sR, hx_R_sR, hx_nx_al, hx_ce_al, hx_sl_al, hx_kd_al, hx_ln_al, hx_I_al, hx_L_al, hx_R_al, hx_nx_row, hx_ce_row, hx_sl_row, hx_kd_row, hx_ln_row, hx_I_row, hx_L_row, hx_R_row, hx_nx_mk, hx_kd_mk, hx_ln_mk, hx_I_mk, hx_L_mk, hx_R_mk, am_wp, am_stp, am_en, am_as, am_pad, am_nth, am_set, am_st1, am_st2, am_kl, am_kill, am_mem, am_fv, am_tk, am_wt, am_bk, Option.toList, List.cons_append, List.nil_append, Nat.reduceAdd, Nat.reduceEqDiff, Nat.reduceLeDiff, reduceIte, Nat.reduceLT, or_self, true_or, or_true, if_true, if_false, and_self, and_true, true_and, not_false_eq_true, not_true_eq_false]
    exact e0
  · have e5 : 127 < k := e127.mpr e4
    refine am_go [22, 26] 3 ?_
    simp only [am_wp, am_stp, am_en, am_as, am_pad, am_nth, am_set, am_st1, am_st2, am_kl, am_kill, am_mem, am_fv, am_tk, am_wt, am_bk, Option.toList, List.cons_append, List.nil_append, Nat.reduceAdd, Nat.reduceEqDiff, Nat.reduceLeDiff, reduceIte, Nat.reduceLT, or_self, true_or, or_true, if_true, if_false, and_self, and_true, true_and, not_false_eq_true, not_true_eq_false, fd_Mo_cut_16, fd_Mo_cut_17, fd_Mo_cut_19, hS.all, e5]
    exact bad (by simp [ct_ok, e4])
