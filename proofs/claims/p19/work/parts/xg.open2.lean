/-! THE REFERENCE OPENS, 2: the HEAD's generation; a value -/
theorem rx_areRuns {d pg : Nat} {h : am_H} (hS : mo_Sk h) (hp : pg < 2) : am_Rt nm_pr (d + 2) mi_Mo_areRuns [.ref 72, .int (nI pg)] h (fun o h' => (o = .inl (some (.int 0)) ∨ (o = .inl (some (.int 1)) ∧ ∃ ls, am_I h 73 (128 * pg + 6) &&& 255 = nI ls.length ∧ ar_Q h pg ls)) ∧ h' = h) := by
  obtain ⟨n, hn, en⟩ := wand255 (am_I h 73 (128 * pg + 6))
  have e1 : 128 * nI pg = nI (128 * pg) := (Int32.ofNat_mul 128 pg).symm
  have e6 : nI (128 * pg) + 6 = nI (128 * pg + 6) := nI_add _ 6
  have i1 := am_inb (c := 128 * pg + 6) (N := 131072) (by omega) (by omega)
  have q1 : (nI (128 * pg + 6)).toNatClampNeg = 128 * pg + 6 := nI_clamp (by omega)
  generalize hA : 128 * pg + 6 = A at *
  refine am_in' (d := d + 1) mt_Mo_areRuns 8 rfl rfl rfl ?_
  refine am_go [23] 15 ?_
  simp only [am_wp, am_stp, am_en, am_as, am_pad, am_nth, am_set, am_st1, am_st2, am_kl, am_kill, am_mem, am_fv, am_tk, am_wt, am_bk, Option.toList, List.cons_append, List.nil_append, Nat.reduceAdd, Nat.reduceEqDiff, Nat.reduceLeDiff, reduceIte, Nat.reduceLT, or_self, true_or, or_true, if_true, if_false, and_self, and_true, true_and, not_false_eq_true, not_true_eq_false, fd_Mo_areRuns_0, fd_Mo_areRuns_1, fd_Mo_areRuns_4, fd_Mo_areRuns_7, fd_Mo_areRuns_8, fd_Mo_areRuns_9, fd_Mo_areRuns_11, fd_Mo_areRuns_12, fd_Mo_areRuns_13, fd_Mo_areRuns_16, fd_Mo_areRuns_17, fd_Mo_areRuns_18, fd_Mo_areRuns_19, fd_Mo_areRuns_20, fd_Mo_areRuns_21, hS.all, e1, e6, i1, q1, en]
  refine am_Ex_mono (fun o h' z => ?_) (rx_ar_loop (d := d) (n := n) hS hp hn n [] _ _ _ (by simp) ⟨by simp, trivial, by simp, by simp⟩)
  obtain ⟨z, rfl⟩ := z
  refine ⟨?_, rfl⟩
  rcases z with z | ⟨z, ls, hl, q⟩
  · exact Or.inl z
  · exact Or.inr ⟨z, ls, by rw [hl], q⟩
def go_Q (h : am_H) (pg : Nat) (o : am_O) : Prop := o = .inl (some (.int 0)) ∨ ∃ x : Int32, 0 < x ∧ o = .inl (some (.int x)) ∧ ∃ ls, am_I h 73 (128 * pg + 6) &&& 255 = nI ls.length ∧ ar_Q h pg ls
theorem rx_generationOf {d pg : Nat} {h : am_H} (hS : mo_Sk h) (hp : pg < 2) : am_Rt nm_pr (d + 3) mi_Mo_generationOf [.ref 72, .int (nI pg)] h (fun o h' => go_Q h pg o ∧ h' = h) := by
  have e1 : 128 * nI pg = nI (128 * pg) := (Int32.ofNat_mul 128 pg).symm
  have e2 : nI (128 * pg) + 2 = nI (128 * pg + 2) := nI_add _ 2
  have one0 : ¬ (1 : Int32) = 0 := by decide
  refine am_in' (d := d + 2) mt_Mo_generationOf 4 rfl rfl rfl ?_
  refine am_go [] 4 ?_
  simp only [am_wp, am_stp, am_en, am_as, am_pad, am_nth, am_set, am_st1, am_st2, am_kl, am_kill, am_mem, am_fv, am_tk, am_wt, am_bk, Option.toList, List.cons_append, List.nil_append, Nat.reduceAdd, Nat.reduceEqDiff, Nat.reduceLeDiff, reduceIte, Nat.reduceLT, or_self, true_or, or_true, if_true, if_false, and_self, and_true, true_and, not_false_eq_true, not_true_eq_false, fd_Mo_generationOf_0, fd_Mo_generationOf_3, fd_Mo_generationOf_4, fd_Mo_generationOf_5, e1]
  refine am_go [] 3 ?_
  simp only [am_wp, am_stp, am_en, am_as, am_pad, am_nth, am_set, am_st1, am_st2, am_kl, am_kill, am_mem, am_fv, am_tk, am_wt, am_bk, Option.toList, List.cons_append, List.nil_append, Nat.reduceAdd, Nat.reduceEqDiff, Nat.reduceLeDiff, reduceIte, Nat.reduceLT, or_self, true_or, or_true, if_true, if_false, and_self, and_true, true_and, not_false_eq_true, not_true_eq_false, fd_Mo_generationOf_6, fd_Mo_generationOf_7, fd_Mo_generationOf_8, hS.all]
  refine am_call (rx_two (d := d + 1) hS (by omega)) (fun o g w => ?_)
  obtain ⟨rfl, rfl⟩ := w
  simp only [am_wp, am_stp, am_en, am_as, am_pad, am_nth, am_set, am_st1, am_st2, am_kl, am_kill, am_mem, am_fv, am_tk, am_wt, am_bk, Option.toList, List.cons_append, List.nil_append, Nat.reduceAdd, Nat.reduceEqDiff, Nat.reduceLeDiff, reduceIte, Nat.reduceLT, or_self, true_or, or_true, if_true, if_false, and_self, and_true, true_and, not_false_eq_true, not_true_eq_false]
  refine am_go [] 7 ?_
  simp only [am_wp, am_stp, am_en, am_as, am_pad, am_nth, am_set, am_st1, am_st2, am_kl, am_kill, am_mem, am_fv, am_tk, am_wt, am_bk, Option.toList, List.cons_append, List.nil_append, Nat.reduceAdd, Nat.reduceEqDiff, Nat.reduceLeDiff, reduceIte, Nat.reduceLT, or_self, true_or, or_true, if_true, if_false, and_self, and_true, true_and, not_false_eq_true, not_true_eq_false, fd_Mo_generationOf_11, fd_Mo_generationOf_13, fd_Mo_generationOf_14, fd_Mo_generationOf_15, fd_Mo_generationOf_16, fd_Mo_generationOf_17, fd_Mo_generationOf_18, hS.all, e2]
  refine am_call (rx_two (d := d + 1) hS (by omega)) (fun o g2 w => ?_)
  obtain ⟨rfl, rfl⟩ := w
  simp only [am_wp, am_stp, am_en, am_as, am_pad, am_nth, am_set, am_st1, am_st2, am_kl, am_kill, am_mem, am_fv, am_tk, am_wt, am_bk, Option.toList, List.cons_append, List.nil_append, Nat.reduceAdd, Nat.reduceEqDiff, Nat.reduceLeDiff, reduceIte, Nat.reduceLT, or_self, true_or, or_true, if_true, if_false, and_self, and_true, true_and, not_false_eq_true, not_true_eq_false]
  refine am_go [] 2 ?_
  simp only [am_wp, am_stp, am_en, am_as, am_pad, am_nth, am_set, am_st1, am_st2, am_kl, am_kill, am_mem, am_fv, am_tk, am_wt, am_bk, Option.toList, List.cons_append, List.nil_append, Nat.reduceAdd, Nat.reduceEqDiff, Nat.reduceLeDiff, reduceIte, Nat.reduceLT, or_self, true_or, or_true, if_true, if_false, and_self, and_true, true_and, not_false_eq_true, not_true_eq_false, fd_Mo_generationOf_21, fd_Mo_generationOf_22]
  generalize (tw g2 (128 * pg) <<< ((16 : Int32) &&& 31)) ||| tw g2 (128 * pg + 2) = x
  have no : am_Ex nm_pr (d + 2) mt_Mo_generationOf (54, [.ref 72, .int (nI pg), .int (nI (128 * pg)), .int x], [], g2) (fun o h' => go_Q g2 pg o ∧ h' = g2) := by
    refine am_go [] 2 ?_
    simp only [am_wp, am_stp, am_en, am_as, am_pad, am_nth, am_set, am_st1, am_st2, am_kl, am_kill, am_mem, am_fv, am_tk, am_wt, am_bk, Option.toList, List.cons_append, List.nil_append, Nat.reduceAdd, Nat.reduceEqDiff, Nat.reduceLeDiff, reduceIte, Nat.reduceLT, or_self, true_or, or_true, if_true, if_false, and_self, and_true, true_and, not_false_eq_true, not_true_eq_false, fd_Mo_generationOf_54, fd_Mo_generationOf_55, hS.all]
    exact Or.inl rfl
  refine am_go [] 3 ?_
  simp only [am_wp, am_stp, am_en, am_as, am_pad, am_nth, am_set, am_st1, am_st2, am_kl, am_kill, am_mem, am_fv, am_tk, am_wt, am_bk, Option.toList, List.cons_append, List.nil_append, Nat.reduceAdd, Nat.reduceEqDiff, Nat.reduceLeDiff, reduceIte, Nat.reduceLT, or_self, true_or, or_true, if_true, if_false, and_self, and_true, true_and, not_false_eq_true, not_true_eq_false, fd_Mo_generationOf_23, fd_Mo_generationOf_24, fd_Mo_generationOf_25, hS.all]
  refine am_call (l2_Mo_isRight (d := d) hS.Pg (show pg < 1024 by omega)) (fun o g3 w => ?_)
  obtain ⟨rfl, w⟩ := w
  rcases w with ⟨rfl, -⟩ | ⟨rfl, -⟩
  · simp only [am_wp, am_stp, am_en, am_as, am_pad, am_nth, am_set, am_st1, am_st2, am_kl, am_kill, am_mem, am_fv, am_tk, am_wt, am_bk, Option.toList, List.cons_append, List.nil_append, Nat.reduceAdd, Nat.reduceEqDiff, Nat.reduceLeDiff, reduceIte, Nat.reduceLT, or_self, true_or, or_true, if_true, if_false, and_self, and_true, true_and, not_false_eq_true, not_true_eq_false]
    refine am_go [31, 54] 1 ?_
    simp only [am_wp, am_stp, am_en, am_as, am_pad, am_nth, am_set, am_st1, am_st2, am_kl, am_kill, am_mem, am_fv, am_tk, am_wt, am_bk, Option.toList, List.cons_append, List.nil_append, Nat.reduceAdd, Nat.reduceEqDiff, Nat.reduceLeDiff, reduceIte, Nat.reduceLT, or_self, true_or, or_true, if_true, if_false, and_self, and_true, true_and, not_false_eq_true, not_true_eq_false, fd_Mo_generationOf_28, hS.all, one0]
    by_cases hx : 0 < x
    · refine am_go [35, 54] 2 ?_
      simp only [am_wp, am_stp, am_en, am_as, am_pad, am_nth, am_set, am_st1, am_st2, am_kl, am_kill, am_mem, am_fv, am_tk, am_wt, am_bk, Option.toList, List.cons_append, List.nil_append, Nat.reduceAdd, Nat.reduceEqDiff, Nat.reduceLeDiff, reduceIte, Nat.reduceLT, or_self, true_or, or_true, if_true, if_false, and_self, and_true, true_and, not_false_eq_true, not_true_eq_false, fd_Mo_generationOf_31, fd_Mo_generationOf_32, hS.all, hx]
      refine am_go [42, 54] 5 ?_
      simp only [am_wp, am_stp, am_en, am_as, am_pad, am_nth, am_set, am_st1, am_st2, am_kl, am_kill, am_mem, am_fv, am_tk, am_wt, am_bk, Option.toList, List.cons_append, List.nil_append, Nat.reduceAdd, Nat.reduceEqDiff, Nat.reduceLeDiff, reduceIte, Nat.reduceLT, or_self, true_or, or_true, if_true, if_false, and_self, and_true, true_and, not_false_eq_true, not_true_eq_false, fd_Mo_generationOf_35, fd_Mo_generationOf_36, fd_Mo_generationOf_37, fd_Mo_generationOf_38, fd_Mo_generationOf_39, hS.all]
      refine wif ?_ no
      refine am_go [] 3 ?_
      simp only [am_wp, am_stp, am_en, am_as, am_pad, am_nth, am_set, am_st1, am_st2, am_kl, am_kill, am_mem, am_fv, am_tk, am_wt, am_bk, Option.toList, List.cons_append, List.nil_append, Nat.reduceAdd, Nat.reduceEqDiff, Nat.reduceLeDiff, reduceIte, Nat.reduceLT, or_self, true_or, or_true, if_true, if_false, and_self, and_true, true_and, not_false_eq_true, not_true_eq_false, fd_Mo_generationOf_42, fd_Mo_generationOf_43, fd_Mo_generationOf_44, hS.all]
      refine am_call (rx_areRuns (d := d) hS hp) (fun o g4 w => ?_)
      obtain ⟨w, rfl⟩ := w
      rcases w with rfl | ⟨rfl, w⟩
      · simp only [am_wp, am_stp, am_en, am_as, am_pad, am_nth, am_set, am_st1, am_st2, am_kl, am_kill, am_mem, am_fv, am_tk, am_wt, am_bk, Option.toList, List.cons_append, List.nil_append, Nat.reduceAdd, Nat.reduceEqDiff, Nat.reduceLeDiff, reduceIte, Nat.reduceLT, or_self, true_or, or_true, if_true, if_false, and_self, and_true, true_and, not_false_eq_true, not_true_eq_false]
        refine am_go [50, 54] 1 ?_
        simp only [am_wp, am_stp, am_en, am_as, am_pad, am_nth, am_set, am_st1, am_st2, am_kl, am_kill, am_mem, am_fv, am_tk, am_wt, am_bk, Option.toList, List.cons_append, List.nil_append, Nat.reduceAdd, Nat.reduceEqDiff, Nat.reduceLeDiff, reduceIte, Nat.reduceLT, or_self, true_or, or_true, if_true, if_false, and_self, and_true, true_and, not_false_eq_true, not_true_eq_false, fd_Mo_generationOf_47, hS.all]
        exact no
      · simp only [am_wp, am_stp, am_en, am_as, am_pad, am_nth, am_set, am_st1, am_st2, am_kl, am_kill, am_mem, am_fv, am_tk, am_wt, am_bk, Option.toList, List.cons_append, List.nil_append, Nat.reduceAdd, Nat.reduceEqDiff, Nat.reduceLeDiff, reduceIte, Nat.reduceLT, or_self, true_or, or_true, if_true, if_false, and_self, and_true, true_and, not_false_eq_true, not_true_eq_false]
        refine am_go [50, 54] 1 ?_
        simp only [am_wp, am_stp, am_en, am_as, am_pad, am_nth, am_set, am_st1, am_st2, am_kl, am_kill, am_mem, am_fv, am_tk, am_wt, am_bk, Option.toList, List.cons_append, List.nil_append, Nat.reduceAdd, Nat.reduceEqDiff, Nat.reduceLeDiff, reduceIte, Nat.reduceLT, or_self, true_or, or_true, if_true, if_false, and_self, and_true, true_and, not_false_eq_true, not_true_eq_false, fd_Mo_generationOf_47, hS.all, one0]
        refine am_go [] 3 ?_
        simp only [am_wp, am_stp, am_en, am_as, am_pad, am_nth, am_set, am_st1, am_st2, am_kl, am_kill, am_mem, am_fv, am_tk, am_wt, am_bk, Option.toList, List.cons_append, List.nil_append, Nat.reduceAdd, Nat.reduceEqDiff, Nat.reduceLeDiff, reduceIte, Nat.reduceLT, or_self, true_or, or_true, if_true, if_false, and_self, and_true, true_and, not_false_eq_true, not_true_eq_false, fd_Mo_generationOf_50, fd_Mo_generationOf_51, fd_Mo_generationOf_55, hS.all]
        exact Or.inr ⟨x, hx, rfl, w⟩
    · refine am_go [35, 54] 2 ?_
      simp only [am_wp, am_stp, am_en, am_as, am_pad, am_nth, am_set, am_st1, am_st2, am_kl, am_kill, am_mem, am_fv, am_tk, am_wt, am_bk, Option.toList, List.cons_append, List.nil_append, Nat.reduceAdd, Nat.reduceEqDiff, Nat.reduceLeDiff, reduceIte, Nat.reduceLT, or_self, true_or, or_true, if_true, if_false, and_self, and_true, true_and, not_false_eq_true, not_true_eq_false, fd_Mo_generationOf_31, fd_Mo_generationOf_32, hS.all, hx]
      exact no
  · simp only [am_wp, am_stp, am_en, am_as, am_pad, am_nth, am_set, am_st1, am_st2, am_kl, am_kill, am_mem, am_fv, am_tk, am_wt, am_bk, Option.toList, List.cons_append, List.nil_append, Nat.reduceAdd, Nat.reduceEqDiff, Nat.reduceLeDiff, reduceIte, Nat.reduceLT, or_self, true_or, or_true, if_true, if_false, and_self, and_true, true_and, not_false_eq_true, not_true_eq_false]
    refine am_go [31, 54] 1 ?_
    simp only [am_wp, am_stp, am_en, am_as, am_pad, am_nth, am_set, am_st1, am_st2, am_kl, am_kill, am_mem, am_fv, am_tk, am_wt, am_bk, Option.toList, List.cons_append, List.nil_append, Nat.reduceAdd, Nat.reduceEqDiff, Nat.reduceLeDiff, reduceIte, Nat.reduceLT, or_self, true_or, or_true, if_true, if_false, and_self, and_true, true_and, not_false_eq_true, not_true_eq_false, fd_Mo_generationOf_28, hS.all]
    exact no
/-! A VALUE'S OCTETS -/
/-- digits to the base B, the lowest first -/
def dg (B : Nat) (y : Nat → Nat) : Nat → Nat
  | 0 => 0
  | n + 1 => dg B y n + y n * B ^ n
theorem dg_lt {B : Nat} {y : Nat → Nat} (hB : 0 < B) : ∀ n, (∀ i, i < n → y i < B) → dg B y n < B ^ n
  | 0, _ => by simp [dg]
  | n + 1, h => by
    have ih := dg_lt hB n (fun i hi => h i (by omega))
    have hn := h n (by omega)
    unfold dg
    rw [Nat.pow_succ]
    have : y n * B ^ n ≤ (B - 1) * B ^ n := Nat.mul_le_mul_right _ (by omega)
    have e : B ^ n * B = (B - 1) * B ^ n + B ^ n := by
      obtain ⟨c, rfl⟩ : ∃ c, B = c + 1 := ⟨B - 1, by omega⟩
      rw [Nat.add_sub_cancel, Nat.mul_succ, Nat.mul_comm c]
    omega
theorem dg_at {B : Nat} {y : Nat → Nat} (hB : 0 < B) : ∀ n i, i < n → (∀ i, i < n → y i < B) → dg B y n / B ^ i % B = y i
  | 0, i, hi, _ => by omega
  | n + 1, i, hi, h => by
    have hlt := dg_lt hB n (fun i hi => h i (by omega))
    have hp : 0 < B ^ i := Nat.pow_pos hB
    unfold dg
    by_cases e : i = n
    · subst e
      rw [Nat.add_mul_div_right _ _ hp, Nat.div_eq_of_lt hlt, Nat.zero_add, Nat.mod_eq_of_lt (h i (by omega))]
    · have hin : i < n := by omega
      have e1 : y n * B ^ n = (y n * B ^ (n - i - 1) * B) * B ^ i := by
        rw [Nat.mul_assoc, Nat.mul_assoc, ← Nat.pow_succ', ← Nat.pow_add]
        congr 2
        omega
      rw [e1, Nat.add_mul_div_right _ _ hp, Nat.add_mul_mod_self_right]
      exact dg_at hB n i hin (fun i hi => h i (by omega))
theorem zN_mul2 (w : Int64) (h : zN w < 2 ^ 63) : zN (w * 2) = 2 * zN w := by
  unfold zN at *
  rw [v2_bv, BitVec.toNat_shiftLeft, Nat.shiftLeft_eq, Nat.mod_eq_of_lt (by omega)]
  omega
theorem lt0_zN (x : Int64) : (x < 0) = (2 ^ 63 ≤ zN x) := by
  apply propext
  rw [Int64.lt_iff_toInt_lt]
  show x.toBitVec.toInt < 0 ↔ _
  unfold zN
  rw [BitVec.toInt_eq_toNat_cond]
  have := x.toBitVec.isLt
  split <;> omega
/-- every folded value is one's -/
theorem zf_sur (z : Int64) : ∃ v, zf v = z := by
  have hz := zN_lt z
  have hw : zN (z.toUInt64 >>> ((1 : Int32).toInt64.toUInt64 &&& Int64.toUInt64 63)).toInt64 = zN z / 2 := by
    rw [zN_sh s1_n (by omega)]
  generalize (z.toUInt64 >>> ((1 : Int32).toInt64.toUInt64 &&& Int64.toUInt64 63)).toInt64 = w at hw
  by_cases he : zN z % 2 = 0
  · refine ⟨w, ?_⟩
    have hn : ¬ w < 0 := by rw [lt0_zN]; omega
    unfold zf
    rw [if_neg hn]
    apply zN_inj
    rw [zN_mul2 w (by omega)]
    omega
  · refine ⟨w ^^^ -1, ?_⟩
    have hx : (w ^^^ -1).toBitVec = ~~~ w.toBitVec := by
      rw [Int64.toBitVec_xor]
      show w.toBitVec ^^^ BitVec.allOnes 64 = _
      rw [BitVec.xor_allOnes]
    have hxn : zN (w ^^^ -1) = 2 ^ 64 - 1 - zN w := by
      unfold zN
      rw [hx, BitVec.toNat_not]
    have hn : (w ^^^ -1) < 0 := by rw [lt0_zN, hxn]; omega
    unfold zf
    rw [if_pos hn]
    apply zN_inj
    have e1 : zN (-1 - (w ^^^ -1) * 2) = (2 ^ 64 - 1 + (2 ^ 64 - zN ((w ^^^ -1) * 2))) % 2 ^ 64 := by
      unfold zN
      rw [Int64.toBitVec_sub, BitVec.toNat_sub]
      show (2 ^ 64 - ((w ^^^ -1) * 2).toBitVec.toNat + (BitVec.allOnes 64).toNat) % 2 ^ 64 = _
      rw [BitVec.toNat_allOnes]
      congr 1
      omega
    have e2 : zN ((w ^^^ -1) * 2) = 2 * (2 ^ 64 - 1 - zN w) % 2 ^ 64 := by
      rw [← hxn]
      unfold zN
      rw [v2_bv, BitVec.toNat_shiftLeft, Nat.shiftLeft_eq, Nat.pow_one, Nat.mul_comm]
    rw [e1, e2]
    omega
