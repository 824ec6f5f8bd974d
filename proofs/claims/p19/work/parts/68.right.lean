/-! octets and sums; isRight OF THE REFERENCE -/
theorem bv_255 (i : Nat) (hi : i < 32) : (255#32).getLsbD i = decide (i < 8) := by
  have : ∀ i : Fin 32, (255#32).getLsbD i.1 = decide (i.1 < 8) := by decide
  exact this ⟨i, hi⟩
theorem b8_and (x : Int32) : am_b8 x &&& 255 = x &&& 255 := by
  apply Int32.toBitVec_inj.mp
  unfold am_b8
  rw [Int32.toBitVec_and, Int32.toBitVec_and, Int8.toBitVec_toInt32, Int32.toBitVec_toInt8]
  apply BitVec.eq_of_getLsbD_eq
  intro i hi
  have e : (Int32.toBitVec 255).getLsbD i = decide (i < 8) := bv_255 i hi
  rw [BitVec.getLsbD_and, BitVec.getLsbD_and, e]
  by_cases h8 : i < 8
  · rw [BitVec.getLsbD_signExtend, if_pos h8, BitVec.getLsbD_signExtend, if_pos (by omega)]
    simp [h8, hi]
  · simp [h8]
theorem b8_of (x : Int32) : am_b8 (x &&& 255) = am_b8 x := by
  unfold am_b8
  congr 1
  apply Int8.toBitVec_inj.mp
  rw [Int32.toBitVec_toInt8, Int32.toBitVec_toInt8, Int32.toBitVec_and]
  apply BitVec.eq_of_getLsbD_eq
  intro i hi
  have e : (Int32.toBitVec 255).getLsbD i = decide (i < 8) := bv_255 i (by omega)
  rw [BitVec.getLsbD_signExtend, if_pos (by omega), BitVec.getLsbD_signExtend, if_pos (by omega), BitVec.getLsbD_and, e]
  simp [hi]
/-- an octet as the class holds it and as the reference reads it -/
theorem b8_iff {y w : Int32} (hy : am_b8 y = y) : y = am_b8 w ↔ y &&& 255 = w &&& 255 := by
  constructor
  · intro e
    rw [e, b8_and]
  · intro e
    rw [← hy, ← b8_of y, e, b8_of]
/-- octet j of a sum, from 0 to 255 -/
def mo_O (z : Int64) (j : Nat) : Int32 := ((z.toUInt64 >>> ((nI 56 - nI 8 * nI j).toInt64.toUInt64 &&& Int64.toUInt64 63)).toInt64 &&& 255).toInt32
theorem mo_O_eq (z : Int64) (j : Nat) : mo_O z j = (z.toUInt64 >>> ((nI 56 - nI 8 * nI j).toInt64.toUInt64 &&& Int64.toUInt64 63)).toInt64.toInt32 &&& 255 := by
  unfold mo_O
  rw [Int64.toInt32_and]
  rfl
theorem mo_O_iff {y : Int32} {z : Int64} {j : Nat} (hy : am_b8 y = y) : y &&& 255 = mo_O z j ↔ y = sm_O z j := by
  rw [mo_O_eq]
  exact (b8_iff hy).symm
theorem mo_O_bit {z : Int64} {j t : Nat} (hj : j < 8) (ht : t < 8) : (mo_O z j).toBitVec.getLsbD t = z.toBitVec.getLsbD (56 - 8 * j + t) := by
  rw [mo_O_eq, Int32.toBitVec_and, BitVec.getLsbD_and]
  have e : (Int32.toBitVec 255).getLsbD t = true := (bv_255 t (by omega)).trans (by simp [ht])
  have es : ((nI 56 - nI 8 * nI j).toInt64.toUInt64 &&& Int64.toUInt64 63).toBitVec.toNat = 56 - 8 * j := by
    have : ∀ j : Fin 8, ((nI 56 - nI 8 * nI j.1).toInt64.toUInt64 &&& Int64.toUInt64 63).toBitVec.toNat = 56 - 8 * j.1 := by decide
    exact this ⟨j, hj⟩
  generalize ((nI 56 - nI 8 * nI j).toInt64.toUInt64 &&& Int64.toUInt64 63) = s at *
  rw [e, Bool.and_true, Int64.toBitVec_toInt32, BitVec.getLsbD_signExtend, if_pos (by omega)]
  have e2 : ((z.toUInt64 >>> s).toInt64).toBitVec = z.toBitVec >>> (56 - 8 * j) := by
    show (z.toUInt64 >>> s).toBitVec = _
    rw [UInt64.toBitVec_shiftRight]
    show z.toBitVec >>> (s.toBitVec % 64) = _
    rw [BitVec.ushiftRight_eq', BitVec.toNat_umod, es]
    congr 1
    show (56 - 8 * j) % 64 = 56 - 8 * j
    omega
  rw [e2, BitVec.getLsbD_ushiftRight]
  simp [show t < 32 by omega]
theorem mo_O_0 {z : Int64} (hz : ∀ j, j < 8 → mo_O z j = 0) : z = 0 := by
  apply Int64.toBitVec_inj.mp
  apply BitVec.eq_of_getLsbD_eq
  intro i hi
  have q := mo_O_bit (z := z) (j := 7 - i / 8) (t := i % 8) (by omega) (by omega)
  rw [hz (7 - i / 8) (by omega), show 56 - 8 * (7 - i / 8) + i % 8 = i by omega] at q
  rw [← q]
  show (0#32).getLsbD _ = (0#64).getLsbD _
  simp
theorem sm_F_0 (x : Int64) : ∀ n : Nat, sm_F (fun _ => 0) x n = 0 → x = 0
  | 0, e => e
  | n + 1, e => by
    have c : (1099511628211 : Int64) * (-3560570117845248645) = 1 := by decide
    refine sm_F_0 x n ?_
    have e' : sm_F (fun _ => 0) x n * (1099511628211 : Int64) = 0 := by
      have : sm_F (fun _ => 0) x (n + 1) = (sm_F (fun _ => 0) x n ^^^ (((0 : Int32) &&& 255).toInt64)) * 1099511628211 := rfl
      rw [this] at e
      rw [show (((0 : Int32) &&& 255).toInt64) = 0 from by decide, Int64.xor_zero] at e
      exact e
    have := congrArg (· * (-3560570117845248645 : Int64)) e'
    simp only [Int64.mul_assoc, c, Int64.mul_one, Int64.zero_mul] at this
    exact this
/-- isRight of the reference -/
def mo_Rt (h : am_H) (p : Nat) : Prop := ∀ j, j < 8 → am_I h 73 (128 * p + 120 + j) &&& 255 = mo_O (sm_F (fun j => am_I h 73 (128 * p + j)) (nI p).toInt64 120) j
theorem l2_Mo_isRight_loop {d p : Nat} {z : Int64} {h : am_H} {Q : am_O → am_H → Prop} (hS : mo_Pg h) (hp : p < 1024)
    (hq : (∀ j, j < 8 → am_I h 73 (128 * p + 120 + j) &&& 255 = mo_O z j) → Q (.inl (some (.int 1))) h) (hn : ∀ j, j < 8 → ¬ am_I h 73 (128 * p + 120 + j) &&& 255 = mo_O z j → Q (.inl (some (.int 0))) h) : ∀ n k : Nat, n + k = 8 → (∀ j, j < k → am_I h 73 (128 * p + 120 + j) &&& 255 = mo_O z j) →
    am_Ex nm_pr d mt_Mo_isRight (10, [.ref 72, .int (nI p), .long z, .retAddr 0, .int (nI k)], [], h) Q
  | 0, k, hk, ha => by
    have e : k = 8 := by omega
    subst e
    refine am_go [17] 8 ?_
    have hlt : ¬ (nI 8 < 8) := by decide
    have o1 : (1 : Int32) = 0 ∨ (1 : Int32) = 1 := by decide
    simp only [am_wp, am_stp, am_en, am_as, am_pad, am_nth, am_set, am_st1, am_st2, am_kl, am_kill, am_mem, am_fv, am_tk, am_wt, am_bk, Option.toList, List.cons_append, List.nil_append, Nat.reduceAdd, Nat.reduceEqDiff, Nat.reduceLeDiff, reduceIte, Nat.reduceLT, or_self, true_or, or_true, if_true, if_false, and_self, and_true, true_and, not_false_eq_true, not_true_eq_false, fd_Mo_isRight_0, fd_Mo_isRight_1, fd_Mo_isRight_2, fd_Mo_isRight_3, fd_Mo_isRight_6, fd_Mo_isRight_7, fd_Mo_isRight_8, fd_Mo_isRight_10, fd_Mo_isRight_12, fd_Mo_isRight_14, fd_Mo_isRight_17, fd_Mo_isRight_18, fd_Mo_isRight_21, fd_Mo_isRight_24, fd_Mo_isRight_25, fd_Mo_isRight_26, fd_Mo_isRight_28, fd_Mo_isRight_29, fd_Mo_isRight_31, fd_Mo_isRight_32, fd_Mo_isRight_33, fd_Mo_isRight_36, fd_Mo_isRight_37, fd_Mo_isRight_38, fd_Mo_isRight_40, fd_Mo_isRight_42, fd_Mo_isRight_44, fd_Mo_isRight_45, fd_Mo_isRight_46, fd_Mo_isRight_47, fd_Mo_isRight_50, fd_Mo_isRight_51, fd_Mo_isRight_52, fd_Mo_isRight_55, fd_Mo_isRight_56, fd_Mo_isRight_57, fd_Mo_isRight_60, fd_Mo_isRight_63, fd_Mo_isRight_64, hlt, o1]
    exact hq ha
  | n + 1, k, hk, ha => by
    obtain ⟨k1, r1, r2, k2, n2, k3, n3⟩ := id hS
    have h1 : nI k < 8 := nI_lt (b := 8) (by omega) (by decide)
    have hin := am_inb (c := 128 * p + 120 + k) (N := 131072) (by omega) (by omega)
    have hc : (nI (128 * p + 120 + k)).toNatClampNeg = 128 * p + 120 + k := nI_clamp (by omega)
    have e1 : 128 * nI p = nI (128 * p) := (Int32.ofNat_mul 128 p).symm
    have e120 : nI (128 * p) + 120 = nI (128 * p + 120) := nI_add (128 * p) 120
    refine am_go [63, 17] 3 ?_
    simp only [am_wp, am_stp, am_en, am_as, am_pad, am_nth, am_set, am_st1, am_st2, am_kl, am_kill, am_mem, am_fv, am_tk, am_wt, am_bk, Option.toList, List.cons_append, List.nil_append, Nat.reduceAdd, Nat.reduceEqDiff, Nat.reduceLeDiff, reduceIte, Nat.reduceLT, or_self, true_or, or_true, if_true, if_false, and_self, and_true, true_and, not_false_eq_true, not_true_eq_false, fd_Mo_isRight_10, fd_Mo_isRight_12, fd_Mo_isRight_14, h1]
    refine am_go [] 12 ?_
    simp only [am_wp, am_stp, am_en, am_as, am_pad, am_nth, am_set, am_st1, am_st2, am_kl, am_kill, am_mem, am_fv, am_tk, am_wt, am_bk, Option.toList, List.cons_append, List.nil_append, Nat.reduceAdd, Nat.reduceEqDiff, Nat.reduceLeDiff, reduceIte, Nat.reduceLT, or_self, true_or, or_true, if_true, if_false, and_self, and_true, true_and, not_false_eq_true, not_true_eq_false, fd_Mo_isRight_17, fd_Mo_isRight_18, fd_Mo_isRight_21, fd_Mo_isRight_24, fd_Mo_isRight_25, fd_Mo_isRight_26, fd_Mo_isRight_28, fd_Mo_isRight_29, fd_Mo_isRight_31, fd_Mo_isRight_32, fd_Mo_isRight_33, fd_Mo_isRight_36, k1, r1, k2, n2, e1, e120, nI_add, hin, hc]
    refine am_go [55, 57] 11 ?_
    simp only [am_wp, am_stp, am_en, am_as, am_pad, am_nth, am_set, am_st1, am_st2, am_kl, am_kill, am_mem, am_fv, am_tk, am_wt, am_bk, Option.toList, List.cons_append, List.nil_append, Nat.reduceAdd, Nat.reduceEqDiff, Nat.reduceLeDiff, reduceIte, Nat.reduceLT, or_self, true_or, or_true, if_true, if_false, and_self, and_true, true_and, not_false_eq_true, not_true_eq_false, fd_Mo_isRight_37, fd_Mo_isRight_38, fd_Mo_isRight_40, fd_Mo_isRight_42, fd_Mo_isRight_44, fd_Mo_isRight_45, fd_Mo_isRight_46, fd_Mo_isRight_47, fd_Mo_isRight_50, fd_Mo_isRight_51, fd_Mo_isRight_52]
    have eO : ((z.toUInt64 >>> (((56 : Int32) - 8 * nI k).toInt64.toUInt64 &&& Int64.toUInt64 63)).toInt64 &&& 255).toInt32 = mo_O z k := rfl
    rw [eO]
    by_cases e : am_I h 73 (128 * p + 120 + k) &&& 255 = mo_O z k
    · simp only [e, am_wp, am_stp, am_en, am_as, am_pad, am_nth, am_set, am_st1, am_st2, am_kl, am_kill, am_mem, am_fv, am_tk, am_wt, am_bk, Option.toList, List.cons_append, List.nil_append, Nat.reduceAdd, Nat.reduceEqDiff, Nat.reduceLeDiff, reduceIte, Nat.reduceLT, or_self, true_or, or_true, if_true, if_false, and_self, and_true, true_and, not_false_eq_true, not_true_eq_false]
      refine am_go [10] 3 ?_
      simp only [am_wp, am_stp, am_en, am_as, am_pad, am_nth, am_set, am_st1, am_st2, am_kl, am_kill, am_mem, am_fv, am_tk, am_wt, am_bk, Option.toList, List.cons_append, List.nil_append, Nat.reduceAdd, Nat.reduceEqDiff, Nat.reduceLeDiff, reduceIte, Nat.reduceLT, or_self, true_or, or_true, if_true, if_false, and_self, and_true, true_and, not_false_eq_true, not_true_eq_false, fd_Mo_isRight_57, fd_Mo_isRight_60, nI_1]
      refine l2_Mo_isRight_loop hS hp hq hn n (k + 1) (by omega) (fun j hj => ?_)
      by_cases ej : j = k
      · subst ej; exact e
      · exact ha j (by omega)
    · simp only [e, am_wp, am_stp, am_en, am_as, am_pad, am_nth, am_set, am_st1, am_st2, am_kl, am_kill, am_mem, am_fv, am_tk, am_wt, am_bk, Option.toList, List.cons_append, List.nil_append, Nat.reduceAdd, Nat.reduceEqDiff, Nat.reduceLeDiff, reduceIte, Nat.reduceLT, or_self, true_or, or_true, if_true, if_false, and_self, and_true, true_and, not_false_eq_true, not_true_eq_false]
      refine am_go [] 3 ?_
      have o1 : (0 : Int32) = 0 ∨ (0 : Int32) = 1 := by decide
      simp only [am_wp, am_stp, am_en, am_as, am_pad, am_nth, am_set, am_st1, am_st2, am_kl, am_kill, am_mem, am_fv, am_tk, am_wt, am_bk, Option.toList, List.cons_append, List.nil_append, Nat.reduceAdd, Nat.reduceEqDiff, Nat.reduceLeDiff, reduceIte, Nat.reduceLT, or_self, true_or, or_true, if_true, if_false, and_self, and_true, true_and, not_false_eq_true, not_true_eq_false, fd_Mo_isRight_55, fd_Mo_isRight_56, o1]
      exact hn k (by omega) e
theorem l2_Mo_isRight {d p : Nat} {h : am_H} (hS : mo_Pg h) (hp : p < 1024) : am_Rt nm_pr (d + 2) mi_Mo_isRight [.ref 72, .int (nI p)] h (fun o h' => h' = h ∧ ((o = .inl (some (.int 1)) ∧ mo_Rt h p) ∨ (o = .inl (some (.int 0)) ∧ ¬ mo_Rt h p))) := by
  refine am_in' (d := d + 1) mt_Mo_isRight 5 rfl rfl rfl ?_
  refine am_go [] 4 ?_
  simp only [am_wp, am_stp, am_en, am_as, am_pad, am_nth, am_set, am_st1, am_st2, am_kl, am_kill, am_mem, am_fv, am_tk, am_wt, am_bk, Option.toList, List.cons_append, List.nil_append, Nat.reduceAdd, Nat.reduceEqDiff, Nat.reduceLeDiff, reduceIte, Nat.reduceLT, or_self, true_or, or_true, if_true, if_false, and_self, and_true, true_and, not_false_eq_true, not_true_eq_false, fd_Mo_isRight_0, fd_Mo_isRight_1, fd_Mo_isRight_2, fd_Mo_isRight_3, hS.1]
  refine am_call (l2_Mo_sumO hS hp) (fun o h1 q => ?_)
  obtain ⟨rfl, rfl⟩ := q
  simp only [am_wp, am_stp, am_en, am_as, am_pad, am_nth, am_set, am_st1, am_st2, am_kl, am_kill, am_mem, am_fv, am_tk, am_wt, am_bk, Option.toList, List.cons_append, List.nil_append, Nat.reduceAdd, Nat.reduceEqDiff, Nat.reduceLeDiff, reduceIte, Nat.reduceLT, or_self, true_or, or_true, if_true, if_false, and_self, and_true, true_and, not_false_eq_true, not_true_eq_false]
  refine am_go [10] 5 ?_
  simp only [am_wp, am_stp, am_en, am_as, am_pad, am_nth, am_set, am_st1, am_st2, am_kl, am_kill, am_mem, am_fv, am_tk, am_wt, am_bk, Option.toList, List.cons_append, List.nil_append, Nat.reduceAdd, Nat.reduceEqDiff, Nat.reduceLeDiff, reduceIte, Nat.reduceLT, or_self, true_or, or_true, if_true, if_false, and_self, and_true, true_and, not_false_eq_true, not_true_eq_false, fd_Mo_isRight_6, fd_Mo_isRight_7, fd_Mo_isRight_8]
  refine l2_Mo_isRight_loop hS hp (fun q => ⟨rfl, Or.inl ⟨rfl, q⟩⟩) (fun j hj q => ⟨rfl, Or.inr ⟨rfl, fun r => q (r j hj)⟩⟩) 8 0 rfl (fun j hj => by omega)
/-- the pages of a new object -/
theorem mo_Rt_new {P p : Nat} {h : am_H} (hM : mo_All P h) (hp : p < 1024) : mo_Rt h p ↔ p < 2 := by
  have m6 := hM.2.2.2.2.2.1
  have zb : am_b8 0 = 0 := by decide
  have hf : ∀ j, am_I h 73 j = if 128 ≤ j ∧ j < 256 then hd_p (j - 128) else 0 := fun j => congrFun m6 j
  by_cases h0 : p = 0
  · subst h0
    refine ⟨fun _ => by decide, fun _ j hj => ?_⟩
    rw [hf, if_neg (by omega)]
    have e : sm_F (fun j => am_I h 73 (128 * 0 + j)) (nI 0).toInt64 120 = sm_F (fun _ => 0) 0 120 := by
      have e0 : (nI 0).toInt64 = 0 := by decide
      rw [e0]
      exact sm_F_ext 120 (fun j hj => by rw [hf, if_neg (by omega)])
    have z0 : ∀ n, sm_F (fun _ => 0) 0 n = 0 := by
      intro n
      induction n with
      | zero => rfl
      | succ n ih =>
        have : sm_F (fun _ => 0) 0 (n + 1) = (sm_F (fun _ => 0) 0 n ^^^ (((0 : Int32) &&& 255).toInt64)) * 1099511628211 := rfl
        rw [this, ih]
        decide
    rw [e, z0]
    have : ∀ j : Fin 8, (0 : Int32) &&& 255 = mo_O 0 j.1 := by decide
    exact this ⟨j, hj⟩
  · by_cases h1 : p = 1
    · subst h1
      refine ⟨fun _ => by decide, fun _ j hj => ?_⟩
      have c := hd_cs
      rw [cs_B_1] at c
      have c' := c j hj
      have e : sm_F (fun j => am_I h 73 (128 * 1 + j)) (nI 1).toInt64 120 = sm_F hd_p (nI 1).toInt64 120 := sm_F_ext 120 (fun j hj => by rw [hf, if_pos (by omega), show 128 * 1 + j - 128 = j by omega])
      rw [e, hf, if_pos (by omega), show 128 * 1 + 120 + j - 128 = 120 + j by omega, c']
      refine (mo_O_iff ?_).mpr rfl
      exact am_b8_b8 _
    · refine ⟨fun q => ?_, fun q => by omega⟩
      exfalso
      have e : sm_F (fun j => am_I h 73 (128 * p + j)) (nI p).toInt64 120 = sm_F (fun _ => 0) (nI p).toInt64 120 := sm_F_ext 120 (fun j hj => by rw [hf, if_neg (by omega)])
      have z := mo_O_0 (z := sm_F (fun _ => 0) (nI p).toInt64 120) (fun j hj => by
        have := q j hj
        rw [e, hf, if_neg (by omega)] at this
        rw [← this]
        decide)
      have z2 := sm_F_0 _ _ z
      have z3 : (nI p).toInt64.toInt = (0 : Int64).toInt := by rw [z2]
      rw [Int32.toInt_toInt64, nI_toInt (by omega)] at z3
      have : (0 : Int64).toInt = 0 := by decide
      omega
