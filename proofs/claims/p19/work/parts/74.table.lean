/-! THE TABLE: where a key stands -/
/-- the class's table: n entries -/
def tb_S (h : am_H) (n : Nat) : Prop := am_kd h 3 = 10 ∧ am_R h 3 0 = 4 ∧ am_R h 3 1 = 5 ∧ am_R h 3 2 = 6 ∧ am_R h 3 3 = 7 ∧ am_kd h 4 = 101 ∧ am_ln h 4 = 64 ∧ am_kd h 5 = 100 ∧ am_ln h 5 = 64 ∧ am_kd h 6 = 101 ∧ am_ln h 6 = 64 ∧ am_kd h 7 = 3 ∧ am_I h 3 4 = nI n ∧ n ≤ 64
/-- n keys in rising order -/
def tb_O (f : Nat → Int64) (n : Nat) : Prop := ∀ i j, i < j → j < n → f i < f j
/-- key stands behind p of n keys -/
def tb_P (f : Nat → Int64) (n : Nat) (key : Int64) (p : Nat) : Prop := p ≤ n ∧ (∀ i, i < p → f i < key) ∧ ∀ i, p ≤ i → i < n → ¬ f i < key
theorem tb_P.uniq {f : Nat → Int64} {n p q : Nat} {key : Int64} (a : tb_P f n key p) (b : tb_P f n key q) : p = q := by
  obtain ⟨a1, a2, a3⟩ := a
  obtain ⟨b1, b2, b3⟩ := b
  rcases Nat.lt_trichotomy p q with e | e | e
  · exact absurd (b2 p e) (a3 p (Nat.le_refl _) (by omega))
  · exact e
  · exact absurd (a2 q e) (b3 q (Nat.le_refl _) (by omega))
theorem l_tr {a b c : Int64} (h1 : a < b) (h2 : b < c) : a < c := by
  rw [Int64.lt_iff_toInt_lt] at *
  omega
theorem l_ntr {a b c : Int64} (h1 : ¬ a < c) (h2 : a < b) : ¬ b < c := by
  rw [Int64.lt_iff_toInt_lt] at *
  omega
theorem nI_half (a : Nat) (h : a < 2 ^ 31) : ((nI a).toUInt32 >>> (Int32.toUInt32 1 &&& Int32.toUInt32 31)).toInt32 = nI (a / 2) := by
  apply Int32.toBitVec_inj.mp
  apply BitVec.eq_of_toNat_eq
  show ((nI a).toUInt32 >>> (Int32.toUInt32 1 &&& Int32.toUInt32 31)).toBitVec.toNat = (BitVec.ofNat 32 (a / 2)).toNat
  have e : (Int32.toUInt32 1 &&& Int32.toUInt32 31) = 1 := by decide
  rw [e, UInt32.toBitVec_shiftRight]
  show (BitVec.ofNat 32 a >>> ((1#32) % 32)).toNat = _
  rw [BitVec.ushiftRight_eq', BitVec.toNat_ushiftRight, BitVec.toNat_ofNat, BitVec.toNat_ofNat]
  show (a % 2 ^ 32) >>> 1 = _
  rw [Nat.shiftRight_eq_div_pow]
  omega
theorem lc_lt (a b : Int64) : ((if a < b then (-1 : Int32) else if a = b then 0 else 1) < 0) = (a < b) := by
  by_cases h1 : a < b
  · simp only [h1, if_true]; decide
  · by_cases h2 : a = b
    · simp only [h1, if_false, h2, if_true]
      have : ¬ b < b := fun q => by rw [Int64.lt_iff_toInt_lt] at q; omega
      simp [this]
    · simp only [h1, if_false, h2]; decide
theorem lc_eq (a b : Int64) : ((if a < b then (-1 : Int32) else if a = b then 0 else 1) = 0) = (a = b) := by
  by_cases h1 : a < b
  · have h2 : a ≠ b := fun e => by subst e; rw [Int64.lt_iff_toInt_lt] at h1; omega
    simp only [h1, if_true, h2]; decide
  · by_cases h2 : a = b
    · simp only [h1, if_false, h2, if_true]
      have : ¬ b < b := fun q => by rw [Int64.lt_iff_toInt_lt] at q; omega
      simp [this]
    · simp only [h1, if_false, h2]; decide
theorem l2_placeOf_loop {d n : Nat} {key : Int64} {h : am_H} {Q : am_O → am_H → Prop} (hS : tb_S h n) (hO : tb_O (am_L h 4) n) (hx : ∀ p, tb_P (am_L h 4) n key p → Q (.inl (some (.int (nI p)))) h) : ∀ (m i lo hi : Nat) (w : Value), m + i = 64 → lo ≤ hi → hi ≤ n → hi - lo ≤ m → (∀ j, j < lo → am_L h 4 j < key) → (∀ j, hi ≤ j → j < n → ¬ am_L h 4 j < key) →
    am_Ex nm_pr d mt_Table_placeOf (11, [.ref 3, .long key, .retAddr 0, .int (nI lo), .int (nI hi), .int (nI i), w], [], h) Q
  | 0, i, lo, hi, w, hm, h1, h2, h3, ha, hb => by
    have e : i = 64 := by omega
    subst e
    have el : lo = hi := by omega
    subst el
    have hlt : ¬ (nI 64 < 64) := by decide
    refine am_go [18] 6 ?_
    simp only [am_wp, am_stp, am_en, am_as, am_pad, am_nth, am_set, am_st1, am_st2, am_kl, am_kill, am_mem, am_fv, am_tk, am_wt, am_bk, Option.toList, List.cons_append, List.nil_append, Nat.reduceAdd, Nat.reduceEqDiff, Nat.reduceLeDiff, reduceIte, Nat.reduceLT, or_self, true_or, or_true, if_true, if_false, and_self, and_true, true_and, not_false_eq_true, not_true_eq_false, fd_Table_placeOf_11, fd_Table_placeOf_13, fd_Table_placeOf_15, fd_Table_placeOf_69, fd_Table_placeOf_70, hlt]
    exact hx lo ⟨h2, ha, hb⟩
  | m + 1, i, lo, hi, w, hm, h1, h2, h3, ha, hb => by
    obtain ⟨t1, t2, t3, t4, t5, t6, t7, t8, t9, t10, t11, t12, t13, t14⟩ := id hS
    have hlt : nI i < 64 := nI_lt (b := 64) (by omega) (by decide)
    refine am_go [18, 69] 4 ?_
    simp only [am_wp, am_stp, am_en, am_as, am_pad, am_nth, am_set, am_st1, am_st2, am_kl, am_kill, am_mem, am_fv, am_tk, am_wt, am_bk, Option.toList, List.cons_append, List.nil_append, Nat.reduceAdd, Nat.reduceEqDiff, Nat.reduceLeDiff, reduceIte, Nat.reduceLT, or_self, true_or, or_true, if_true, if_false, and_self, and_true, true_and, not_false_eq_true, not_true_eq_false, fd_Table_placeOf_11, fd_Table_placeOf_13, fd_Table_placeOf_15, hlt]
    by_cases el : lo = hi
    · subst el
      have hl2 : ¬ (nI lo < nI lo) := nI_nlt (Nat.le_refl _) (by omega)
      refine am_go [24] 6 ?_
      simp only [am_wp, am_stp, am_en, am_as, am_pad, am_nth, am_set, am_st1, am_st2, am_kl, am_kill, am_mem, am_fv, am_tk, am_wt, am_bk, Option.toList, List.cons_append, List.nil_append, Nat.reduceAdd, Nat.reduceEqDiff, Nat.reduceLeDiff, reduceIte, Nat.reduceLT, or_self, true_or, or_true, if_true, if_false, and_self, and_true, true_and, not_false_eq_true, not_true_eq_false, fd_Table_placeOf_18, fd_Table_placeOf_19, fd_Table_placeOf_21, fd_Table_placeOf_69, fd_Table_placeOf_70, hl2]
      exact hx lo ⟨h2, ha, hb⟩
    · have hl2 : nI lo < nI hi := nI_lt (by omega) (by omega)
      have hm1 : nI ((lo + hi) / 2) < 64 := nI_lt (b := 64) (by omega) (by decide)
      have i1 := am_inb (c := (lo + hi) / 2) (N := 64) (by omega) (by omega)
      have c1 : (nI ((lo + hi) / 2)).toNatClampNeg = (lo + hi) / 2 := nI_clamp (by omega)
      have eh := nI_half (lo + hi) (by omega)
      refine am_go [24, 69] 3 ?_
      simp only [am_wp, am_stp, am_en, am_as, am_pad, am_nth, am_set, am_st1, am_st2, am_kl, am_kill, am_mem, am_fv, am_tk, am_wt, am_bk, Option.toList, List.cons_append, List.nil_append, Nat.reduceAdd, Nat.reduceEqDiff, Nat.reduceLeDiff, reduceIte, Nat.reduceLT, or_self, true_or, or_true, if_true, if_false, and_self, and_true, true_and, not_false_eq_true, not_true_eq_false, fd_Table_placeOf_18, fd_Table_placeOf_19, fd_Table_placeOf_21, hl2]
      refine am_go [59, 39] 9 ?_
      simp only [am_wp, am_stp, am_en, am_as, am_pad, am_nth, am_set, am_st1, am_st2, am_kl, am_kill, am_mem, am_fv, am_tk, am_wt, am_bk, Option.toList, List.cons_append, List.nil_append, Nat.reduceAdd, Nat.reduceEqDiff, Nat.reduceLeDiff, reduceIte, Nat.reduceLT, or_self, true_or, or_true, if_true, if_false, and_self, and_true, true_and, not_false_eq_true, not_true_eq_false, fd_Table_placeOf_24, fd_Table_placeOf_25, fd_Table_placeOf_27, fd_Table_placeOf_28, fd_Table_placeOf_29, fd_Table_placeOf_30, fd_Table_placeOf_32, fd_Table_placeOf_34, fd_Table_placeOf_36, nI_add, eh, hm1]
      refine am_go [51, 59] 7 ?_
      simp only [am_wp, am_stp, am_en, am_as, am_pad, am_nth, am_set, am_st1, am_st2, am_kl, am_kill, am_mem, am_fv, am_tk, am_wt, am_bk, Option.toList, List.cons_append, List.nil_append, Nat.reduceAdd, Nat.reduceEqDiff, Nat.reduceLeDiff, reduceIte, Nat.reduceLT, or_self, true_or, or_true, if_true, if_false, and_self, and_true, true_and, not_false_eq_true, not_true_eq_false, fd_Table_placeOf_39, fd_Table_placeOf_40, fd_Table_placeOf_43, fd_Table_placeOf_45, fd_Table_placeOf_46, fd_Table_placeOf_47, fd_Table_placeOf_48, t1, t2, t6, t7, i1, c1]
      simp only [lc_lt]
      by_cases ek : am_L h 4 ((lo + hi) / 2) < key
      · simp only [ek, am_wp, am_stp, am_en, am_as, am_pad, am_nth, am_set, am_st1, am_st2, am_kl, am_kill, am_mem, am_fv, am_tk, am_wt, am_bk, Option.toList, List.cons_append, List.nil_append, Nat.reduceAdd, Nat.reduceEqDiff, Nat.reduceLeDiff, reduceIte, Nat.reduceLT, or_self, true_or, or_true, if_true, if_false, and_self, and_true, true_and, not_false_eq_true, not_true_eq_false]
        refine am_go [11] 7 ?_
        simp only [am_wp, am_stp, am_en, am_as, am_pad, am_nth, am_set, am_st1, am_st2, am_kl, am_kill, am_mem, am_fv, am_tk, am_wt, am_bk, Option.toList, List.cons_append, List.nil_append, Nat.reduceAdd, Nat.reduceEqDiff, Nat.reduceLeDiff, reduceIte, Nat.reduceLT, or_self, true_or, or_true, if_true, if_false, and_self, and_true, true_and, not_false_eq_true, not_true_eq_false, fd_Table_placeOf_51, fd_Table_placeOf_53, fd_Table_placeOf_54, fd_Table_placeOf_55, fd_Table_placeOf_56, fd_Table_placeOf_63, fd_Table_placeOf_66, nI_1]
        refine l2_placeOf_loop hS hO hx m (i + 1) ((lo + hi) / 2 + 1) hi _ (by omega) (by omega) h2 (by omega) (fun j hj => ?_) hb
        by_cases ej : j = (lo + hi) / 2
        · rw [ej]; exact ek
        · exact l_tr (hO j _ (by omega) (by omega)) ek
      · simp only [ek, am_wp, am_stp, am_en, am_as, am_pad, am_nth, am_set, am_st1, am_st2, am_kl, am_kill, am_mem, am_fv, am_tk, am_wt, am_bk, Option.toList, List.cons_append, List.nil_append, Nat.reduceAdd, Nat.reduceEqDiff, Nat.reduceLeDiff, reduceIte, Nat.reduceLT, or_self, true_or, or_true, if_true, if_false, and_self, and_true, true_and, not_false_eq_true, not_true_eq_false]
        refine am_go [11] 7 ?_
        simp only [am_wp, am_stp, am_en, am_as, am_pad, am_nth, am_set, am_st1, am_st2, am_kl, am_kill, am_mem, am_fv, am_tk, am_wt, am_bk, Option.toList, List.cons_append, List.nil_append, Nat.reduceAdd, Nat.reduceEqDiff, Nat.reduceLeDiff, reduceIte, Nat.reduceLT, or_self, true_or, or_true, if_true, if_false, and_self, and_true, true_and, not_false_eq_true, not_true_eq_false, fd_Table_placeOf_59, fd_Table_placeOf_61, fd_Table_placeOf_63, fd_Table_placeOf_66, nI_1]
        refine l2_placeOf_loop hS hO hx m (i + 1) lo ((lo + hi) / 2) _ (by omega) (by omega) (by omega) (by omega) ha (fun j h4 h5 => ?_)
        by_cases ej : j = (lo + hi) / 2
        · rw [ej]; exact ek
        · exact l_ntr ek (hO _ j (by omega) h5)
theorem l2_placeOf {d n : Nat} {key : Int64} {h : am_H} (hS : tb_S h n) (hO : tb_O (am_L h 4) n) : am_Rt nm_pr (d + 1) mi_Table_placeOf [.ref 3, .long key] h (fun o h' => ∃ p, tb_P (am_L h 4) n key p ∧ o = .inl (some (.int (nI p))) ∧ h' = h) := by
  obtain ⟨t1, t2, t3, t4, t5, t6, t7, t8, t9, t10, t11, t12, t13, t14⟩ := id hS
  refine am_in' mt_Table_placeOf 7 rfl rfl rfl ?_
  refine am_go [11] 7 ?_
  simp only [am_wp, am_stp, am_en, am_as, am_pad, am_nth, am_set, am_st1, am_st2, am_kl, am_kill, am_mem, am_fv, am_tk, am_wt, am_bk, Option.toList, List.cons_append, List.nil_append, Nat.reduceAdd, Nat.reduceEqDiff, Nat.reduceLeDiff, reduceIte, Nat.reduceLT, or_self, true_or, or_true, if_true, if_false, and_self, and_true, true_and, not_false_eq_true, not_true_eq_false, fd_Table_placeOf_0, fd_Table_placeOf_1, fd_Table_placeOf_2, fd_Table_placeOf_3, fd_Table_placeOf_6, fd_Table_placeOf_8, fd_Table_placeOf_9, t1, t13]
  exact l2_placeOf_loop hS hO (fun p hp => ⟨p, hp, rfl, rfl⟩) 64 0 0 n _ rfl (Nat.zero_le _) (Nat.le_refl _) (by omega) (fun j hj => by omega) (fun j h1 h2 => by omega)
/-- the key at place p, if it is there -/
def tb_H (f : Nat → Int64) (n p : Nat) (key : Int64) : Bool := decide (p < n) && decide (f p = key)
theorem l2_holds {d n p : Nat} {key : Int64} {h : am_H} (hS : tb_S h n) (hp : p ≤ 64) : am_Rt nm_pr (d + 1) mi_Table_holds [.ref 3, .int (nI p), .long key] h (fun o h' => o = .inl (some (.int (match tb_H (am_L h 4) n p key with
    | true => 1
    | false => 0))) ∧ h' = h) := by
  obtain ⟨t1, t2, t3, t4, t5, t6, t7, t8, t9, t10, t11, t12, t13, t14⟩ := id hS
  have l0 : ¬ nI p < 0 := nI_pos (by omega)
  have o0 : (0 : Int32) = 0 ∨ (0 : Int32) = 1 := by decide
  have o1 : (1 : Int32) = 0 ∨ (1 : Int32) = 1 := by decide
  refine am_in' mt_Table_holds 4 rfl rfl rfl ?_
  refine am_go [33, 12] 6 ?_
  simp only [am_wp, am_stp, am_en, am_as, am_pad, am_nth, am_set, am_st1, am_st2, am_kl, am_kill, am_mem, am_fv, am_tk, am_wt, am_bk, Option.toList, List.cons_append, List.nil_append, Nat.reduceAdd, Nat.reduceEqDiff, Nat.reduceLeDiff, reduceIte, Nat.reduceLT, or_self, true_or, or_true, if_true, if_false, and_self, and_true, true_and, not_false_eq_true, not_true_eq_false, fd_Table_holds_0, fd_Table_holds_1, fd_Table_holds_4, fd_Table_holds_5, fd_Table_holds_6, fd_Table_holds_9, t1, t13, l0]
  by_cases e1 : p < n
  · have l1 : nI p < nI n := nI_lt e1 (by omega)
    have l2 : nI p < 64 := nI_lt (b := 64) (by omega) (by decide)
    have i1 := am_inb (c := p) (N := 64) (by omega) (by omega)
    have c1 : (nI p).toNatClampNeg = p := nI_clamp (by omega)
    simp only [l1, am_wp, am_stp, am_en, am_as, am_pad, am_nth, am_set, am_st1, am_st2, am_kl, am_kill, am_mem, am_fv, am_tk, am_wt, am_bk, Option.toList, List.cons_append, List.nil_append, Nat.reduceAdd, Nat.reduceEqDiff, Nat.reduceLeDiff, reduceIte, Nat.reduceLT, or_self, true_or, or_true, if_true, if_false, and_self, and_true, true_and, not_false_eq_true, not_true_eq_false]
    refine am_go [33, 29] 10 ?_
    simp only [am_wp, am_stp, am_en, am_as, am_pad, am_nth, am_set, am_st1, am_st2, am_kl, am_kill, am_mem, am_fv, am_tk, am_wt, am_bk, Option.toList, List.cons_append, List.nil_append, Nat.reduceAdd, Nat.reduceEqDiff, Nat.reduceLeDiff, reduceIte, Nat.reduceLT, or_self, true_or, or_true, if_true, if_false, and_self, and_true, true_and, not_false_eq_true, not_true_eq_false, fd_Table_holds_12, fd_Table_holds_13, fd_Table_holds_15, fd_Table_holds_18, fd_Table_holds_19, fd_Table_holds_22, fd_Table_holds_23, fd_Table_holds_24, fd_Table_holds_25, fd_Table_holds_26, t1, t2, t6, t7, l2, i1, c1]
    simp only [lc_eq]
    by_cases e2 : am_L h 4 p = key
    · have e : tb_H (am_L h 4) n p key = true := by simp [tb_H, e1, e2]
      simp only [e2, am_wp, am_stp, am_en, am_as, am_pad, am_nth, am_set, am_st1, am_st2, am_kl, am_kill, am_mem, am_fv, am_tk, am_wt, am_bk, Option.toList, List.cons_append, List.nil_append, Nat.reduceAdd, Nat.reduceEqDiff, Nat.reduceLeDiff, reduceIte, Nat.reduceLT, or_self, true_or, or_true, if_true, if_false, and_self, and_true, true_and, not_false_eq_true, not_true_eq_false]
      refine am_go [] 4 ?_
      simp only [am_wp, am_stp, am_en, am_as, am_pad, am_nth, am_set, am_st1, am_st2, am_kl, am_kill, am_mem, am_fv, am_tk, am_wt, am_bk, Option.toList, List.cons_append, List.nil_append, Nat.reduceAdd, Nat.reduceEqDiff, Nat.reduceLeDiff, reduceIte, Nat.reduceLT, or_self, true_or, or_true, if_true, if_false, and_self, and_true, true_and, not_false_eq_true, not_true_eq_false, fd_Table_holds_29, fd_Table_holds_30, fd_Table_holds_33, fd_Table_holds_34, o1, e]
    · have e : tb_H (am_L h 4) n p key = false := by simp [tb_H, e2]
      simp only [e2, am_wp, am_stp, am_en, am_as, am_pad, am_nth, am_set, am_st1, am_st2, am_kl, am_kill, am_mem, am_fv, am_tk, am_wt, am_bk, Option.toList, List.cons_append, List.nil_append, Nat.reduceAdd, Nat.reduceEqDiff, Nat.reduceLeDiff, reduceIte, Nat.reduceLT, or_self, true_or, or_true, if_true, if_false, and_self, and_true, true_and, not_false_eq_true, not_true_eq_false]
      refine am_go [] 4 ?_
      simp only [am_wp, am_stp, am_en, am_as, am_pad, am_nth, am_set, am_st1, am_st2, am_kl, am_kill, am_mem, am_fv, am_tk, am_wt, am_bk, Option.toList, List.cons_append, List.nil_append, Nat.reduceAdd, Nat.reduceEqDiff, Nat.reduceLeDiff, reduceIte, Nat.reduceLT, or_self, true_or, or_true, if_true, if_false, and_self, and_true, true_and, not_false_eq_true, not_true_eq_false, fd_Table_holds_33, fd_Table_holds_34, o0, e]
  · have l1 : ¬ nI p < nI n := nI_nlt (by omega) (by omega)
    have e : tb_H (am_L h 4) n p key = false := by simp [tb_H, e1]
    simp only [l1, am_wp, am_stp, am_en, am_as, am_pad, am_nth, am_set, am_st1, am_st2, am_kl, am_kill, am_mem, am_fv, am_tk, am_wt, am_bk, Option.toList, List.cons_append, List.nil_append, Nat.reduceAdd, Nat.reduceEqDiff, Nat.reduceLeDiff, reduceIte, Nat.reduceLT, or_self, true_or, or_true, if_true, if_false, and_self, and_true, true_and, not_false_eq_true, not_true_eq_false]
    refine am_go [] 4 ?_
    simp only [am_wp, am_stp, am_en, am_as, am_pad, am_nth, am_set, am_st1, am_st2, am_kl, am_kill, am_mem, am_fv, am_tk, am_wt, am_bk, Option.toList, List.cons_append, List.nil_append, Nat.reduceAdd, Nat.reduceEqDiff, Nat.reduceLeDiff, reduceIte, Nat.reduceLT, or_self, true_or, or_true, if_true, if_false, and_self, and_true, true_and, not_false_eq_true, not_true_eq_false, fd_Table_holds_33, fd_Table_holds_34, o0, e]
/-- there is place for the key -/
theorem l2_hasPlaceFor {d n : Nat} {key : Int64} {h : am_H} (hS : tb_S h n) (hO : tb_O (am_L h 4) n) : am_Rt nm_pr (d + 2) mi_Table_hasPlaceFor [.ref 3, .long key] h (fun o h' => ∃ p, tb_P (am_L h 4) n key p ∧ o = .inl (some (.int (if n < 64 ∨ tb_H (am_L h 4) n p key = true then 1 else 0))) ∧ h' = h) := by
  obtain ⟨t1, t2, t3, t4, t5, t6, t7, t8, t9, t10, t11, t12, t13, t14⟩ := id hS
  have o0 : (0 : Int32) = 0 ∨ (0 : Int32) = 1 := by decide
  have o1 : (1 : Int32) = 0 ∨ (1 : Int32) = 1 := by decide
  have one0 : ¬ (1 : Int32) = 0 := by decide
  refine am_in' (d := d + 1) mt_Table_hasPlaceFor 3 rfl rfl rfl ?_
  refine am_go [22, 9] 4 ?_
  simp only [am_wp, am_stp, am_en, am_as, am_pad, am_nth, am_set, am_st1, am_st2, am_kl, am_kill, am_mem, am_fv, am_tk, am_wt, am_bk, Option.toList, List.cons_append, List.nil_append, Nat.reduceAdd, Nat.reduceEqDiff, Nat.reduceLeDiff, reduceIte, Nat.reduceLT, or_self, true_or, or_true, if_true, if_false, and_self, and_true, true_and, not_false_eq_true, not_true_eq_false, fd_Table_hasPlaceFor_0, fd_Table_hasPlaceFor_1, fd_Table_hasPlaceFor_4, fd_Table_hasPlaceFor_6, t1, t13]
  by_cases e1 : n < 64
  · have l1 : nI n < 64 := nI_lt (b := 64) e1 (by decide)
    simp only [l1, am_wp, am_stp, am_en, am_as, am_pad, am_nth, am_set, am_st1, am_st2, am_kl, am_kill, am_mem, am_fv, am_tk, am_wt, am_bk, Option.toList, List.cons_append, List.nil_append, Nat.reduceAdd, Nat.reduceEqDiff, Nat.reduceLeDiff, reduceIte, Nat.reduceLT, or_self, true_or, or_true, if_true, if_false, and_self, and_true, true_and, not_false_eq_true, not_true_eq_false]
    refine am_go [] 4 ?_
    simp only [am_wp, am_stp, am_en, am_as, am_pad, am_nth, am_set, am_st1, am_st2, am_kl, am_kill, am_mem, am_fv, am_tk, am_wt, am_bk, Option.toList, List.cons_append, List.nil_append, Nat.reduceAdd, Nat.reduceEqDiff, Nat.reduceLeDiff, reduceIte, Nat.reduceLT, or_self, true_or, or_true, if_true, if_false, and_self, and_true, true_and, not_false_eq_true, not_true_eq_false, fd_Table_hasPlaceFor_22, fd_Table_hasPlaceFor_23, fd_Table_hasPlaceFor_26, fd_Table_hasPlaceFor_27, o1]
    obtain ⟨p, hp⟩ : ∃ p, tb_P (am_L h 4) n key p := by
      clear hS t13 l1
      induction n with
      | zero => exact ⟨0, Nat.le_refl _, fun i hi => by omega, fun i h1 h2 => by omega⟩
      | succ n ih =>
        obtain ⟨p, a1, a2, a3⟩ := ih (fun i j h1 h2 => hO i j h1 (by omega)) (by omega) (by omega)
        by_cases e : p = n ∧ am_L h 4 n < key
        · refine ⟨n + 1, Nat.le_refl _, fun i hi => ?_, fun i h1 h2 => by omega⟩
          by_cases ei : i = n
          · rw [ei]; exact e.2
          · exact a2 i (by omega)
        · refine ⟨p, by omega, a2, fun i h1 h2 => ?_⟩
          by_cases ei : i = n
          · rw [ei]
            by_cases ep : p = n
            · exact fun q => e ⟨ep, q⟩
            · exact l_ntr (a3 p (Nat.le_refl _) (by omega)) (hO p n (by omega) (by omega))
          · exact a3 i h1 (by omega)
    exact ⟨p, hp, by rw [if_pos (Or.inl e1)]⟩
  · have l1 : ¬ nI n < 64 := nI_nlt (b := 64) (by omega) (by omega)
    simp only [l1, am_wp, am_stp, am_en, am_as, am_pad, am_nth, am_set, am_st1, am_st2, am_kl, am_kill, am_mem, am_fv, am_tk, am_wt, am_bk, Option.toList, List.cons_append, List.nil_append, Nat.reduceAdd, Nat.reduceEqDiff, Nat.reduceLeDiff, reduceIte, Nat.reduceLT, or_self, true_or, or_true, if_true, if_false, and_self, and_true, true_and, not_false_eq_true, not_true_eq_false]
    refine am_go [] 4 ?_
    simp only [am_wp, am_stp, am_en, am_as, am_pad, am_nth, am_set, am_st1, am_st2, am_kl, am_kill, am_mem, am_fv, am_tk, am_wt, am_bk, Option.toList, List.cons_append, List.nil_append, Nat.reduceAdd, Nat.reduceEqDiff, Nat.reduceLeDiff, reduceIte, Nat.reduceLT, or_self, true_or, or_true, if_true, if_false, and_self, and_true, true_and, not_false_eq_true, not_true_eq_false, fd_Table_hasPlaceFor_9, fd_Table_hasPlaceFor_10, fd_Table_hasPlaceFor_11, fd_Table_hasPlaceFor_12, t1]
    refine am_call (l2_placeOf hS hO) (fun o h1 q => ?_)
    obtain ⟨p, hp, rfl, rfl⟩ := q
    simp only [am_wp, am_stp, am_en, am_as, am_pad, am_nth, am_set, am_st1, am_st2, am_kl, am_kill, am_mem, am_fv, am_tk, am_wt, am_bk, Option.toList, List.cons_append, List.nil_append, Nat.reduceAdd, Nat.reduceEqDiff, Nat.reduceLeDiff, reduceIte, Nat.reduceLT, or_self, true_or, or_true, if_true, if_false, and_self, and_true, true_and, not_false_eq_true, not_true_eq_false]
    refine am_go [] 2 ?_
    simp only [am_wp, am_stp, am_en, am_as, am_pad, am_nth, am_set, am_st1, am_st2, am_kl, am_kill, am_mem, am_fv, am_tk, am_wt, am_bk, Option.toList, List.cons_append, List.nil_append, Nat.reduceAdd, Nat.reduceEqDiff, Nat.reduceLeDiff, reduceIte, Nat.reduceLT, or_self, true_or, or_true, if_true, if_false, and_self, and_true, true_and, not_false_eq_true, not_true_eq_false, fd_Table_hasPlaceFor_15, fd_Table_hasPlaceFor_16, t1]
    refine am_call (l2_holds hS (by have := hp.1; omega)) (fun o h2 q => ?_)
    obtain ⟨rfl, rfl⟩ := q
    simp only [am_wp, am_stp, am_en, am_as, am_pad, am_nth, am_set, am_st1, am_st2, am_kl, am_kill, am_mem, am_fv, am_tk, am_wt, am_bk, Option.toList, List.cons_append, List.nil_append, Nat.reduceAdd, Nat.reduceEqDiff, Nat.reduceLeDiff, reduceIte, Nat.reduceLT, or_self, true_or, or_true, if_true, if_false, and_self, and_true, true_and, not_false_eq_true, not_true_eq_false]
    cases e : tb_H (am_L h2 4) n p key with
    | true =>
      refine am_go [26] 5 ?_
      simp only [am_wp, am_stp, am_en, am_as, am_pad, am_nth, am_set, am_st1, am_st2, am_kl, am_kill, am_mem, am_fv, am_tk, am_wt, am_bk, Option.toList, List.cons_append, List.nil_append, Nat.reduceAdd, Nat.reduceEqDiff, Nat.reduceLeDiff, reduceIte, Nat.reduceLT, or_self, true_or, or_true, if_true, if_false, and_self, and_true, true_and, not_false_eq_true, not_true_eq_false, fd_Table_hasPlaceFor_19, fd_Table_hasPlaceFor_22, fd_Table_hasPlaceFor_23, fd_Table_hasPlaceFor_27, one0, o1]
      exact ⟨p, hp, by rw [e]; simp⟩
    | false =>
      refine am_go [22] 5 ?_
      simp only [am_wp, am_stp, am_en, am_as, am_pad, am_nth, am_set, am_st1, am_st2, am_kl, am_kill, am_mem, am_fv, am_tk, am_wt, am_bk, Option.toList, List.cons_append, List.nil_append, Nat.reduceAdd, Nat.reduceEqDiff, Nat.reduceLeDiff, reduceIte, Nat.reduceLT, or_self, true_or, or_true, if_true, if_false, and_self, and_true, true_and, not_false_eq_true, not_true_eq_false, fd_Table_hasPlaceFor_19, fd_Table_hasPlaceFor_26, fd_Table_hasPlaceFor_27, o0]
      exact ⟨p, hp, by rw [e]; simp [e1]⟩
