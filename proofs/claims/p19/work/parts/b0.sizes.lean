/-! THE REFERENCE: sizes -/
theorem l2_keyOctet {d j : Nat} {k : Int64} {h : am_H} (hj : j < 8) : am_Rt nm_pr (d + 1) mi_Mo_keyOctet [.long k, .int (nI j)] h (fun o h' => o = .inl (some (.int (mo_K k j))) ∧ h' = h) := by
  refine am_in' mt_Mo_keyOctet 4 rfl rfl rfl ?_
  refine am_go [19, 27] 13 ?_
  simp only [am_wp, am_stp, am_en, am_as, am_pad, am_nth, am_set, am_st1, am_st2, am_kl, am_kill, am_mem, am_fv, am_tk, am_wt, am_bk, Option.toList, List.cons_append, List.nil_append, Nat.reduceAdd, Nat.reduceEqDiff, Nat.reduceLeDiff, reduceIte, Nat.reduceLT, or_self, true_or, or_true, if_true, if_false, and_self, and_true, true_and, not_false_eq_true, not_true_eq_false, fd_Mo_keyOctet_0, fd_Mo_keyOctet_1, fd_Mo_keyOctet_3, fd_Mo_keyOctet_5, fd_Mo_keyOctet_6, fd_Mo_keyOctet_7, fd_Mo_keyOctet_8, fd_Mo_keyOctet_9, fd_Mo_keyOctet_12, fd_Mo_keyOctet_13, fd_Mo_keyOctet_14, fd_Mo_keyOctet_15, fd_Mo_keyOctet_16]
  have e : ((k.toUInt64 >>> ((56 - 8 * nI j).toInt64.toUInt64 &&& Int64.toUInt64 63)).toInt64 &&& 255).toInt32 = mo_O k j := rfl
  rw [e]
  unfold mo_K
  by_cases h0 : j = 0
  · have z : (nI j = 0) = True := eq_true (by rw [h0]; rfl)
    simp only [z, h0, am_wp, am_stp, am_en, am_as, am_pad, am_nth, am_set, am_st1, am_st2, am_kl, am_kill, am_mem, am_fv, am_tk, am_wt, am_bk, Option.toList, List.cons_append, List.nil_append, Nat.reduceAdd, Nat.reduceEqDiff, Nat.reduceLeDiff, reduceIte, Nat.reduceLT, or_self, true_or, or_true, if_true, if_false, and_self, and_true, true_and, not_false_eq_true, not_true_eq_false]
    refine am_go [] 5 ?_
    simp only [am_wp, am_stp, am_en, am_as, am_pad, am_nth, am_set, am_st1, am_st2, am_kl, am_kill, am_mem, am_fv, am_tk, am_wt, am_bk, Option.toList, List.cons_append, List.nil_append, Nat.reduceAdd, Nat.reduceEqDiff, Nat.reduceLeDiff, reduceIte, Nat.reduceLT, or_self, true_or, or_true, if_true, if_false, and_self, and_true, true_and, not_false_eq_true, not_true_eq_false, fd_Mo_keyOctet_19, fd_Mo_keyOctet_20, fd_Mo_keyOctet_23, fd_Mo_keyOctet_24, fd_Mo_keyOctet_28]
  · have z : (nI j = 0) = False := eq_false (nI_ne0 (by omega) (by omega))
    simp only [z, h0, am_wp, am_stp, am_en, am_as, am_pad, am_nth, am_set, am_st1, am_st2, am_kl, am_kill, am_mem, am_fv, am_tk, am_wt, am_bk, Option.toList, List.cons_append, List.nil_append, Nat.reduceAdd, Nat.reduceEqDiff, Nat.reduceLeDiff, reduceIte, Nat.reduceLT, or_self, true_or, or_true, if_true, if_false, and_self, and_true, true_and, not_false_eq_true, not_true_eq_false]
    refine am_go [] 2 ?_
    simp only [am_wp, am_stp, am_en, am_as, am_pad, am_nth, am_set, am_st1, am_st2, am_kl, am_kill, am_mem, am_fv, am_tk, am_wt, am_bk, Option.toList, List.cons_append, List.nil_append, Nat.reduceAdd, Nat.reduceEqDiff, Nat.reduceLeDiff, reduceIte, Nat.reduceLT, or_self, true_or, or_true, if_true, if_false, and_self, and_true, true_and, not_false_eq_true, not_true_eq_false, fd_Mo_keyOctet_27, fd_Mo_keyOctet_28]
theorem l2_Mo_shared_loop {d : Nat} {a b : Int64} {h : am_H} {Q : am_O → am_H → Prop} (hx : Q (.inl (some (.int (nI (kc a b))))) h) : ∀ (r c : Nat), r + c = 8 → kc_r a b r = kc a b →
    am_Ex nm_pr (d + 1) mt_Mo_shared (3, [.long a, .retAddr 0, .long b, .retAddr 0, .int (nI c)], [], h) Q
  | 0, c, hc, hk => by
    have e : c = 8 := by omega
    subst e
    have hlt : ¬ (nI 8 < 8) := by decide
    refine am_go [10] 6 ?_
    simp only [am_wp, am_stp, am_en, am_as, am_pad, am_nth, am_set, am_st1, am_st2, am_kl, am_kill, am_mem, am_fv, am_tk, am_wt, am_bk, Option.toList, List.cons_append, List.nil_append, Nat.reduceAdd, Nat.reduceEqDiff, Nat.reduceLeDiff, reduceIte, Nat.reduceLT, or_self, true_or, or_true, if_true, if_false, and_self, and_true, true_and, not_false_eq_true, not_true_eq_false, fd_Mo_shared_3, fd_Mo_shared_5, fd_Mo_shared_7, fd_Mo_shared_31, fd_Mo_shared_33, hlt]
    have : (8 : Nat) = kc a b := hk
    rw [← this] at hx
    exact hx
  | r + 1, c, hc, hk => by
    have hlt : nI c < 8 := nI_lt (b := 8) (by omega) (by decide)
    have e7 : 7 - r = c := by omega
    have hc8 : c < 8 := by omega
    have dec : Decidable (kq a b c) := kq_d a b c
    refine am_go [10, 31] 3 ?_
    simp only [am_wp, am_stp, am_en, am_as, am_pad, am_nth, am_set, am_st1, am_st2, am_kl, am_kill, am_mem, am_fv, am_tk, am_wt, am_bk, Option.toList, List.cons_append, List.nil_append, Nat.reduceAdd, Nat.reduceEqDiff, Nat.reduceLeDiff, reduceIte, Nat.reduceLT, or_self, true_or, or_true, if_true, if_false, and_self, and_true, true_and, not_false_eq_true, not_true_eq_false, fd_Mo_shared_3, fd_Mo_shared_5, fd_Mo_shared_7, hlt]
    refine am_go [] 3 ?_
    simp only [am_wp, am_stp, am_en, am_as, am_pad, am_nth, am_set, am_st1, am_st2, am_kl, am_kill, am_mem, am_fv, am_tk, am_wt, am_bk, Option.toList, List.cons_append, List.nil_append, Nat.reduceAdd, Nat.reduceEqDiff, Nat.reduceLeDiff, reduceIte, Nat.reduceLT, or_self, true_or, or_true, if_true, if_false, and_self, and_true, true_and, not_false_eq_true, not_true_eq_false, fd_Mo_shared_10, fd_Mo_shared_11, fd_Mo_shared_13]
    refine am_call (l2_keyOctet (d := d) hc8) (fun o h1 q => ?_)
    obtain ⟨rfl, rfl⟩ := q
    simp only [am_wp, am_stp, am_en, am_as, am_pad, am_nth, am_set, am_st1, am_st2, am_kl, am_kill, am_mem, am_fv, am_tk, am_wt, am_bk, Option.toList, List.cons_append, List.nil_append, Nat.reduceAdd, Nat.reduceEqDiff, Nat.reduceLeDiff, reduceIte, Nat.reduceLT, or_self, true_or, or_true, if_true, if_false, and_self, and_true, true_and, not_false_eq_true, not_true_eq_false]
    refine am_go [] 3 ?_
    simp only [am_wp, am_stp, am_en, am_as, am_pad, am_nth, am_set, am_st1, am_st2, am_kl, am_kill, am_mem, am_fv, am_tk, am_wt, am_bk, Option.toList, List.cons_append, List.nil_append, Nat.reduceAdd, Nat.reduceEqDiff, Nat.reduceLeDiff, reduceIte, Nat.reduceLT, or_self, true_or, or_true, if_true, if_false, and_self, and_true, true_and, not_false_eq_true, not_true_eq_false, fd_Mo_shared_16, fd_Mo_shared_17, fd_Mo_shared_19]
    refine am_call (l2_keyOctet (d := d) hc8) (fun o h2 q => ?_)
    obtain ⟨rfl, rfl⟩ := q
    simp only [am_wp, am_stp, am_en, am_as, am_pad, am_nth, am_set, am_st1, am_st2, am_kl, am_kill, am_mem, am_fv, am_tk, am_wt, am_bk, Option.toList, List.cons_append, List.nil_append, Nat.reduceAdd, Nat.reduceEqDiff, Nat.reduceLeDiff, reduceIte, Nat.reduceLT, or_self, true_or, or_true, if_true, if_false, and_self, and_true, true_and, not_false_eq_true, not_true_eq_false]
    refine am_go [25, 31] 1 ?_
    simp only [am_wp, am_stp, am_en, am_as, am_pad, am_nth, am_set, am_st1, am_st2, am_kl, am_kill, am_mem, am_fv, am_tk, am_wt, am_bk, Option.toList, List.cons_append, List.nil_append, Nat.reduceAdd, Nat.reduceEqDiff, Nat.reduceLeDiff, reduceIte, Nat.reduceLT, or_self, true_or, or_true, if_true, if_false, and_self, and_true, true_and, not_false_eq_true, not_true_eq_false, fd_Mo_shared_22]
    simp only [kq_K (a := a) (b := b) hc8]
    unfold kc_r at hk
    rw [e7] at hk
    by_cases e : kq a b c
    · rw [if_pos e] at hk
      simp only [e, am_wp, am_stp, am_en, am_as, am_pad, am_nth, am_set, am_st1, am_st2, am_kl, am_kill, am_mem, am_fv, am_tk, am_wt, am_bk, Option.toList, List.cons_append, List.nil_append, Nat.reduceAdd, Nat.reduceEqDiff, Nat.reduceLeDiff, reduceIte, Nat.reduceLT, or_self, true_or, or_true, if_true, if_false, and_self, and_true, true_and, not_false_eq_true, not_true_eq_false]
      refine am_go [3] 2 ?_
      simp only [am_wp, am_stp, am_en, am_as, am_pad, am_nth, am_set, am_st1, am_st2, am_kl, am_kill, am_mem, am_fv, am_tk, am_wt, am_bk, Option.toList, List.cons_append, List.nil_append, Nat.reduceAdd, Nat.reduceEqDiff, Nat.reduceLeDiff, reduceIte, Nat.reduceLT, or_self, true_or, or_true, if_true, if_false, and_self, and_true, true_and, not_false_eq_true, not_true_eq_false, fd_Mo_shared_25, fd_Mo_shared_28, nI_1]
      exact l2_Mo_shared_loop hx r (c + 1) (by omega) hk
    · rw [if_neg e] at hk
      simp only [e, am_wp, am_stp, am_en, am_as, am_pad, am_nth, am_set, am_st1, am_st2, am_kl, am_kill, am_mem, am_fv, am_tk, am_wt, am_bk, Option.toList, List.cons_append, List.nil_append, Nat.reduceAdd, Nat.reduceEqDiff, Nat.reduceLeDiff, reduceIte, Nat.reduceLT, or_self, true_or, or_true, if_true, if_false, and_self, and_true, true_and, not_false_eq_true, not_true_eq_false]
      refine am_go [] 2 ?_
      simp only [am_wp, am_stp, am_en, am_as, am_pad, am_nth, am_set, am_st1, am_st2, am_kl, am_kill, am_mem, am_fv, am_tk, am_wt, am_bk, Option.toList, List.cons_append, List.nil_append, Nat.reduceAdd, Nat.reduceEqDiff, Nat.reduceLeDiff, reduceIte, Nat.reduceLT, or_self, true_or, or_true, if_true, if_false, and_self, and_true, true_and, not_false_eq_true, not_true_eq_false, fd_Mo_shared_31, fd_Mo_shared_33]
      rw [← hk] at hx
      exact hx
theorem l2_Mo_shared {d : Nat} {a b : Int64} {h : am_H} : am_Rt nm_pr (d + 2) mi_Mo_shared [.long a, .long b] h (fun o h' => o = .inl (some (.int (nI (kc a b)))) ∧ h' = h) := by
  refine am_in' (d := d + 1) mt_Mo_shared 5 rfl rfl rfl ?_
  refine am_go [3] 2 ?_
  simp only [am_wp, am_stp, am_en, am_as, am_pad, am_nth, am_set, am_st1, am_st2, am_kl, am_kill, am_mem, am_fv, am_tk, am_wt, am_bk, Option.toList, List.cons_append, List.nil_append, Nat.reduceAdd, Nat.reduceEqDiff, Nat.reduceLeDiff, reduceIte, Nat.reduceLT, or_self, true_or, or_true, if_true, if_false, and_self, and_true, true_and, not_false_eq_true, not_true_eq_false, fd_Mo_shared_0, fd_Mo_shared_1]
  exact l2_Mo_shared_loop ⟨rfl, rfl⟩ 8 0 rfl rfl
theorem l2_vSize_loop {d : Nat} {v z : Int64} {h : am_H} {Q : am_O → am_H → Prop} : ∀ (f c : Nat) (x : Int64), f + c = 10 → 1 ≤ c → zN x = zN z / 128 ^ (c - 1) → Q (.inl (some (.int (nI (vz (zN z) f c))))) h →
    am_Ex nm_pr d mt_Mo_vSize (27, [.long v, .retAddr 0, .long x, .retAddr 0, .int (nI c)], [], h) Q
  | f, c, x, hc, h1, hz, hx => by
    have e1 : zN x / 128 = zN z / 128 ^ c := by
      rw [hz, Nat.div_div_eq_div_mul, ← Nat.pow_succ, show (c - 1).succ = c by omega]
    refine am_go [36, 47] 6 ?_
    simp only [am_wp, am_stp, am_en, am_as, am_pad, am_nth, am_set, am_st1, am_st2, am_kl, am_kill, am_mem, am_fv, am_tk, am_wt, am_bk, Option.toList, List.cons_append, List.nil_append, Nat.reduceAdd, Nat.reduceEqDiff, Nat.reduceLeDiff, reduceIte, Nat.reduceLT, or_self, true_or, or_true, if_true, if_false, and_self, and_true, true_and, not_false_eq_true, not_true_eq_false, fd_Mo_vSize_27, fd_Mo_vSize_28, fd_Mo_vSize_30, fd_Mo_vSize_31, fd_Mo_vSize_32, fd_Mo_vSize_33]
    simp only [lc_eq]
    simp only [vs_ref, e1]
    by_cases e : zN z / 128 ^ c = 0
    · have hv : vz (zN z) f c = c := by
        cases f with
        | zero => rfl
        | succ f => unfold vz; rw [if_pos e]
      rw [hv] at hx
      simp only [e, am_wp, am_stp, am_en, am_as, am_pad, am_nth, am_set, am_st1, am_st2, am_kl, am_kill, am_mem, am_fv, am_tk, am_wt, am_bk, Option.toList, List.cons_append, List.nil_append, Nat.reduceAdd, Nat.reduceEqDiff, Nat.reduceLeDiff, reduceIte, Nat.reduceLT, or_self, true_or, or_true, if_true, if_false, and_self, and_true, true_and, not_false_eq_true, not_true_eq_false]
      refine am_go [] 2 ?_
      simp only [am_wp, am_stp, am_en, am_as, am_pad, am_nth, am_set, am_st1, am_st2, am_kl, am_kill, am_mem, am_fv, am_tk, am_wt, am_bk, Option.toList, List.cons_append, List.nil_append, Nat.reduceAdd, Nat.reduceEqDiff, Nat.reduceLeDiff, reduceIte, Nat.reduceLT, or_self, true_or, or_true, if_true, if_false, and_self, and_true, true_and, not_false_eq_true, not_true_eq_false, fd_Mo_vSize_47, fd_Mo_vSize_49]
      exact hx
    · cases f with
      | zero =>
        have ec : c = 10 := by omega
        subst ec
        exact absurd (Nat.div_eq_of_lt (Nat.lt_of_lt_of_le (zN_lt z) (by decide))) e
      | succ f =>
        unfold vz at hx
        rw [if_neg e] at hx
        simp only [e, am_wp, am_stp, am_en, am_as, am_pad, am_nth, am_set, am_st1, am_st2, am_kl, am_kill, am_mem, am_fv, am_tk, am_wt, am_bk, Option.toList, List.cons_append, List.nil_append, Nat.reduceAdd, Nat.reduceEqDiff, Nat.reduceLeDiff, reduceIte, Nat.reduceLT, or_self, true_or, or_true, if_true, if_false, and_self, and_true, true_and, not_false_eq_true, not_true_eq_false]
        refine am_go [27] 6 ?_
        simp only [am_wp, am_stp, am_en, am_as, am_pad, am_nth, am_set, am_st1, am_st2, am_kl, am_kill, am_mem, am_fv, am_tk, am_wt, am_bk, Option.toList, List.cons_append, List.nil_append, Nat.reduceAdd, Nat.reduceEqDiff, Nat.reduceLeDiff, reduceIte, Nat.reduceLT, or_self, true_or, or_true, if_true, if_false, and_self, and_true, true_and, not_false_eq_true, not_true_eq_false, fd_Mo_vSize_36, fd_Mo_vSize_37, fd_Mo_vSize_39, fd_Mo_vSize_40, fd_Mo_vSize_41, fd_Mo_vSize_44, nI_1]
        refine l2_vSize_loop f (c + 1) _ (by omega) (by omega) ?_ hx
        have := vs_next (z := z) (x := x) (i := c - 1) hz
        rw [show c - 1 + 1 = c + 1 - 1 by omega] at this
        exact this
theorem l2_vSize {d : Nat} {v : Int64} {h : am_H} : am_Rt nm_pr (d + 1) mi_Mo_vSize [.long v] h (fun o h' => o = .inl (some (.int (nI (vs (zf v))))) ∧ h' = h) := by
  refine am_in' mt_Mo_vSize 5 rfl rfl rfl ?_
  have fin : ∀ x : Int64, x = zf v → am_Ex nm_pr d mt_Mo_vSize (23, [.long v, .retAddr 0, .retAddr 0, .retAddr 0, .retAddr 0], [.long x], h) (fun o h' => o = .inl (some (.int (nI (vs (zf v))))) ∧ h' = h) := by
    intro x hx
    subst hx
    refine am_go [27] 3 ?_
    simp only [am_wp, am_stp, am_en, am_as, am_pad, am_nth, am_set, am_st1, am_st2, am_kl, am_kill, am_mem, am_fv, am_tk, am_wt, am_bk, Option.toList, List.cons_append, List.nil_append, Nat.reduceAdd, Nat.reduceEqDiff, Nat.reduceLeDiff, reduceIte, Nat.reduceLT, or_self, true_or, or_true, if_true, if_false, and_self, and_true, true_and, not_false_eq_true, not_true_eq_false, fd_Mo_vSize_23, fd_Mo_vSize_24, fd_Mo_vSize_25]
    exact l2_vSize_loop (z := zf v) 9 1 (zf v) rfl (by omega) (by simp) ⟨rfl, rfl⟩
  refine am_go [6, 14] 4 ?_
  simp only [am_wp, am_stp, am_en, am_as, am_pad, am_nth, am_set, am_st1, am_st2, am_kl, am_kill, am_mem, am_fv, am_tk, am_wt, am_bk, Option.toList, List.cons_append, List.nil_append, Nat.reduceAdd, Nat.reduceEqDiff, Nat.reduceLeDiff, reduceIte, Nat.reduceLT, or_self, true_or, or_true, if_true, if_false, and_self, and_true, true_and, not_false_eq_true, not_true_eq_false, fd_Mo_vSize_0, fd_Mo_vSize_1, fd_Mo_vSize_2, fd_Mo_vSize_3]
  simp only [lc_lt]
  by_cases e : v < 0
  · have ez : zf v = -1 - v * 2 := by unfold zf; rw [if_pos e]
    simp only [e, am_wp, am_stp, am_en, am_as, am_pad, am_nth, am_set, am_st1, am_st2, am_kl, am_kill, am_mem, am_fv, am_tk, am_wt, am_bk, Option.toList, List.cons_append, List.nil_append, Nat.reduceAdd, Nat.reduceEqDiff, Nat.reduceLeDiff, reduceIte, Nat.reduceLT, or_self, true_or, or_true, if_true, if_false, and_self, and_true, true_and, not_false_eq_true, not_true_eq_false]
    refine am_go [23] 5 ?_
    simp only [am_wp, am_stp, am_en, am_as, am_pad, am_nth, am_set, am_st1, am_st2, am_kl, am_kill, am_mem, am_fv, am_tk, am_wt, am_bk, Option.toList, List.cons_append, List.nil_append, Nat.reduceAdd, Nat.reduceEqDiff, Nat.reduceLeDiff, reduceIte, Nat.reduceLT, or_self, true_or, or_true, if_true, if_false, and_self, and_true, true_and, not_false_eq_true, not_true_eq_false, fd_Mo_vSize_14, fd_Mo_vSize_17, fd_Mo_vSize_18, fd_Mo_vSize_21, fd_Mo_vSize_22]
    exact fin _ ez.symm
  · have ez : zf v = v * 2 := by unfold zf; rw [if_neg e]
    simp only [e, am_wp, am_stp, am_en, am_as, am_pad, am_nth, am_set, am_st1, am_st2, am_kl, am_kill, am_mem, am_fv, am_tk, am_wt, am_bk, Option.toList, List.cons_append, List.nil_append, Nat.reduceAdd, Nat.reduceEqDiff, Nat.reduceLeDiff, reduceIte, Nat.reduceLT, or_self, true_or, or_true, if_true, if_false, and_self, and_true, true_and, not_false_eq_true, not_true_eq_false]
    refine am_go [23] 4 ?_
    simp only [am_wp, am_stp, am_en, am_as, am_pad, am_nth, am_set, am_st1, am_st2, am_kl, am_kill, am_mem, am_fv, am_tk, am_wt, am_bk, Option.toList, List.cons_append, List.nil_append, Nat.reduceAdd, Nat.reduceEqDiff, Nat.reduceLeDiff, reduceIte, Nat.reduceLT, or_self, true_or, or_true, if_true, if_false, and_self, and_true, true_and, not_false_eq_true, not_true_eq_false, fd_Mo_vSize_6, fd_Mo_vSize_7, fd_Mo_vSize_10, fd_Mo_vSize_11]
    exact fin _ ez.symm
/-- three arrays hold a list -/
def tr_S (h : am_H) (a b c : Nat) (L : List ent) : Prop := ∀ i e, L[i]? = some e → am_L h a i = e.1 ∧ am_I h b i = e.2.1 ∧ am_L h c i = e.2.2
theorem tr_S.eq {h h' : am_H} {a b c : Nat} {L : List ent} (t : tr_S h a b c L) (e1 : am_L h' a = am_L h a) (e2 : am_I h' b = am_I h b) (e3 : am_L h' c = am_L h c) : tr_S h' a b c L := fun i e he => by
  rw [e1, e2, e3]
  exact t i e he
theorem tr_S.fi {S : List Nat} {h h' : am_H} {a b c : Nat} {L : List ent} (t : tr_S h a b c L) (f : am_fi S h h') (hS : a ∉ S ∧ b ∉ S ∧ c ∉ S) : tr_S h' a b c L := t.eq (f.2.2.2.2.2.2.2 a hS.1) (f.2.2.2.2.2.2.1 b hS.2.1) (f.2.2.2.2.2.2.2 c hS.2.2)
/-- the list that the reference works on -/
def ky_S (h : am_H) (L : List ent) : Prop := mo_Sk h ∧ am_I h 72 31 = nI L.length ∧ L.length ≤ 40000 ∧ tr_S h 92 93 94 L
theorem mo_ky {h : am_H} (c : mo_Sk h) : am_kd h 72 = 12 ∧ am_R h 72 32 = 92 ∧ am_R h 72 33 = 93 ∧ am_R h 72 34 = 94 ∧ am_kd h 92 = 101 ∧ am_ln h 92 = 45000 ∧ am_kd h 93 = 100 ∧ am_ln h 93 = 45000 ∧ am_kd h 94 = 101 ∧ am_ln h 94 = 45000 := by
  obtain ⟨c1, rr, aa⟩ := c
  exact ⟨c1, (rr 32).trans rfl, (rr 33).trans rfl, (rr 34).trans rfl, (aa 19 _ rfl).1, (aa 19 _ rfl).2, (aa 20 _ rfl).1, (aa 20 _ rfl).2, (aa 21 _ rfl).1, (aa 21 _ rfl).2⟩
/-- what is shared: nothing (first), or with the key before -/
def sp_s (h : am_H) (i : Nat) (f : Int32) (e : ent) (s : Nat) : Prop := (f = 1 ∧ s = 0) ∨ (f = 0 ∧ 0 < i ∧ s = kc (am_L h 92 (i - 1)) e.1)
theorem sp_s.le {h : am_H} {i s : Nat} {f : Int32} {e : ent} (c : sp_s h i f e s) : s ≤ 8 := by
  rcases c with ⟨-, c⟩ | ⟨-, -, c⟩
  · omega
  · rw [c]; exact (kc_r_le _ _ 8 (Nat.le_refl _)).2
theorem l2_sizeOf_m {d i s : Nat} {f : Int32} {e : ent} {h : am_H} (hS : mo_Sk h) (hi : i < 45000) (h1 : am_L h 92 i = e.1) (h2 : am_I h 93 i = e.2.1) (h3 : am_L h 94 i = e.2.2) (hs : sp_s h i f e s) : am_Rt nm_pr (d + 3) mi_Mo_sizeOf [.ref 72, .int (nI i), .int f] h (fun o h' => o = .inl (some (.int (nI (es s e)))) ∧ h' = h) := by
  obtain ⟨k72, r32, r33, r34, k92, n92, k93, n93, k94, n94⟩ := mo_ky hS
  have i1 := am_inb (c := i) (N := 45000) hi (by omega)
  have q1 : (nI i).toNatClampNeg = i := nI_clamp (by omega)
  have hs8 := hs.le
  refine am_in' (d := d + 2) mt_Mo_sizeOf 4 rfl rfl rfl ?_
  have rest : am_Ex nm_pr (d + 2) mt_Mo_sizeOf (25, [.ref 72, .int (nI i), .int f, .retAddr 0], [.int (nI s)], h) (fun o h' => o = .inl (some (.int (nI (es s e)))) ∧ h' = h) := by
    refine am_go [42, 46] 12 ?_
    simp only [am_wp, am_stp, am_en, am_as, am_pad, am_nth, am_set, am_st1, am_st2, am_kl, am_kill, am_mem, am_fv, am_tk, am_wt, am_bk, Option.toList, List.cons_append, List.nil_append, Nat.reduceAdd, Nat.reduceEqDiff, Nat.reduceLeDiff, reduceIte, Nat.reduceLT, or_self, true_or, or_true, if_true, if_false, and_self, and_true, true_and, not_false_eq_true, not_true_eq_false, fd_Mo_sizeOf_25, fd_Mo_sizeOf_26, fd_Mo_sizeOf_28, fd_Mo_sizeOf_29, fd_Mo_sizeOf_30, fd_Mo_sizeOf_31, fd_Mo_sizeOf_32, fd_Mo_sizeOf_33, fd_Mo_sizeOf_36, fd_Mo_sizeOf_37, fd_Mo_sizeOf_38, fd_Mo_sizeOf_39, es_a hs8, k72, r33, k93, n93, i1, q1, h2]
    unfold es
    by_cases q : e.2.1 = 2
    · simp only [q, am_wp, am_stp, am_en, am_as, am_pad, am_nth, am_set, am_st1, am_st2, am_kl, am_kill, am_mem, am_fv, am_tk, am_wt, am_bk, Option.toList, List.cons_append, List.nil_append, Nat.reduceAdd, Nat.reduceEqDiff, Nat.reduceLeDiff, reduceIte, Nat.reduceLT, or_self, true_or, or_true, if_true, if_false, and_self, and_true, true_and, not_false_eq_true, not_true_eq_false]
      refine am_go [] 4 ?_
      simp only [am_wp, am_stp, am_en, am_as, am_pad, am_nth, am_set, am_st1, am_st2, am_kl, am_kill, am_mem, am_fv, am_tk, am_wt, am_bk, Option.toList, List.cons_append, List.nil_append, Nat.reduceAdd, Nat.reduceEqDiff, Nat.reduceLeDiff, reduceIte, Nat.reduceLT, or_self, true_or, or_true, if_true, if_false, and_self, and_true, true_and, not_false_eq_true, not_true_eq_false, fd_Mo_sizeOf_42, fd_Mo_sizeOf_43, fd_Mo_sizeOf_55, fd_Mo_sizeOf_56, Int32.add_zero]
      rfl
    · simp only [q, am_wp, am_stp, am_en, am_as, am_pad, am_nth, am_set, am_st1, am_st2, am_kl, am_kill, am_mem, am_fv, am_tk, am_wt, am_bk, Option.toList, List.cons_append, List.nil_append, Nat.reduceAdd, Nat.reduceEqDiff, Nat.reduceLeDiff, reduceIte, Nat.reduceLT, or_self, true_or, or_true, if_true, if_false, and_self, and_true, true_and, not_false_eq_true, not_true_eq_false]
      refine am_go [] 5 ?_
      simp only [am_wp, am_stp, am_en, am_as, am_pad, am_nth, am_set, am_st1, am_st2, am_kl, am_kill, am_mem, am_fv, am_tk, am_wt, am_bk, Option.toList, List.cons_append, List.nil_append, Nat.reduceAdd, Nat.reduceEqDiff, Nat.reduceLeDiff, reduceIte, Nat.reduceLT, or_self, true_or, or_true, if_true, if_false, and_self, and_true, true_and, not_false_eq_true, not_true_eq_false, fd_Mo_sizeOf_46, fd_Mo_sizeOf_47, fd_Mo_sizeOf_50, fd_Mo_sizeOf_51, fd_Mo_sizeOf_52, k72, r34, k94, n94, i1, q1, h3]
      refine am_call (l2_vSize (d := d + 1)) (fun o h4 z => ?_)
      obtain ⟨rfl, rfl⟩ := z
      simp only [am_wp, am_stp, am_en, am_as, am_pad, am_nth, am_set, am_st1, am_st2, am_kl, am_kill, am_mem, am_fv, am_tk, am_wt, am_bk, Option.toList, List.cons_append, List.nil_append, Nat.reduceAdd, Nat.reduceEqDiff, Nat.reduceLeDiff, reduceIte, Nat.reduceLT, or_self, true_or, or_true, if_true, if_false, and_self, and_true, true_and, not_false_eq_true, not_true_eq_false]
      refine am_go [] 2 ?_
      simp only [am_wp, am_stp, am_en, am_as, am_pad, am_nth, am_set, am_st1, am_st2, am_kl, am_kill, am_mem, am_fv, am_tk, am_wt, am_bk, Option.toList, List.cons_append, List.nil_append, Nat.reduceAdd, Nat.reduceEqDiff, Nat.reduceLeDiff, reduceIte, Nat.reduceLT, or_self, true_or, or_true, if_true, if_false, and_self, and_true, true_and, not_false_eq_true, not_true_eq_false, fd_Mo_sizeOf_55, fd_Mo_sizeOf_56, nI_add]
  rcases hs with ⟨rfl, rfl⟩ | ⟨rfl, h0, hs⟩
  · have one0 : ¬ (1 : Int32) = 0 := by decide
    refine am_go [8, 25] 4 ?_
    simp only [am_wp, am_stp, am_en, am_as, am_pad, am_nth, am_set, am_st1, am_st2, am_kl, am_kill, am_mem, am_fv, am_tk, am_wt, am_bk, Option.toList, List.cons_append, List.nil_append, Nat.reduceAdd, Nat.reduceEqDiff, Nat.reduceLeDiff, reduceIte, Nat.reduceLT, or_self, true_or, or_true, if_true, if_false, and_self, and_true, true_and, not_false_eq_true, not_true_eq_false, fd_Mo_sizeOf_0, fd_Mo_sizeOf_1, fd_Mo_sizeOf_4, fd_Mo_sizeOf_5, one0]
    exact rest
  · obtain ⟨j, rfl⟩ : ∃ j, i = j + 1 := ⟨i - 1, by omega⟩
    have em : nI (j + 1) - 1 = nI j := nI_pred j
    have i2 := am_inb (c := j) (N := 45000) (by omega) (by omega)
    have q2 : (nI j).toNatClampNeg = j := nI_clamp (by omega)
    rw [Nat.add_sub_cancel] at hs
    refine am_go [4, 8] 2 ?_
    simp only [am_wp, am_stp, am_en, am_as, am_pad, am_nth, am_set, am_st1, am_st2, am_kl, am_kill, am_mem, am_fv, am_tk, am_wt, am_bk, Option.toList, List.cons_append, List.nil_append, Nat.reduceAdd, Nat.reduceEqDiff, Nat.reduceLeDiff, reduceIte, Nat.reduceLT, or_self, true_or, or_true, if_true, if_false, and_self, and_true, true_and, not_false_eq_true, not_true_eq_false, fd_Mo_sizeOf_0, fd_Mo_sizeOf_1]
    refine am_go [] 6 ?_
    simp only [am_wp, am_stp, am_en, am_as, am_pad, am_nth, am_set, am_st1, am_st2, am_kl, am_kill, am_mem, am_fv, am_tk, am_wt, am_bk, Option.toList, List.cons_append, List.nil_append, Nat.reduceAdd, Nat.reduceEqDiff, Nat.reduceLeDiff, reduceIte, Nat.reduceLT, or_self, true_or, or_true, if_true, if_false, and_self, and_true, true_and, not_false_eq_true, not_true_eq_false, fd_Mo_sizeOf_8, fd_Mo_sizeOf_9, fd_Mo_sizeOf_12, fd_Mo_sizeOf_13, fd_Mo_sizeOf_14, fd_Mo_sizeOf_15, k72, r32, k92, n92, em, i2, q2]
    refine am_go [] 5 ?_
    have i3 : (nI (j + 1) < 0 ∨ 44999 ≤ j) = False := eq_false (fun q => by rcases q with q | q; exact nI_pos (by omega) q; omega)
    simp only [am_wp, am_stp, am_en, am_as, am_pad, am_nth, am_set, am_st1, am_st2, am_kl, am_kill, am_mem, am_fv, am_tk, am_wt, am_bk, Option.toList, List.cons_append, List.nil_append, Nat.reduceAdd, Nat.reduceEqDiff, Nat.reduceLeDiff, reduceIte, Nat.reduceLT, or_self, true_or, or_true, if_true, if_false, and_self, and_true, true_and, not_false_eq_true, not_true_eq_false, fd_Mo_sizeOf_16, fd_Mo_sizeOf_17, fd_Mo_sizeOf_20, fd_Mo_sizeOf_21, fd_Mo_sizeOf_22, k72, r32, k92, n92, q1, i3, h1]
    refine am_call (l2_Mo_shared (d := d)) (fun o h4 z => ?_)
    obtain ⟨rfl, rfl⟩ := z
    rw [← hs]
    simp only [am_wp, am_stp, am_en, am_as, am_pad, am_nth, am_set, am_st1, am_st2, am_kl, am_kill, am_mem, am_fv, am_tk, am_wt, am_bk, Option.toList, List.cons_append, List.nil_append, Nat.reduceAdd, Nat.reduceEqDiff, Nat.reduceLeDiff, reduceIte, Nat.reduceLT, or_self, true_or, or_true, if_true, if_false, and_self, and_true, true_and, not_false_eq_true, not_true_eq_false]
    exact rest
/-- the last key of a list -/
theorem lk_last : ∀ {L : List ent} {q : Int64}, lk none L = some q → ∃ e, L[L.length - 1]? = some e ∧ e.1 = q := by
  intro L q h
  have go : ∀ (L : List ent) (p : Option Int64), L ≠ [] → lk p L = (L[L.length - 1]?).map (·.1) := by
    intro L
    induction L with
    | nil => intro p h; exact absurd rfl h
    | cons x L ih =>
      intro p _
      cases L with
      | nil => rfl
      | cons y L =>
        have := ih (some x.1) (by simp)
        show lk (some x.1) (y :: L) = _
        rw [this]
        simp
  cases L with
  | nil => cases h
  | cons x L =>
    rw [go _ none (by simp)] at h
    cases hq : (x :: L)[(x :: L).length - 1]? with
    | none => rw [hq] at h; cases h
    | some e =>
      rw [hq] at h
      exact ⟨e, rfl, Option.some.inj h⟩
theorem lk_none {L : List ent} : lk none L = none ↔ L = [] := by
  constructor
  · intro h
    cases L with
    | nil => rfl
    | cons x L =>
      have : ∀ (L : List ent) (k : Int64), lk (some k) L ≠ none := by
        intro L
        induction L with
        | nil => intro k h; cases h
        | cons y L ih => intro k; exact ih y.1
      exact absurd h (this L x.1)
  · intro h; subst h; rfl
/-- the key before, as the reference finds it -/
theorem sp_of {h : am_H} {pre rest L : List ent} {e : ent} (T : tr_S h 92 93 94 L) (hL : pre ++ e :: rest = L) (hne : pre ≠ []) : sp_s h pre.length 0 e (sh1 (lk none pre) e.1) := by
  refine Or.inr ⟨rfl, List.length_pos_iff.mpr hne, ?_⟩
  cases hq : lk none pre with
  | none => exact absurd (lk_none.mp hq) hne
  | some q =>
    obtain ⟨x, x1, x2⟩ := lk_last hq
    have hlt : pre.length - 1 < pre.length := by have := List.length_pos_iff.mpr hne; omega
    have : L[pre.length - 1]? = some x := by rw [← hL, List.getElem?_append_left hlt]; exact x1
    rw [(T _ _ this).1, x2]
    rfl
theorem l2_pagesFor_loop {d N : Nat} {L : List ent} {h : am_H} (K : ky_S h L) : ∀ (rest pre : List ent) (n u : Nat), pre ++ rest = L → n ≤ pre.length → (pre = [] → u = 121) → (pre ≠ [] → u ≤ 120) → N = n + np u (lk none pre) rest →
    am_Ex nm_pr (d + 3) mt_Mo_pagesFor (7, [.ref 72, .int (nI n), .int (nI u), .int (nI pre.length)], [], h) (fun o h' => o = .inl (some (.int (nI N))) ∧ h' = h)
  | [], pre, n, u, hL, hn, h0, h1, hN => by
    obtain ⟨hS, i31, hl, T⟩ := id K
    have e : pre = L := by simpa using hL
    subst e
    have l1 : ¬ nI pre.length < nI pre.length := nI_nlt (Nat.le_refl _) (by omega)
    refine am_go [15] 6 ?_
    simp only [am_wp, am_stp, am_en, am_as, am_pad, am_nth, am_set, am_st1, am_st2, am_kl, am_kill, am_mem, am_fv, am_tk, am_wt, am_bk, Option.toList, List.cons_append, List.nil_append, Nat.reduceAdd, Nat.reduceEqDiff, Nat.reduceLeDiff, reduceIte, Nat.reduceLT, or_self, true_or, or_true, if_true, if_false, and_self, and_true, true_and, not_false_eq_true, not_true_eq_false, fd_Mo_pagesFor_7, fd_Mo_pagesFor_8, fd_Mo_pagesFor_9, fd_Mo_pagesFor_12, fd_Mo_pagesFor_66, fd_Mo_pagesFor_67, hS.1, i31, l1]
    rw [hN]
    rfl
  | e :: rest, pre, n, u, hL, hn, h0, h1, hN => by
    obtain ⟨hS, i31, hl, T⟩ := id K
    have hlen : pre.length < L.length := by rw [← hL]; simp
    have hget : L[pre.length]? = some e := by rw [← hL]; simp
    obtain ⟨t1, t2, t3⟩ := T _ _ hget
    have l1 : nI pre.length < nI L.length := nI_lt hlen (by omega)
    have hL' : (pre ++ [e]) ++ rest = L := by rw [← hL]; simp
    have hlen' : (pre ++ [e]).length = pre.length + 1 := by simp
    have h20 := es_le 0 e
    have next : ∀ (n' u' : Nat), n' ≤ pre.length + 1 → u' ≤ 120 → N = n' + np u' (some e.1) rest → am_Ex nm_pr (d + 3) mt_Mo_pagesFor (60, [.ref 72, .int (nI n'), .int (nI u'), .int (nI pre.length)], [], h) (fun o h' => o = .inl (some (.int (nI N))) ∧ h' = h) := by
      intro n' u' a1 a2 a3
      refine am_go [7] 2 ?_
      simp only [am_wp, am_stp, am_en, am_as, am_pad, am_nth, am_set, am_st1, am_st2, am_kl, am_kill, am_mem, am_fv, am_tk, am_wt, am_bk, Option.toList, List.cons_append, List.nil_append, Nat.reduceAdd, Nat.reduceEqDiff, Nat.reduceLeDiff, reduceIte, Nat.reduceLT, or_self, true_or, or_true, if_true, if_false, and_self, and_true, true_and, not_false_eq_true, not_true_eq_false, fd_Mo_pagesFor_60, fd_Mo_pagesFor_63, nI_1]
      have := l2_pagesFor_loop (d := d) (N := N) K rest (pre ++ [e]) n' u' hL' (by rw [hlen']; exact a1) (fun z => by simp at z) (fun _ => a2) (by rw [lk_snoc]; exact a3)
      rw [hlen'] at this
      exact this
    have fresh : ∀ w : Nat, N = n + (np (5 + es 0 e) (some e.1) rest + 1) → am_Ex nm_pr (d + 3) mt_Mo_pagesFor (34, [.ref 72, .int (nI n), .int (nI w), .int (nI pre.length)], [], h) (fun o h' => o = .inl (some (.int (nI N))) ∧ h' = h) := by
      intro w hN'
      refine am_go [] 8 ?_
      simp only [am_wp, am_stp, am_en, am_as, am_pad, am_nth, am_set, am_st1, am_st2, am_kl, am_kill, am_mem, am_fv, am_tk, am_wt, am_bk, Option.toList, List.cons_append, List.nil_append, Nat.reduceAdd, Nat.reduceEqDiff, Nat.reduceLeDiff, reduceIte, Nat.reduceLT, or_self, true_or, or_true, if_true, if_false, and_self, and_true, true_and, not_false_eq_true, not_true_eq_false, fd_Mo_pagesFor_34, fd_Mo_pagesFor_37, fd_Mo_pagesFor_38, fd_Mo_pagesFor_39, fd_Mo_pagesFor_40, fd_Mo_pagesFor_41, fd_Mo_pagesFor_42, fd_Mo_pagesFor_43, nI_1, hS.1]
      refine am_call (l2_sizeOf_m (d := d) (s := 0) hS (by omega) t1 t2 t3 (Or.inl ⟨rfl, rfl⟩)) (fun o h2 z => ?_)
      obtain ⟨rfl, rfl⟩ := z
      have e5 : (5 : Int32) + nI (es 0 e) = nI (5 + es 0 e) := nI_add 5 _
      simp only [am_wp, am_stp, am_en, am_as, am_pad, am_nth, am_set, am_st1, am_st2, am_kl, am_kill, am_mem, am_fv, am_tk, am_wt, am_bk, Option.toList, List.cons_append, List.nil_append, Nat.reduceAdd, Nat.reduceEqDiff, Nat.reduceLeDiff, reduceIte, Nat.reduceLT, or_self, true_or, or_true, if_true, if_false, and_self, and_true, true_and, not_false_eq_true, not_true_eq_false]
      refine am_go [60] 3 ?_
      simp only [am_wp, am_stp, am_en, am_as, am_pad, am_nth, am_set, am_st1, am_st2, am_kl, am_kill, am_mem, am_fv, am_tk, am_wt, am_bk, Option.toList, List.cons_append, List.nil_append, Nat.reduceAdd, Nat.reduceEqDiff, Nat.reduceLeDiff, reduceIte, Nat.reduceLT, or_self, true_or, or_true, if_true, if_false, and_self, and_true, true_and, not_false_eq_true, not_true_eq_false, fd_Mo_pagesFor_46, fd_Mo_pagesFor_47, fd_Mo_pagesFor_48, e5]
      exact next (n + 1) (5 + es 0 e) (by omega) (by omega) (by omega)
    refine am_go [15, 66] 4 ?_
    simp only [am_wp, am_stp, am_en, am_as, am_pad, am_nth, am_set, am_st1, am_st2, am_kl, am_kill, am_mem, am_fv, am_tk, am_wt, am_bk, Option.toList, List.cons_append, List.nil_append, Nat.reduceAdd, Nat.reduceEqDiff, Nat.reduceLeDiff, reduceIte, Nat.reduceLT, or_self, true_or, or_true, if_true, if_false, and_self, and_true, true_and, not_false_eq_true, not_true_eq_false, fd_Mo_pagesFor_7, fd_Mo_pagesFor_8, fd_Mo_pagesFor_9, fd_Mo_pagesFor_12, hS.1, i31, l1]
    by_cases hp : pre = []
    · have eu := h0 hp
      subst eu
      have l2 : (120 : Int32) < nI 121 := by decide
      refine am_go [21, 34] 3 ?_
      simp only [am_wp, am_stp, am_en, am_as, am_pad, am_nth, am_set, am_st1, am_st2, am_kl, am_kill, am_mem, am_fv, am_tk, am_wt, am_bk, Option.toList, List.cons_append, List.nil_append, Nat.reduceAdd, Nat.reduceEqDiff, Nat.reduceLeDiff, reduceIte, Nat.reduceLT, or_self, true_or, or_true, if_true, if_false, and_self, and_true, true_and, not_false_eq_true, not_true_eq_false, fd_Mo_pagesFor_15, fd_Mo_pagesFor_16, fd_Mo_pagesFor_18, l2]
      rw [np_121] at hN
      exact fresh 121 hN
    · have hu := h1 hp
      have l2 : ¬ (120 : Int32) < nI u := nI_nlt (a := 120) hu (by decide)
      have hs := sp_of T hL hp
      have hE := es_le (sh1 (lk none pre) e.1) e
      refine am_go [21, 34] 3 ?_
      simp only [am_wp, am_stp, am_en, am_as, am_pad, am_nth, am_set, am_st1, am_st2, am_kl, am_kill, am_mem, am_fv, am_tk, am_wt, am_bk, Option.toList, List.cons_append, List.nil_append, Nat.reduceAdd, Nat.reduceEqDiff, Nat.reduceLeDiff, reduceIte, Nat.reduceLT, or_self, true_or, or_true, if_true, if_false, and_self, and_true, true_and, not_false_eq_true, not_true_eq_false, fd_Mo_pagesFor_15, fd_Mo_pagesFor_16, fd_Mo_pagesFor_18, l2]
      refine am_go [] 5 ?_
      simp only [am_wp, am_stp, am_en, am_as, am_pad, am_nth, am_set, am_st1, am_st2, am_kl, am_kill, am_mem, am_fv, am_tk, am_wt, am_bk, Option.toList, List.cons_append, List.nil_append, Nat.reduceAdd, Nat.reduceEqDiff, Nat.reduceLeDiff, reduceIte, Nat.reduceLT, or_self, true_or, or_true, if_true, if_false, and_self, and_true, true_and, not_false_eq_true, not_true_eq_false, fd_Mo_pagesFor_21, fd_Mo_pagesFor_22, fd_Mo_pagesFor_23, fd_Mo_pagesFor_24, fd_Mo_pagesFor_25, hS.1]
      refine am_call (l2_sizeOf_m (d := d) hS (by omega) t1 t2 t3 hs) (fun o h2 z => ?_)
      obtain ⟨rfl, rfl⟩ := z
      simp only [am_wp, am_stp, am_en, am_as, am_pad, am_nth, am_set, am_st1, am_st2, am_kl, am_kill, am_mem, am_fv, am_tk, am_wt, am_bk, Option.toList, List.cons_append, List.nil_append, Nat.reduceAdd, Nat.reduceEqDiff, Nat.reduceLeDiff, reduceIte, Nat.reduceLT, or_self, true_or, or_true, if_true, if_false, and_self, and_true, true_and, not_false_eq_true, not_true_eq_false]
      refine am_go [34, 51] 3 ?_
      simp only [am_wp, am_stp, am_en, am_as, am_pad, am_nth, am_set, am_st1, am_st2, am_kl, am_kill, am_mem, am_fv, am_tk, am_wt, am_bk, Option.toList, List.cons_append, List.nil_append, Nat.reduceAdd, Nat.reduceEqDiff, Nat.reduceLeDiff, reduceIte, Nat.reduceLT, or_self, true_or, or_true, if_true, if_false, and_self, and_true, true_and, not_false_eq_true, not_true_eq_false, fd_Mo_pagesFor_28, fd_Mo_pagesFor_29, fd_Mo_pagesFor_31, nI_add]
      by_cases hf : u + es (sh1 (lk none pre) e.1) e ≤ 120
      · have l3 : ¬ (120 : Int32) < nI (u + es (sh1 (lk none pre) e.1) e) := nI_nlt (a := 120) hf (by decide)
        rw [np, if_pos hf] at hN
        simp only [l3, am_wp, am_stp, am_en, am_as, am_pad, am_nth, am_set, am_st1, am_st2, am_kl, am_kill, am_mem, am_fv, am_tk, am_wt, am_bk, Option.toList, List.cons_append, List.nil_append, Nat.reduceAdd, Nat.reduceEqDiff, Nat.reduceLeDiff, reduceIte, Nat.reduceLT, or_self, true_or, or_true, if_true, if_false, and_self, and_true, true_and, not_false_eq_true, not_true_eq_false]
        refine am_go [] 5 ?_
        simp only [am_wp, am_stp, am_en, am_as, am_pad, am_nth, am_set, am_st1, am_st2, am_kl, am_kill, am_mem, am_fv, am_tk, am_wt, am_bk, Option.toList, List.cons_append, List.nil_append, Nat.reduceAdd, Nat.reduceEqDiff, Nat.reduceLeDiff, reduceIte, Nat.reduceLT, or_self, true_or, or_true, if_true, if_false, and_self, and_true, true_and, not_false_eq_true, not_true_eq_false, fd_Mo_pagesFor_51, fd_Mo_pagesFor_52, fd_Mo_pagesFor_53, fd_Mo_pagesFor_54, fd_Mo_pagesFor_55, hS.1]
        refine am_call (l2_sizeOf_m (d := d) hS (by omega) t1 t2 t3 hs) (fun o h2 z => ?_)
        obtain ⟨rfl, rfl⟩ := z
        simp only [am_wp, am_stp, am_en, am_as, am_pad, am_nth, am_set, am_st1, am_st2, am_kl, am_kill, am_mem, am_fv, am_tk, am_wt, am_bk, Option.toList, List.cons_append, List.nil_append, Nat.reduceAdd, Nat.reduceEqDiff, Nat.reduceLeDiff, reduceIte, Nat.reduceLT, or_self, true_or, or_true, if_true, if_false, and_self, and_true, true_and, not_false_eq_true, not_true_eq_false]
        refine am_go [60] 2 ?_
        simp only [am_wp, am_stp, am_en, am_as, am_pad, am_nth, am_set, am_st1, am_st2, am_kl, am_kill, am_mem, am_fv, am_tk, am_wt, am_bk, Option.toList, List.cons_append, List.nil_append, Nat.reduceAdd, Nat.reduceEqDiff, Nat.reduceLeDiff, reduceIte, Nat.reduceLT, or_self, true_or, or_true, if_true, if_false, and_self, and_true, true_and, not_false_eq_true, not_true_eq_false, fd_Mo_pagesFor_58, fd_Mo_pagesFor_59, nI_add]
        exact next n _ (by omega) hf hN
      · have l3 : (120 : Int32) < nI (u + es (sh1 (lk none pre) e.1) e) := nI_lt (a := 120) (by omega) (by omega)
        rw [np, if_neg hf] at hN
        simp only [l3, am_wp, am_stp, am_en, am_as, am_pad, am_nth, am_set, am_st1, am_st2, am_kl, am_kill, am_mem, am_fv, am_tk, am_wt, am_bk, Option.toList, List.cons_append, List.nil_append, Nat.reduceAdd, Nat.reduceEqDiff, Nat.reduceLeDiff, reduceIte, Nat.reduceLT, or_self, true_or, or_true, if_true, if_false, and_self, and_true, true_and, not_false_eq_true, not_true_eq_false]
        exact fresh u hN
theorem l2_pagesFor {d : Nat} {L : List ent} {h : am_H} (K : ky_S h L) : am_Rt nm_pr (d + 4) mi_Mo_pagesFor [.ref 72] h (fun o h' => o = .inl (some (.int (nI (npg L)))) ∧ h' = h) := by
  refine am_in' (d := d + 3) mt_Mo_pagesFor 4 rfl rfl rfl ?_
  refine am_go [7] 6 ?_
  simp only [am_wp, am_stp, am_en, am_as, am_pad, am_nth, am_set, am_st1, am_st2, am_kl, am_kill, am_mem, am_fv, am_tk, am_wt, am_bk, Option.toList, List.cons_append, List.nil_append, Nat.reduceAdd, Nat.reduceEqDiff, Nat.reduceLeDiff, reduceIte, Nat.reduceLT, or_self, true_or, or_true, if_true, if_false, and_self, and_true, true_and, not_false_eq_true, not_true_eq_false, fd_Mo_pagesFor_0, fd_Mo_pagesFor_1, fd_Mo_pagesFor_2, fd_Mo_pagesFor_4, fd_Mo_pagesFor_5, fd_Mo_pagesFor_6]
  exact l2_pagesFor_loop (d := d) (N := npg L) K L [] 0 121 (by simp) (Nat.le_refl _) (fun _ => rfl) (fun z => absurd rfl z) (by unfold npg; simp [lk])
theorem npg_le {L : List ent} : npg L ≤ L.length := by
  have : ∀ (L : List ent) (u : Nat) (p : Option Int64), np u p L ≤ L.length := by
    intro L
    induction L with
    | nil => intro u p; exact Nat.le_refl _
    | cons e L ih =>
      intro u p
      rw [np]
      have a := ih (u + es (sh1 p e.1) e) (some e.1)
      have b := ih (5 + es 0 e) (some e.1)
      simp only [List.length_cons]
      split <;> omega
  exact this L 121 none
