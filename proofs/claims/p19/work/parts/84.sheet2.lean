-- needs: 83.entries 04.fd
/-! THE SHEET: entries -/

theorem kq_cl {a b : Int64} {j : Nat} (hj : j < 8) : ((((a ^^^ b).toUInt64 >>> ((56 - 8 * nI j).toInt64.toUInt64 &&& Int64.toUInt64 63)).toInt64 &&& 255) = 0) = kq a b j := kq_class hj
theorem vs_cl {z : Int64} {i : Nat} (hi : i < 10) : ((z.toUInt64 >>> ((7 * nI i).toInt64.toUInt64 &&& Int64.toUInt64 63)).toInt64 = 0) = (zN z / 128 ^ i = 0) := vs_class hi
/-- the sheet: u octets used, c entries, p the last key -/
def sh_U (h : am_H) (u c : Nat) (p : Option Int64) : Prop := cl_Sh h ∧ am_I h 14 1 = nI u ∧ am_I h 14 2 = nI c ∧ c < 200 ∧ u ≤ 120 ∧ match p with
  | none => c = 0
  | some k => 0 < c ∧ am_L h 14 4 = k
theorem l2_shared_loop {d : Nat} {key k : Int64} {h : am_H} {Q : am_O → am_H → Prop} (k1 : am_kd h 14 = 8) (hp : (0 : Int32) < am_I h 14 2) (hx : Q (.inl (some (.int (nI (kc k key))))) h) : ∀ (r c : Nat), r + c = 8 → kc_r k key r = kc k key →
    am_Ex nm_pr d mt_Sheet_shared (10, [.ref 14, .long key, .retAddr 0, .long (key ^^^ k), .retAddr 0, .int (nI c)], [], h) Q
  | 0, c, hc, hk => by
    have e : c = 8 := by omega
    subst e
    have hlt : ¬ (nI 8 < 8) := by decide
    refine am_go [24] 8 ?_
    simp only [am_wp, am_stp, am_en, am_as, am_pad, am_nth, am_set, am_st1, am_st2, am_kl, am_kill, am_mem, am_fv, am_tk, am_wt, am_bk, Option.toList, List.cons_append, List.nil_append, Nat.reduceAdd, Nat.reduceEqDiff, Nat.reduceLeDiff, reduceIte, Nat.reduceLT, or_self, true_or, or_true, if_true, if_false, and_self, and_true, true_and, not_false_eq_true, not_true_eq_false, fd_Sheet_shared_10, fd_Sheet_shared_11, fd_Sheet_shared_14, fd_Sheet_shared_17, fd_Sheet_shared_19, fd_Sheet_shared_21, fd_Sheet_shared_49, fd_Sheet_shared_51, k1, hp, hlt]
    have : (8 : Nat) = kc k key := hk
    rw [← this] at hx
    exact hx
  | r + 1, c, hc, hk => by
    have hlt : nI c < 8 := nI_lt (b := 8) (by omega) (by decide)
    have e7 : 7 - r = c := by omega
    refine am_go [24, 49] 6 ?_
    simp only [am_wp, am_stp, am_en, am_as, am_pad, am_nth, am_set, am_st1, am_st2, am_kl, am_kill, am_mem, am_fv, am_tk, am_wt, am_bk, Option.toList, List.cons_append, List.nil_append, Nat.reduceAdd, Nat.reduceEqDiff, Nat.reduceLeDiff, reduceIte, Nat.reduceLT, or_self, true_or, or_true, if_true, if_false, and_self, and_true, true_and, not_false_eq_true, not_true_eq_false, fd_Sheet_shared_10, fd_Sheet_shared_11, fd_Sheet_shared_14, fd_Sheet_shared_17, fd_Sheet_shared_19, fd_Sheet_shared_21, k1, hp, hlt]
    refine am_go [43, 49] 12 ?_
    simp only [am_wp, am_stp, am_en, am_as, am_pad, am_nth, am_set, am_st1, am_st2, am_kl, am_kill, am_mem, am_fv, am_tk, am_wt, am_bk, Option.toList, List.cons_append, List.nil_append, Nat.reduceAdd, Nat.reduceEqDiff, Nat.reduceLeDiff, reduceIte, Nat.reduceLT, or_self, true_or, or_true, if_true, if_false, and_self, and_true, true_and, not_false_eq_true, not_true_eq_false, fd_Sheet_shared_24, fd_Sheet_shared_25, fd_Sheet_shared_27, fd_Sheet_shared_29, fd_Sheet_shared_31, fd_Sheet_shared_32, fd_Sheet_shared_33, fd_Sheet_shared_34, fd_Sheet_shared_37, fd_Sheet_shared_38, fd_Sheet_shared_39, fd_Sheet_shared_40]
    simp only [lc_eq]
    have dec : Decidable (kq key k c) := kq_d key k c
    simp only [kq_cl (a := key) (b := k) (show c < 8 by omega)]
    unfold kc_r at hk
    rw [e7] at hk
    by_cases e : kq key k c
    · have e' : kq k key c := fun t ht => (e t ht).symm
      rw [if_pos e'] at hk
      simp only [e, am_wp, am_stp, am_en, am_as, am_pad, am_nth, am_set, am_st1, am_st2, am_kl, am_kill, am_mem, am_fv, am_tk, am_wt, am_bk, Option.toList, List.cons_append, List.nil_append, Nat.reduceAdd, Nat.reduceEqDiff, Nat.reduceLeDiff, reduceIte, Nat.reduceLT, or_self, true_or, or_true, if_true, if_false, and_self, and_true, true_and, not_false_eq_true, not_true_eq_false]
      refine am_go [10] 3 ?_
      simp only [am_wp, am_stp, am_en, am_as, am_pad, am_nth, am_set, am_st1, am_st2, am_kl, am_kill, am_mem, am_fv, am_tk, am_wt, am_bk, Option.toList, List.cons_append, List.nil_append, Nat.reduceAdd, Nat.reduceEqDiff, Nat.reduceLeDiff, reduceIte, Nat.reduceLT, or_self, true_or, or_true, if_true, if_false, and_self, and_true, true_and, not_false_eq_true, not_true_eq_false, fd_Sheet_shared_43, fd_Sheet_shared_46, nI_1]
      exact l2_shared_loop k1 hp hx r (c + 1) (by omega) hk
    · have e' : ¬ kq k key c := fun q => e (fun t ht => (q t ht).symm)
      rw [if_neg e'] at hk
      simp only [e, am_wp, am_stp, am_en, am_as, am_pad, am_nth, am_set, am_st1, am_st2, am_kl, am_kill, am_mem, am_fv, am_tk, am_wt, am_bk, Option.toList, List.cons_append, List.nil_append, Nat.reduceAdd, Nat.reduceEqDiff, Nat.reduceLeDiff, reduceIte, Nat.reduceLT, or_self, true_or, or_true, if_true, if_false, and_self, and_true, true_and, not_false_eq_true, not_true_eq_false]
      refine am_go [] 3 ?_
      simp only [am_wp, am_stp, am_en, am_as, am_pad, am_nth, am_set, am_st1, am_st2, am_kl, am_kill, am_mem, am_fv, am_tk, am_wt, am_bk, Option.toList, List.cons_append, List.nil_append, Nat.reduceAdd, Nat.reduceEqDiff, Nat.reduceLeDiff, reduceIte, Nat.reduceLT, or_self, true_or, or_true, if_true, if_false, and_self, and_true, true_and, not_false_eq_true, not_true_eq_false, fd_Sheet_shared_49, fd_Sheet_shared_51]
      rw [← hk] at hx
      exact hx
theorem nI_gt0 {c : Nat} (h : 0 < c) (hc : c < 2 ^ 31) : (0 : Int32) < nI c := nI_lt (a := 0) h hc
theorem l2_shared {d u c : Nat} {p : Option Int64} {key : Int64} {h : am_H} (hU : sh_U h u c p) : am_Rt nm_pr (d + 1) mi_Sheet_shared [.ref 14, .long key] h (fun o h' => o = .inl (some (.int (nI (sh1 p key)))) ∧ h' = h) := by
  obtain ⟨⟨k1, r1, k2, n2⟩, u1, u2, u3, u4, u5⟩ := id hU
  refine am_in' mt_Sheet_shared 6 rfl rfl rfl ?_
  refine am_go [10] 9 ?_
  simp only [am_wp, am_stp, am_en, am_as, am_pad, am_nth, am_set, am_st1, am_st2, am_kl, am_kill, am_mem, am_fv, am_tk, am_wt, am_bk, Option.toList, List.cons_append, List.nil_append, Nat.reduceAdd, Nat.reduceEqDiff, Nat.reduceLeDiff, reduceIte, Nat.reduceLT, or_self, true_or, or_true, if_true, if_false, and_self, and_true, true_and, not_false_eq_true, not_true_eq_false, fd_Sheet_shared_0, fd_Sheet_shared_1, fd_Sheet_shared_2, fd_Sheet_shared_5, fd_Sheet_shared_6, fd_Sheet_shared_7, fd_Sheet_shared_8, k1]
  cases p with
  | none =>
    have e : c = 0 := u5
    subst e
    have hp : ¬ (0 : Int32) < am_I h 14 2 := by rw [u2]; decide
    refine am_go [17] 6 ?_
    simp only [am_wp, am_stp, am_en, am_as, am_pad, am_nth, am_set, am_st1, am_st2, am_kl, am_kill, am_mem, am_fv, am_tk, am_wt, am_bk, Option.toList, List.cons_append, List.nil_append, Nat.reduceAdd, Nat.reduceEqDiff, Nat.reduceLeDiff, reduceIte, Nat.reduceLT, or_self, true_or, or_true, if_true, if_false, and_self, and_true, true_and, not_false_eq_true, not_true_eq_false, fd_Sheet_shared_10, fd_Sheet_shared_11, fd_Sheet_shared_14, fd_Sheet_shared_49, fd_Sheet_shared_51, k1, hp]
    rfl
  | some k =>
    obtain ⟨hc, hk⟩ := u5
    rw [hk]
    exact l2_shared_loop k1 (by rw [u2]; exact nI_gt0 hc (by omega)) ⟨rfl, rfl⟩ 8 0 rfl rfl
theorem l2_folded {d : Nat} {v : Int64} {h : am_H} : am_Rt nm_pr (d + 1) mi_Sheet_folded [.long v] h (fun o h' => o = .inl (some (.long (zf v))) ∧ h' = h) := by
  refine am_in' mt_Sheet_folded 2 rfl rfl rfl ?_
  refine am_go [6, 18] 4 ?_
  simp only [am_wp, am_stp, am_en, am_as, am_pad, am_nth, am_set, am_st1, am_st2, am_kl, am_kill, am_mem, am_fv, am_tk, am_wt, am_bk, Option.toList, List.cons_append, List.nil_append, Nat.reduceAdd, Nat.reduceEqDiff, Nat.reduceLeDiff, reduceIte, Nat.reduceLT, or_self, true_or, or_true, if_true, if_false, and_self, and_true, true_and, not_false_eq_true, not_true_eq_false, fd_Sheet_folded_0, fd_Sheet_folded_1, fd_Sheet_folded_2, fd_Sheet_folded_3]
  simp only [lc_lt]
  unfold zf
  by_cases e : v < 0
  · simp only [e, am_wp, am_stp, am_en, am_as, am_pad, am_nth, am_set, am_st1, am_st2, am_kl, am_kill, am_mem, am_fv, am_tk, am_wt, am_bk, Option.toList, List.cons_append, List.nil_append, Nat.reduceAdd, Nat.reduceEqDiff, Nat.reduceLeDiff, reduceIte, Nat.reduceLT, or_self, true_or, or_true, if_true, if_false, and_self, and_true, true_and, not_false_eq_true, not_true_eq_false]
    refine am_go [] 9 ?_
    simp only [am_wp, am_stp, am_en, am_as, am_pad, am_nth, am_set, am_st1, am_st2, am_kl, am_kill, am_mem, am_fv, am_tk, am_wt, am_bk, Option.toList, List.cons_append, List.nil_append, Nat.reduceAdd, Nat.reduceEqDiff, Nat.reduceLeDiff, reduceIte, Nat.reduceLT, or_self, true_or, or_true, if_true, if_false, and_self, and_true, true_and, not_false_eq_true, not_true_eq_false, fd_Sheet_folded_6, fd_Sheet_folded_9, fd_Sheet_folded_10, fd_Sheet_folded_13, fd_Sheet_folded_14, fd_Sheet_folded_15, fd_Sheet_folded_23]
  · simp only [e, am_wp, am_stp, am_en, am_as, am_pad, am_nth, am_set, am_st1, am_st2, am_kl, am_kill, am_mem, am_fv, am_tk, am_wt, am_bk, Option.toList, List.cons_append, List.nil_append, Nat.reduceAdd, Nat.reduceEqDiff, Nat.reduceLeDiff, reduceIte, Nat.reduceLT, or_self, true_or, or_true, if_true, if_false, and_self, and_true, true_and, not_false_eq_true, not_true_eq_false]
    refine am_go [] 5 ?_
    simp only [am_wp, am_stp, am_en, am_as, am_pad, am_nth, am_set, am_st1, am_st2, am_kl, am_kill, am_mem, am_fv, am_tk, am_wt, am_bk, Option.toList, List.cons_append, List.nil_append, Nat.reduceAdd, Nat.reduceEqDiff, Nat.reduceLeDiff, reduceIte, Nat.reduceLT, or_self, true_or, or_true, if_true, if_false, and_self, and_true, true_and, not_false_eq_true, not_true_eq_false, fd_Sheet_folded_18, fd_Sheet_folded_19, fd_Sheet_folded_22, fd_Sheet_folded_23]
theorem l2_sizeOf_loop {d : Nat} {z : Int64} {h : am_H} {Q : am_O → am_H → Prop} : ∀ (f c : Nat), f + c = 10 → Q (.inl (some (.int (nI (vz (zN z) f c))))) h →
    am_Ex nm_pr d mt_Sheet_sizeOf (2, [.long z, .retAddr 0, .int (nI c)], [], h) Q
  | 0, c, hc, hx => by
    have e : c = 10 := by omega
    subst e
    have hlt : ¬ (nI 10 < 10) := by decide
    refine am_go [8] 6 ?_
    simp only [am_wp, am_stp, am_en, am_as, am_pad, am_nth, am_set, am_st1, am_st2, am_kl, am_kill, am_mem, am_fv, am_tk, am_wt, am_bk, Option.toList, List.cons_append, List.nil_append, Nat.reduceAdd, Nat.reduceEqDiff, Nat.reduceLeDiff, reduceIte, Nat.reduceLT, or_self, true_or, or_true, if_true, if_false, and_self, and_true, true_and, not_false_eq_true, not_true_eq_false, fd_Sheet_sizeOf_2, fd_Sheet_sizeOf_3, fd_Sheet_sizeOf_5, fd_Sheet_sizeOf_25, fd_Sheet_sizeOf_26, hlt]
    exact hx
  | f + 1, c, hc, hx => by
    have hlt : nI c < 10 := nI_lt (b := 10) (by omega) (by decide)
    refine am_go [8, 25] 3 ?_
    simp only [am_wp, am_stp, am_en, am_as, am_pad, am_nth, am_set, am_st1, am_st2, am_kl, am_kill, am_mem, am_fv, am_tk, am_wt, am_bk, Option.toList, List.cons_append, List.nil_append, Nat.reduceAdd, Nat.reduceEqDiff, Nat.reduceLeDiff, reduceIte, Nat.reduceLT, or_self, true_or, or_true, if_true, if_false, and_self, and_true, true_and, not_false_eq_true, not_true_eq_false, fd_Sheet_sizeOf_2, fd_Sheet_sizeOf_3, fd_Sheet_sizeOf_5, hlt]
    refine am_go [19, 25] 8 ?_
    simp only [am_wp, am_stp, am_en, am_as, am_pad, am_nth, am_set, am_st1, am_st2, am_kl, am_kill, am_mem, am_fv, am_tk, am_wt, am_bk, Option.toList, List.cons_append, List.nil_append, Nat.reduceAdd, Nat.reduceEqDiff, Nat.reduceLeDiff, reduceIte, Nat.reduceLT, or_self, true_or, or_true, if_true, if_false, and_self, and_true, true_and, not_false_eq_true, not_true_eq_false, fd_Sheet_sizeOf_8, fd_Sheet_sizeOf_9, fd_Sheet_sizeOf_11, fd_Sheet_sizeOf_12, fd_Sheet_sizeOf_13, fd_Sheet_sizeOf_14, fd_Sheet_sizeOf_15, fd_Sheet_sizeOf_16]
    simp only [lc_eq]
    simp only [vs_cl (z := z) (show c < 10 by omega)]
    unfold vz at hx
    by_cases e : zN z / 128 ^ c = 0
    · rw [if_pos e] at hx
      simp only [e, am_wp, am_stp, am_en, am_as, am_pad, am_nth, am_set, am_st1, am_st2, am_kl, am_kill, am_mem, am_fv, am_tk, am_wt, am_bk, Option.toList, List.cons_append, List.nil_append, Nat.reduceAdd, Nat.reduceEqDiff, Nat.reduceLeDiff, reduceIte, Nat.reduceLT, or_self, true_or, or_true, if_true, if_false, and_self, and_true, true_and, not_false_eq_true, not_true_eq_false]
      refine am_go [] 3 ?_
      simp only [am_wp, am_stp, am_en, am_as, am_pad, am_nth, am_set, am_st1, am_st2, am_kl, am_kill, am_mem, am_fv, am_tk, am_wt, am_bk, Option.toList, List.cons_append, List.nil_append, Nat.reduceAdd, Nat.reduceEqDiff, Nat.reduceLeDiff, reduceIte, Nat.reduceLT, or_self, true_or, or_true, if_true, if_false, and_self, and_true, true_and, not_false_eq_true, not_true_eq_false, fd_Sheet_sizeOf_25, fd_Sheet_sizeOf_26]
      exact hx
    · rw [if_neg e] at hx
      simp only [e, am_wp, am_stp, am_en, am_as, am_pad, am_nth, am_set, am_st1, am_st2, am_kl, am_kill, am_mem, am_fv, am_tk, am_wt, am_bk, Option.toList, List.cons_append, List.nil_append, Nat.reduceAdd, Nat.reduceEqDiff, Nat.reduceLeDiff, reduceIte, Nat.reduceLT, or_self, true_or, or_true, if_true, if_false, and_self, and_true, true_and, not_false_eq_true, not_true_eq_false]
      refine am_go [2] 3 ?_
      simp only [am_wp, am_stp, am_en, am_as, am_pad, am_nth, am_set, am_st1, am_st2, am_kl, am_kill, am_mem, am_fv, am_tk, am_wt, am_bk, Option.toList, List.cons_append, List.nil_append, Nat.reduceAdd, Nat.reduceEqDiff, Nat.reduceLeDiff, reduceIte, Nat.reduceLT, or_self, true_or, or_true, if_true, if_false, and_self, and_true, true_and, not_false_eq_true, not_true_eq_false, fd_Sheet_sizeOf_19, fd_Sheet_sizeOf_22, nI_1]
      exact l2_sizeOf_loop f (c + 1) (by omega) hx
theorem l2_sizeOf {d : Nat} {z : Int64} {h : am_H} : am_Rt nm_pr (d + 1) mi_Sheet_sizeOf [.long z] h (fun o h' => o = .inl (some (.int (nI (vs z)))) ∧ h' = h) := by
  refine am_in' mt_Sheet_sizeOf 3 rfl rfl rfl ?_
  refine am_go [2] 3 ?_
  simp only [am_wp, am_stp, am_en, am_as, am_pad, am_nth, am_set, am_st1, am_st2, am_kl, am_kill, am_mem, am_fv, am_tk, am_wt, am_bk, Option.toList, List.cons_append, List.nil_append, Nat.reduceAdd, Nat.reduceEqDiff, Nat.reduceLeDiff, reduceIte, Nat.reduceLT, or_self, true_or, or_true, if_true, if_false, and_self, and_true, true_and, not_false_eq_true, not_true_eq_false, fd_Sheet_sizeOf_0, fd_Sheet_sizeOf_1]
  exact l2_sizeOf_loop 9 1 rfl ⟨rfl, rfl⟩
theorem es_a {s : Nat} (hs : s ≤ 8) : 9 - nI s + 1 = nI (10 - s) := by
  have : ∀ s : Fin 9, 9 - nI s.1 + 1 = nI (10 - s.1) := by decide
  exact this ⟨s, by omega⟩
theorem l2_fits {d u c t : Nat} {p : Option Int64} {e : ent} {h : am_H} (hU : sh_U h u c p) (kt : am_kd h t = 3) (t0 : am_I h t 0 = e.2.1) (t1 : am_L h t 1 = e.2.2) : am_Rt nm_pr (d + 2) mi_Sheet_fits [.ref 14, .long e.1, .ref t] h (fun o h' => o = .inl (some (.int (if u + es (sh1 p e.1) e ≤ 120 then 1 else 0))) ∧ h' = h) := by
  obtain ⟨⟨k1, r1, k2, n2⟩, u1, u2, u3, u4, u5⟩ := id hU
  have hs := sh1_le p e.1
  have hE := es_le (sh1 p e.1) e
  refine am_in' (d := d + 1) mt_Sheet_fits 5 rfl rfl rfl ?_
  refine am_go [] 4 ?_
  simp only [am_wp, am_stp, am_en, am_as, am_pad, am_nth, am_set, am_st1, am_st2, am_kl, am_kill, am_mem, am_fv, am_tk, am_wt, am_bk, Option.toList, List.cons_append, List.nil_append, Nat.reduceAdd, Nat.reduceEqDiff, Nat.reduceLeDiff, reduceIte, Nat.reduceLT, or_self, true_or, or_true, if_true, if_false, and_self, and_true, true_and, not_false_eq_true, not_true_eq_false, fd_Sheet_fits_0, fd_Sheet_fits_2, fd_Sheet_fits_3, fd_Sheet_fits_4, k1]
  refine am_call (l2_shared hU) (fun o h1 q => ?_)
  obtain ⟨rfl, rfl⟩ := q
  simp only [am_wp, am_stp, am_en, am_as, am_pad, am_nth, am_set, am_st1, am_st2, am_kl, am_kill, am_mem, am_fv, am_tk, am_wt, am_bk, Option.toList, List.cons_append, List.nil_append, Nat.reduceAdd, Nat.reduceEqDiff, Nat.reduceLeDiff, reduceIte, Nat.reduceLT, or_self, true_or, or_true, if_true, if_false, and_self, and_true, true_and, not_false_eq_true, not_true_eq_false]
  have key : ∀ n : Nat, n = es (sh1 p e.1) e → am_Ex nm_pr (d + 1) mt_Sheet_fits (35, [.ref 14, .long e.1, .retAddr 0, .ref t, .int (nI n)], [], h1) (fun o h' => o = .inl (some (.int (if u + es (sh1 p e.1) e ≤ 120 then 1 else 0))) ∧ h' = h1) := by
    intro n hn
    subst hn
    refine am_go [47, 51] 6 ?_
    simp only [am_wp, am_stp, am_en, am_as, am_pad, am_nth, am_set, am_st1, am_st2, am_kl, am_kill, am_mem, am_fv, am_tk, am_wt, am_bk, Option.toList, List.cons_append, List.nil_append, Nat.reduceAdd, Nat.reduceEqDiff, Nat.reduceLeDiff, reduceIte, Nat.reduceLT, or_self, true_or, or_true, if_true, if_false, and_self, and_true, true_and, not_false_eq_true, not_true_eq_false, fd_Sheet_fits_35, fd_Sheet_fits_36, fd_Sheet_fits_39, fd_Sheet_fits_41, fd_Sheet_fits_42, fd_Sheet_fits_44, k1, u1, nI_add]
    by_cases q : u + es (sh1 p e.1) e ≤ 120
    · have hl : ¬ (120 : Int32) < nI (u + es (sh1 p e.1) e) := nI_nlt (a := 120) (by omega) (by decide)
      simp only [hl, q, am_wp, am_stp, am_en, am_as, am_pad, am_nth, am_set, am_st1, am_st2, am_kl, am_kill, am_mem, am_fv, am_tk, am_wt, am_bk, Option.toList, List.cons_append, List.nil_append, Nat.reduceAdd, Nat.reduceEqDiff, Nat.reduceLeDiff, reduceIte, Nat.reduceLT, or_self, true_or, or_true, if_true, if_false, and_self, and_true, true_and, not_false_eq_true, not_true_eq_false]
      refine am_go [] 4 ?_
      simp only [am_wp, am_stp, am_en, am_as, am_pad, am_nth, am_set, am_st1, am_st2, am_kl, am_kill, am_mem, am_fv, am_tk, am_wt, am_bk, Option.toList, List.cons_append, List.nil_append, Nat.reduceAdd, Nat.reduceEqDiff, Nat.reduceLeDiff, reduceIte, Nat.reduceLT, or_self, true_or, or_true, if_true, if_false, and_self, and_true, true_and, not_false_eq_true, not_true_eq_false, fd_Sheet_fits_47, fd_Sheet_fits_48, fd_Sheet_fits_52]
    · have hl : (120 : Int32) < nI (u + es (sh1 p e.1) e) := nI_lt (a := 120) (by omega) (by omega)
      simp only [hl, q, am_wp, am_stp, am_en, am_as, am_pad, am_nth, am_set, am_st1, am_st2, am_kl, am_kill, am_mem, am_fv, am_tk, am_wt, am_bk, Option.toList, List.cons_append, List.nil_append, Nat.reduceAdd, Nat.reduceEqDiff, Nat.reduceLeDiff, reduceIte, Nat.reduceLT, or_self, true_or, or_true, if_true, if_false, and_self, and_true, true_and, not_false_eq_true, not_true_eq_false]
      refine am_go [] 4 ?_
      simp only [am_wp, am_stp, am_en, am_as, am_pad, am_nth, am_set, am_st1, am_st2, am_kl, am_kill, am_mem, am_fv, am_tk, am_wt, am_bk, Option.toList, List.cons_append, List.nil_append, Nat.reduceAdd, Nat.reduceEqDiff, Nat.reduceLeDiff, reduceIte, Nat.reduceLT, or_self, true_or, or_true, if_true, if_false, and_self, and_true, true_and, not_false_eq_true, not_true_eq_false, fd_Sheet_fits_51, fd_Sheet_fits_52]
  refine am_go [20, 35] 8 ?_
  simp only [am_wp, am_stp, am_en, am_as, am_pad, am_nth, am_set, am_st1, am_st2, am_kl, am_kill, am_mem, am_fv, am_tk, am_wt, am_bk, Option.toList, List.cons_append, List.nil_append, Nat.reduceAdd, Nat.reduceEqDiff, Nat.reduceLeDiff, reduceIte, Nat.reduceLT, or_self, true_or, or_true, if_true, if_false, and_self, and_true, true_and, not_false_eq_true, not_true_eq_false, fd_Sheet_fits_7, fd_Sheet_fits_8, fd_Sheet_fits_9, fd_Sheet_fits_10, fd_Sheet_fits_12, fd_Sheet_fits_13, fd_Sheet_fits_16, fd_Sheet_fits_17, kt, t0, es_a hs]
  unfold es at key
  by_cases q : e.2.1 = 2
  · simp only [q, am_wp, am_stp, am_en, am_as, am_pad, am_nth, am_set, am_st1, am_st2, am_kl, am_kill, am_mem, am_fv, am_tk, am_wt, am_bk, Option.toList, List.cons_append, List.nil_append, Nat.reduceAdd, Nat.reduceEqDiff, Nat.reduceLeDiff, reduceIte, Nat.reduceLT, or_self, true_or, or_true, if_true, if_false, and_self, and_true, true_and, not_false_eq_true, not_true_eq_false]
    exact key _ (by rw [if_pos q]; rfl)
  · simp only [q, am_wp, am_stp, am_en, am_as, am_pad, am_nth, am_set, am_st1, am_st2, am_kl, am_kill, am_mem, am_fv, am_tk, am_wt, am_bk, Option.toList, List.cons_append, List.nil_append, Nat.reduceAdd, Nat.reduceEqDiff, Nat.reduceLeDiff, reduceIte, Nat.reduceLT, or_self, true_or, or_true, if_true, if_false, and_self, and_true, true_and, not_false_eq_true, not_true_eq_false]
    refine am_go [] 4 ?_
    simp only [am_wp, am_stp, am_en, am_as, am_pad, am_nth, am_set, am_st1, am_st2, am_kl, am_kill, am_mem, am_fv, am_tk, am_wt, am_bk, Option.toList, List.cons_append, List.nil_append, Nat.reduceAdd, Nat.reduceEqDiff, Nat.reduceLeDiff, reduceIte, Nat.reduceLT, or_self, true_or, or_true, if_true, if_false, and_self, and_true, true_and, not_false_eq_true, not_true_eq_false, fd_Sheet_fits_20, fd_Sheet_fits_22, fd_Sheet_fits_23, fd_Sheet_fits_26, kt, t1]
    refine am_call l2_folded (fun o h2 z => ?_)
    obtain ⟨rfl, rfl⟩ := z
    simp only [am_wp, am_stp, am_en, am_as, am_pad, am_nth, am_set, am_st1, am_st2, am_kl, am_kill, am_mem, am_fv, am_tk, am_wt, am_bk, Option.toList, List.cons_append, List.nil_append, Nat.reduceAdd, Nat.reduceEqDiff, Nat.reduceLeDiff, reduceIte, Nat.reduceLT, or_self, true_or, or_true, if_true, if_false, and_self, and_true, true_and, not_false_eq_true, not_true_eq_false]
    refine am_go [] 1 ?_
    simp only [am_wp, am_stp, am_en, am_as, am_pad, am_nth, am_set, am_st1, am_st2, am_kl, am_kill, am_mem, am_fv, am_tk, am_wt, am_bk, Option.toList, List.cons_append, List.nil_append, Nat.reduceAdd, Nat.reduceEqDiff, Nat.reduceLeDiff, reduceIte, Nat.reduceLT, or_self, true_or, or_true, if_true, if_false, and_self, and_true, true_and, not_false_eq_true, not_true_eq_false, fd_Sheet_fits_29]
    refine am_call l2_sizeOf (fun o h3 z => ?_)
    obtain ⟨rfl, rfl⟩ := z
    simp only [am_wp, am_stp, am_en, am_as, am_pad, am_nth, am_set, am_st1, am_st2, am_kl, am_kill, am_mem, am_fv, am_tk, am_wt, am_bk, Option.toList, List.cons_append, List.nil_append, Nat.reduceAdd, Nat.reduceEqDiff, Nat.reduceLeDiff, reduceIte, Nat.reduceLT, or_self, true_or, or_true, if_true, if_false, and_self, and_true, true_and, not_false_eq_true, not_true_eq_false]
    refine am_go [35] 2 ?_
    simp only [am_wp, am_stp, am_en, am_as, am_pad, am_nth, am_set, am_st1, am_st2, am_kl, am_kill, am_mem, am_fv, am_tk, am_wt, am_bk, Option.toList, List.cons_append, List.nil_append, Nat.reduceAdd, Nat.reduceEqDiff, Nat.reduceLeDiff, reduceIte, Nat.reduceLT, or_self, true_or, or_true, if_true, if_false, and_self, and_true, true_and, not_false_eq_true, not_true_eq_false, fd_Sheet_fits_32, fd_Sheet_fits_33, nI_add]
    exact key _ (by rw [if_neg q])
