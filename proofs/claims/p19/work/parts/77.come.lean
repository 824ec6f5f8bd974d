/-! THE REFERENCE'S TABLE -/
def rt_S (h : am_H) (n : Nat) : Prop := mo_Sk h ∧ am_I h 72 11 = nI n ∧ n ≤ 64
theorem rt_S.fi {S : List Nat} {h h' : am_H} {n : Nat} (c : rt_S h n) (b : am_fi S h h') (h3 : 72 ∉ S) : rt_S h' n :=
  ⟨c.1.fi b, by rw [b.2.2.2.2.2.2.1 72 h3]; exact c.2.1, c.2.2⟩
theorem rt_ar {h : am_H} (c : mo_Sk h) : am_kd h 72 = 12 ∧ am_R h 72 12 = 74 ∧ am_R h 72 13 = 75 ∧ am_R h 72 14 = 76 ∧ am_kd h 74 = 101 ∧ am_ln h 74 = 64 ∧ am_kd h 75 = 100 ∧ am_ln h 75 = 64 ∧ am_kd h 76 = 101 ∧ am_ln h 76 = 64 := by
  obtain ⟨c1, rr, aa⟩ := c
  exact ⟨c1, (rr 12).trans rfl, (rr 13).trans rfl, (rr 14).trans rfl, (aa 1 _ rfl).1, (aa 1 _ rfl).2, (aa 2 _ rfl).1, (aa 2 _ rfl).2, (aa 3 _ rfl).1, (aa 3 _ rfl).2⟩
theorem l2_Mo_placeOf_loop {d n : Nat} {key : Int64} {h : am_H} {Q : am_O → am_H → Prop} (hS : rt_S h n) (hO : tb_O (am_L h 74) n) (hx : ∀ p, tb_P (am_L h 74) n key p → Q (.inl (some (.int (nI p)))) h) : ∀ (m i : Nat), m + i = n → (∀ j, j < i → am_L h 74 j < key) →
    am_Ex nm_pr d mt_Mo_placeOf (2, [.ref 72, .long key, .retAddr 0, .int (nI i)], [], h) Q
  | 0, i, hm, ha => by
    obtain ⟨c1, c2, c3⟩ := id hS
    have e : i = n := by omega
    subst e
    have hlt : ¬ (nI i < nI i) := nI_nlt (Nat.le_refl _) (by omega)
    refine am_go [10] 6 ?_
    simp only [am_wp, am_stp, am_en, am_as, am_pad, am_nth, am_set, am_st1, am_st2, am_kl, am_kill, am_mem, am_fv, am_tk, am_wt, am_bk, Option.toList, List.cons_append, List.nil_append, Nat.reduceAdd, Nat.reduceEqDiff, Nat.reduceLeDiff, reduceIte, Nat.reduceLT, or_self, true_or, or_true, if_true, if_false, and_self, and_true, true_and, not_false_eq_true, not_true_eq_false, fd_Mo_placeOf_2, fd_Mo_placeOf_3, fd_Mo_placeOf_4, fd_Mo_placeOf_7, fd_Mo_placeOf_27, fd_Mo_placeOf_28, c1.1, c2, hlt]
    exact hx i ⟨Nat.le_refl _, ha, fun j h1 h2 => by omega⟩
  | m + 1, i, hm, ha => by
    obtain ⟨c1, c2, c3⟩ := id hS
    obtain ⟨k72, r12, r13, r14, k74, n74, k75, n75, k76, n76⟩ := rt_ar c1
    have hlt : nI i < nI n := nI_lt (by omega) (by omega)
    have i1 := am_inb (c := i) (N := 64) (by omega) (by omega)
    have q1 : (nI i).toNatClampNeg = i := nI_clamp (by omega)
    refine am_go [10, 27] 4 ?_
    simp only [am_wp, am_stp, am_en, am_as, am_pad, am_nth, am_set, am_st1, am_st2, am_kl, am_kill, am_mem, am_fv, am_tk, am_wt, am_bk, Option.toList, List.cons_append, List.nil_append, Nat.reduceAdd, Nat.reduceEqDiff, Nat.reduceLeDiff, reduceIte, Nat.reduceLT, or_self, true_or, or_true, if_true, if_false, and_self, and_true, true_and, not_false_eq_true, not_true_eq_false, fd_Mo_placeOf_2, fd_Mo_placeOf_3, fd_Mo_placeOf_4, fd_Mo_placeOf_7, k72, c2, hlt]
    refine am_go [21, 27] 7 ?_
    simp only [am_wp, am_stp, am_en, am_as, am_pad, am_nth, am_set, am_st1, am_st2, am_kl, am_kill, am_mem, am_fv, am_tk, am_wt, am_bk, Option.toList, List.cons_append, List.nil_append, Nat.reduceAdd, Nat.reduceEqDiff, Nat.reduceLeDiff, reduceIte, Nat.reduceLT, or_self, true_or, or_true, if_true, if_false, and_self, and_true, true_and, not_false_eq_true, not_true_eq_false, fd_Mo_placeOf_10, fd_Mo_placeOf_11, fd_Mo_placeOf_14, fd_Mo_placeOf_15, fd_Mo_placeOf_16, fd_Mo_placeOf_17, fd_Mo_placeOf_18, k72, r12, k74, n74, i1, q1]
    simp only [lc_lt]
    by_cases e : am_L h 74 i < key
    · simp only [e, am_wp, am_stp, am_en, am_as, am_pad, am_nth, am_set, am_st1, am_st2, am_kl, am_kill, am_mem, am_fv, am_tk, am_wt, am_bk, Option.toList, List.cons_append, List.nil_append, Nat.reduceAdd, Nat.reduceEqDiff, Nat.reduceLeDiff, reduceIte, Nat.reduceLT, or_self, true_or, or_true, if_true, if_false, and_self, and_true, true_and, not_false_eq_true, not_true_eq_false]
      refine am_go [2] 3 ?_
      simp only [am_wp, am_stp, am_en, am_as, am_pad, am_nth, am_set, am_st1, am_st2, am_kl, am_kill, am_mem, am_fv, am_tk, am_wt, am_bk, Option.toList, List.cons_append, List.nil_append, Nat.reduceAdd, Nat.reduceEqDiff, Nat.reduceLeDiff, reduceIte, Nat.reduceLT, or_self, true_or, or_true, if_true, if_false, and_self, and_true, true_and, not_false_eq_true, not_true_eq_false, fd_Mo_placeOf_21, fd_Mo_placeOf_24, nI_1]
      refine l2_Mo_placeOf_loop hS hO hx m (i + 1) (by omega) (fun j hj => ?_)
      by_cases ej : j = i
      · rw [ej]; exact e
      · exact ha j (by omega)
    · simp only [e, am_wp, am_stp, am_en, am_as, am_pad, am_nth, am_set, am_st1, am_st2, am_kl, am_kill, am_mem, am_fv, am_tk, am_wt, am_bk, Option.toList, List.cons_append, List.nil_append, Nat.reduceAdd, Nat.reduceEqDiff, Nat.reduceLeDiff, reduceIte, Nat.reduceLT, or_self, true_or, or_true, if_true, if_false, and_self, and_true, true_and, not_false_eq_true, not_true_eq_false]
      refine am_go [] 3 ?_
      simp only [am_wp, am_stp, am_en, am_as, am_pad, am_nth, am_set, am_st1, am_st2, am_kl, am_kill, am_mem, am_fv, am_tk, am_wt, am_bk, Option.toList, List.cons_append, List.nil_append, Nat.reduceAdd, Nat.reduceEqDiff, Nat.reduceLeDiff, reduceIte, Nat.reduceLT, or_self, true_or, or_true, if_true, if_false, and_self, and_true, true_and, not_false_eq_true, not_true_eq_false, fd_Mo_placeOf_27, fd_Mo_placeOf_28]
      refine hx i ⟨by omega, ha, fun j h1 h2 => ?_⟩
      by_cases ej : j = i
      · rw [ej]; exact e
      · exact l_ntr e (hO i j (by omega) h2)
theorem l2_Mo_placeOf {d n : Nat} {key : Int64} {h : am_H} (hS : rt_S h n) (hO : tb_O (am_L h 74) n) : am_Rt nm_pr (d + 1) mi_Mo_placeOf [.ref 72, .long key] h (fun o h' => ∃ p, tb_P (am_L h 74) n key p ∧ o = .inl (some (.int (nI p))) ∧ h' = h) := by
  refine am_in' mt_Mo_placeOf 4 rfl rfl rfl ?_
  refine am_go [2] 3 ?_
  simp only [am_wp, am_stp, am_en, am_as, am_pad, am_nth, am_set, am_st1, am_st2, am_kl, am_kill, am_mem, am_fv, am_tk, am_wt, am_bk, Option.toList, List.cons_append, List.nil_append, Nat.reduceAdd, Nat.reduceEqDiff, Nat.reduceLeDiff, reduceIte, Nat.reduceLT, or_self, true_or, or_true, if_true, if_false, and_self, and_true, true_and, not_false_eq_true, not_true_eq_false, fd_Mo_placeOf_0, fd_Mo_placeOf_1]
  exact l2_Mo_placeOf_loop hS hO (fun p hp => ⟨p, hp, rfl, rfl⟩) n 0 rfl (fun j hj => by omega)
theorem l2_Mo_hasPlace {d n : Nat} {key : Int64} {h : am_H} (hS : rt_S h n) (hO : tb_O (am_L h 74) n) : am_Rt nm_pr (d + 2) mi_Mo_hasPlace [.ref 72, .long key] h (fun o h' => ∃ p, tb_P (am_L h 74) n key p ∧ o = .inl (some (.int (if n < 64 ∨ tb_H (am_L h 74) n p key = true then 1 else 0))) ∧ h' = h) := by
  obtain ⟨c1, c2, c3⟩ := id hS
  obtain ⟨k72, r12, r13, r14, k74, n74, k75, n75, k76, n76⟩ := rt_ar c1
  have o0 : (0 : Int32) = 0 ∨ (0 : Int32) = 1 := by decide
  have o1 : (1 : Int32) = 0 ∨ (1 : Int32) = 1 := by decide
  refine am_in' (d := d + 1) mt_Mo_hasPlace 4 rfl rfl rfl ?_
  refine am_go [] 3 ?_
  simp only [am_wp, am_stp, am_en, am_as, am_pad, am_nth, am_set, am_st1, am_st2, am_kl, am_kill, am_mem, am_fv, am_tk, am_wt, am_bk, Option.toList, List.cons_append, List.nil_append, Nat.reduceAdd, Nat.reduceEqDiff, Nat.reduceLeDiff, reduceIte, Nat.reduceLT, or_self, true_or, or_true, if_true, if_false, and_self, and_true, true_and, not_false_eq_true, not_true_eq_false, fd_Mo_hasPlace_0, fd_Mo_hasPlace_1, fd_Mo_hasPlace_2, k72]
  refine am_call (l2_Mo_placeOf hS hO) (fun o h1 q => ?_)
  obtain ⟨p, hp, rfl, rfl⟩ := q
  simp only [am_wp, am_stp, am_en, am_as, am_pad, am_nth, am_set, am_st1, am_st2, am_kl, am_kill, am_mem, am_fv, am_tk, am_wt, am_bk, Option.toList, List.cons_append, List.nil_append, Nat.reduceAdd, Nat.reduceEqDiff, Nat.reduceLeDiff, reduceIte, Nat.reduceLT, or_self, true_or, or_true, if_true, if_false, and_self, and_true, true_and, not_false_eq_true, not_true_eq_false]
  have hp1 := hp.1
  refine am_go [34, 15] 5 ?_
  simp only [am_wp, am_stp, am_en, am_as, am_pad, am_nth, am_set, am_st1, am_st2, am_kl, am_kill, am_mem, am_fv, am_tk, am_wt, am_bk, Option.toList, List.cons_append, List.nil_append, Nat.reduceAdd, Nat.reduceEqDiff, Nat.reduceLeDiff, reduceIte, Nat.reduceLT, or_self, true_or, or_true, if_true, if_false, and_self, and_true, true_and, not_false_eq_true, not_true_eq_false, fd_Mo_hasPlace_5, fd_Mo_hasPlace_6, fd_Mo_hasPlace_7, fd_Mo_hasPlace_10, fd_Mo_hasPlace_12, k72, c2]
  by_cases e1 : n < 64
  · have l1 : nI n < 64 := nI_lt (b := 64) e1 (by decide)
    simp only [l1, am_wp, am_stp, am_en, am_as, am_pad, am_nth, am_set, am_st1, am_st2, am_kl, am_kill, am_mem, am_fv, am_tk, am_wt, am_bk, Option.toList, List.cons_append, List.nil_append, Nat.reduceAdd, Nat.reduceEqDiff, Nat.reduceLeDiff, reduceIte, Nat.reduceLT, or_self, true_or, or_true, if_true, if_false, and_self, and_true, true_and, not_false_eq_true, not_true_eq_false]
    refine am_go [] 4 ?_
    simp only [am_wp, am_stp, am_en, am_as, am_pad, am_nth, am_set, am_st1, am_st2, am_kl, am_kill, am_mem, am_fv, am_tk, am_wt, am_bk, Option.toList, List.cons_append, List.nil_append, Nat.reduceAdd, Nat.reduceEqDiff, Nat.reduceLeDiff, reduceIte, Nat.reduceLT, or_self, true_or, or_true, if_true, if_false, and_self, and_true, true_and, not_false_eq_true, not_true_eq_false, fd_Mo_hasPlace_34, fd_Mo_hasPlace_35, fd_Mo_hasPlace_38, fd_Mo_hasPlace_39, o1]
    exact ⟨p, hp, by rw [if_pos (Or.inl e1)]⟩
  · have l1 : ¬ nI n < 64 := nI_nlt (b := 64) (by omega) (by omega)
    simp only [l1, am_wp, am_stp, am_en, am_as, am_pad, am_nth, am_set, am_st1, am_st2, am_kl, am_kill, am_mem, am_fv, am_tk, am_wt, am_bk, Option.toList, List.cons_append, List.nil_append, Nat.reduceAdd, Nat.reduceEqDiff, Nat.reduceLeDiff, reduceIte, Nat.reduceLT, or_self, true_or, or_true, if_true, if_false, and_self, and_true, true_and, not_false_eq_true, not_true_eq_false]
    refine am_go [38, 23] 4 ?_
    simp only [am_wp, am_stp, am_en, am_as, am_pad, am_nth, am_set, am_st1, am_st2, am_kl, am_kill, am_mem, am_fv, am_tk, am_wt, am_bk, Option.toList, List.cons_append, List.nil_append, Nat.reduceAdd, Nat.reduceEqDiff, Nat.reduceLeDiff, reduceIte, Nat.reduceLT, or_self, true_or, or_true, if_true, if_false, and_self, and_true, true_and, not_false_eq_true, not_true_eq_false, fd_Mo_hasPlace_15, fd_Mo_hasPlace_16, fd_Mo_hasPlace_17, fd_Mo_hasPlace_20, k72, c2]
    have no : tb_H (am_L h1 74) n p key = false → am_Ex nm_pr (d + 1) mt_Mo_hasPlace (38, [.ref 72, .long key, .retAddr 0, .int (nI p)], [], h1) (fun o h' => ∃ p, tb_P (am_L h1 74) n key p ∧ o = .inl (some (.int (if n < 64 ∨ tb_H (am_L h1 74) n p key = true then 1 else 0))) ∧ h' = h1) := by
      intro e
      refine am_go [] 3 ?_
      simp only [am_wp, am_stp, am_en, am_as, am_pad, am_nth, am_set, am_st1, am_st2, am_kl, am_kill, am_mem, am_fv, am_tk, am_wt, am_bk, Option.toList, List.cons_append, List.nil_append, Nat.reduceAdd, Nat.reduceEqDiff, Nat.reduceLeDiff, reduceIte, Nat.reduceLT, or_self, true_or, or_true, if_true, if_false, and_self, and_true, true_and, not_false_eq_true, not_true_eq_false, fd_Mo_hasPlace_38, fd_Mo_hasPlace_39, o0]
      exact ⟨p, hp, by rw [e]; simp [e1]⟩
    by_cases e2 : p < n
    · have l2 : nI p < nI n := nI_lt e2 (by omega)
      have i1 := am_inb (c := p) (N := 64) (by omega) (by omega)
      have q1 : (nI p).toNatClampNeg = p := nI_clamp (by omega)
      simp only [l2, am_wp, am_stp, am_en, am_as, am_pad, am_nth, am_set, am_st1, am_st2, am_kl, am_kill, am_mem, am_fv, am_tk, am_wt, am_bk, Option.toList, List.cons_append, List.nil_append, Nat.reduceAdd, Nat.reduceEqDiff, Nat.reduceLeDiff, reduceIte, Nat.reduceLT, or_self, true_or, or_true, if_true, if_false, and_self, and_true, true_and, not_false_eq_true, not_true_eq_false]
      refine am_go [34, 38] 7 ?_
      simp only [am_wp, am_stp, am_en, am_as, am_pad, am_nth, am_set, am_st1, am_st2, am_kl, am_kill, am_mem, am_fv, am_tk, am_wt, am_bk, Option.toList, List.cons_append, List.nil_append, Nat.reduceAdd, Nat.reduceEqDiff, Nat.reduceLeDiff, reduceIte, Nat.reduceLT, or_self, true_or, or_true, if_true, if_false, and_self, and_true, true_and, not_false_eq_true, not_true_eq_false, fd_Mo_hasPlace_23, fd_Mo_hasPlace_24, fd_Mo_hasPlace_27, fd_Mo_hasPlace_28, fd_Mo_hasPlace_29, fd_Mo_hasPlace_30, fd_Mo_hasPlace_31, k72, r12, k74, n74, i1, q1]
      simp only [lc_eq]
      by_cases e3 : am_L h1 74 p = key
      · simp only [e3, am_wp, am_stp, am_en, am_as, am_pad, am_nth, am_set, am_st1, am_st2, am_kl, am_kill, am_mem, am_fv, am_tk, am_wt, am_bk, Option.toList, List.cons_append, List.nil_append, Nat.reduceAdd, Nat.reduceEqDiff, Nat.reduceLeDiff, reduceIte, Nat.reduceLT, or_self, true_or, or_true, if_true, if_false, and_self, and_true, true_and, not_false_eq_true, not_true_eq_false]
        refine am_go [] 4 ?_
        simp only [am_wp, am_stp, am_en, am_as, am_pad, am_nth, am_set, am_st1, am_st2, am_kl, am_kill, am_mem, am_fv, am_tk, am_wt, am_bk, Option.toList, List.cons_append, List.nil_append, Nat.reduceAdd, Nat.reduceEqDiff, Nat.reduceLeDiff, reduceIte, Nat.reduceLT, or_self, true_or, or_true, if_true, if_false, and_self, and_true, true_and, not_false_eq_true, not_true_eq_false, fd_Mo_hasPlace_34, fd_Mo_hasPlace_35, fd_Mo_hasPlace_38, fd_Mo_hasPlace_39, o1]
        exact ⟨p, hp, by simp [tb_H, e2, e3]⟩
      · simp only [e3, am_wp, am_stp, am_en, am_as, am_pad, am_nth, am_set, am_st1, am_st2, am_kl, am_kill, am_mem, am_fv, am_tk, am_wt, am_bk, Option.toList, List.cons_append, List.nil_append, Nat.reduceAdd, Nat.reduceEqDiff, Nat.reduceLeDiff, reduceIte, Nat.reduceLT, or_self, true_or, or_true, if_true, if_false, and_self, and_true, true_and, not_false_eq_true, not_true_eq_false]
        exact no (by simp [tb_H, e3])
    · have l2 : ¬ nI p < nI n := nI_nlt (by omega) (by omega)
      simp only [l2, am_wp, am_stp, am_en, am_as, am_pad, am_nth, am_set, am_st1, am_st2, am_kl, am_kill, am_mem, am_fv, am_tk, am_wt, am_bk, Option.toList, List.cons_append, List.nil_append, Nat.reduceAdd, Nat.reduceEqDiff, Nat.reduceLeDiff, reduceIte, Nat.reduceLT, or_self, true_or, or_true, if_true, if_false, and_self, and_true, true_and, not_false_eq_true, not_true_eq_false]
      exact no (by simp [tb_H, e2])
theorem l2_Mo_shift_loop {d n p : Nat} {h : am_H} {a b c : Value} {Q : am_O → am_H → Prop} (hS : rt_S h n) (hn : n < 64) (hx : ∀ g, am_fi [74, 75, 76] h g → am_L g 74 = sh_f (am_L h 74) p n → am_I g 75 = sh_f (am_I h 75) p n → am_L g 76 = sh_f (am_L h 76) p n → am_Ex nm_pr d mt_Mo_come (186, [.ref 72, a, .retAddr 0, b, c, .retAddr 0, .int (nI p), .int (nI p)], [], g) Q) : ∀ (m i : Nat) (g : am_H), m + p = i → i ≤ n → am_fi [74, 75, 76] h g → am_L g 74 = sh_f (am_L h 74) i n → am_I g 75 = sh_f (am_I h 75) i n → am_L g 76 = sh_f (am_L h 76) i n →
    am_Ex nm_pr d mt_Mo_come (125, [.ref 72, a, .retAddr 0, b, c, .retAddr 0, .int (nI p), .int (nI i)], [], g) Q
  | 0, i, g, hm, hi, f, a1, a2, a3 => by
    have e : i = p := by omega
    subst e
    have hlt : ¬ (nI i < nI i) := nI_nlt (Nat.le_refl _) (by omega)
    refine am_go [132, 186] 4 ?_
    simp only [am_wp, am_stp, am_en, am_as, am_pad, am_nth, am_set, am_st1, am_st2, am_kl, am_kill, am_mem, am_fv, am_tk, am_wt, am_bk, Option.toList, List.cons_append, List.nil_append, Nat.reduceAdd, Nat.reduceEqDiff, Nat.reduceLeDiff, reduceIte, Nat.reduceLT, or_self, true_or, or_true, if_true, if_false, and_self, and_true, true_and, not_false_eq_true, not_true_eq_false, fd_Mo_come_125, fd_Mo_come_127, fd_Mo_come_129, hlt]
    exact hx g f a1 a2 a3
  | m + 1, i, g, hm, hi, f, a1, a2, a3 => by
    obtain ⟨i', rfl⟩ : ∃ i', i = i' + 1 := ⟨i - 1, by omega⟩
    obtain ⟨k72, r12, r13, r14, k74, n74, k75, n75, k76, n76⟩ := rt_ar (hS.fi f (by simp)).1
    have hlt : nI p < nI (i' + 1) := nI_lt (by omega) (by omega)
    have i1 := am_inb (c := i') (N := 64) (by omega) (by omega)
    have c1 : (nI i').toNatClampNeg = i' := nI_clamp (by omega)
    have i2 : (nI (i' + 1) < 0 ∨ 63 ≤ i') = False := eq_false (fun q => by rcases q with q | q; exact nI_pos (by omega) q; omega)
    have c2 : (nI (i' + 1)).toNatClampNeg = i' + 1 := nI_clamp (by omega)
    have em : nI (i' + 1) - 1 = nI i' := nI_pred i'
    have em2 : nI (i' + 1) + -1 = nI i' := by rw [← em, Int32.sub_eq_add_neg]
    refine am_go [132, 186] 3 ?_
    simp only [am_wp, am_stp, am_en, am_as, am_pad, am_nth, am_set, am_st1, am_st2, am_kl, am_kill, am_mem, am_fv, am_tk, am_wt, am_bk, Option.toList, List.cons_append, List.nil_append, Nat.reduceAdd, Nat.reduceEqDiff, Nat.reduceLeDiff, reduceIte, Nat.reduceLT, or_self, true_or, or_true, if_true, if_false, and_self, and_true, true_and, not_false_eq_true, not_true_eq_false, fd_Mo_come_125, fd_Mo_come_127, fd_Mo_come_129, hlt]
    refine am_go [] 10 ?_
    simp only [am_wp, am_stp, am_en, am_as, am_pad, am_nth, am_set, am_st1, am_st2, am_kl, am_kill, am_mem, am_fv, am_tk, am_wt, am_bk, Option.toList, List.cons_append, List.nil_append, Nat.reduceAdd, Nat.reduceEqDiff, Nat.reduceLeDiff, reduceIte, Nat.reduceLT, or_self, true_or, or_true, if_true, if_false, and_self, and_true, true_and, not_false_eq_true, not_true_eq_false, fd_Mo_come_132, fd_Mo_come_133, fd_Mo_come_136, fd_Mo_come_138, fd_Mo_come_139, fd_Mo_come_142, fd_Mo_come_144, fd_Mo_come_145, fd_Mo_come_146, fd_Mo_come_147, k72, r12, k74, n74, i1, c1, i2, c2, em]
    refine am_go [] 10 ?_
    simp only [am_wp, am_stp, am_en, am_as, am_pad, am_nth, am_set, am_st1, am_st2, am_kl, am_kill, am_mem, am_fv, am_tk, am_wt, am_bk, Option.toList, List.cons_append, List.nil_append, Nat.reduceAdd, Nat.reduceEqDiff, Nat.reduceLeDiff, reduceIte, Nat.reduceLT, or_self, true_or, or_true, if_true, if_false, and_self, and_true, true_and, not_false_eq_true, not_true_eq_false, fd_Mo_come_148, fd_Mo_come_149, fd_Mo_come_152, fd_Mo_come_154, fd_Mo_come_155, fd_Mo_come_158, fd_Mo_come_160, fd_Mo_come_161, fd_Mo_come_162, fd_Mo_come_163, hx_nx_sI, hx_ce_sI, hx_sl_sI, hx_kd_sI, hx_ln_sI, hx_I_sI, hx_L_sI, hx_R_sI, hx_nx_sL, hx_ce_sL, hx_sl_sL, hx_kd_sL, hx_ln_sL, hx_I_sL, hx_L_sL, hx_R_sL, hx_nx_sR, hx_ce_sR, hx_sl_sR, hx_kd_sR, hx_ln_sR, hx_I_sR, hx_L_sR, hx_R_sR, hx_nx_al, hx_ce_al, hx_sl_al, hx_kd_al, hx_ln_al, hx_I_al, hx_L_al, hx_R_al, hx_nx_row, hx_ce_row, hx_sl_row, hx_kd_row, hx_ln_row, hx_I_row, hx_L_row, hx_R_row, hx_nx_mk, hx_kd_mk, hx_ln_mk, hx_I_mk, hx_L_mk, hx_R_mk, k72, r13, k75, n75, i1, c1, i2, c2, em]
    refine am_go [] 10 ?_
    simp only [am_wp, am_stp, am_en, am_as, am_pad, am_nth, am_set, am_st1, am_st2, am_kl, am_kill, am_mem, am_fv, am_tk, am_wt, am_bk, Option.toList, List.cons_append, List.nil_append, Nat.reduceAdd, Nat.reduceEqDiff, Nat.reduceLeDiff, reduceIte, Nat.reduceLT, or_self, true_or, or_true, if_true, if_false, and_self, and_true, true_and, not_false_eq_true, not_true_eq_false, fd_Mo_come_164, fd_Mo_come_165, fd_Mo_come_168, fd_Mo_come_170, fd_Mo_come_171, fd_Mo_come_174, fd_Mo_come_176, fd_Mo_come_177, fd_Mo_come_178, fd_Mo_come_179, hx_nx_sI, hx_ce_sI, hx_sl_sI, hx_kd_sI, hx_ln_sI, hx_I_sI, hx_L_sI, hx_R_sI, hx_nx_sL, hx_ce_sL, hx_sl_sL, hx_kd_sL, hx_ln_sL, hx_I_sL, hx_L_sL, hx_R_sL, hx_nx_sR, hx_ce_sR, hx_sl_sR, hx_kd_sR, hx_ln_sR, hx_I_sR, hx_L_sR, hx_R_sR, hx_nx_al, hx_ce_al, hx_sl_al, hx_kd_al, hx_ln_al, hx_I_al, hx_L_al, hx_R_al, hx_nx_row, hx_ce_row, hx_sl_row, hx_kd_row, hx_ln_row, hx_I_row, hx_L_row, hx_R_row, hx_nx_mk, hx_kd_mk, hx_ln_mk, hx_I_mk, hx_L_mk, hx_R_mk, k72, r14, k76, n76, i1, c1, i2, c2, em]
    refine am_go [125] 3 ?_
    simp only [am_wp, am_stp, am_en, am_as, am_pad, am_nth, am_set, am_st1, am_st2, am_kl, am_kill, am_mem, am_fv, am_tk, am_wt, am_bk, Option.toList, List.cons_append, List.nil_append, Nat.reduceAdd, Nat.reduceEqDiff, Nat.reduceLeDiff, reduceIte, Nat.reduceLT, or_self, true_or, or_true, if_true, if_false, and_self, and_true, true_and, not_false_eq_true, not_true_eq_false, fd_Mo_come_180, fd_Mo_come_183, em2]
    have s1 := sh_s (am_L h 74) i' n (by omega)
    have s2 := sh_s (am_I h 75) i' n (by omega)
    have s3 := sh_s (am_L h 76) i' n (by omega)
    refine l2_Mo_shift_loop hS hn hx m i' _ (by omega) (by omega) (((f.sL (by simp)).sI (by simp)).sL (by simp)) ?_ ?_ ?_
    · rw [← s1, ← a1]
      funext j
      simp only [hx_nx_sI, hx_ce_sI, hx_sl_sI, hx_kd_sI, hx_ln_sI, hx_I_sI, hx_L_sI, hx_R_sI, hx_nx_sL, hx_ce_sL, hx_sl_sL, hx_kd_sL, hx_ln_sL, hx_I_sL, hx_L_sL, hx_R_sL, hx_nx_sR, hx_ce_sR, hx_sl_sR, hx_kd_sR, hx_ln_sR, hx_I_sR, hx_L_sR, hx_R_sR, hx_nx_al, hx_ce_al, hx_sl_al, hx_kd_al, hx_ln_al, hx_I_al, hx_L_al, hx_R_al, hx_nx_row, hx_ce_row, hx_sl_row, hx_kd_row, hx_ln_row, hx_I_row, hx_L_row, hx_R_row, hx_nx_mk, hx_kd_mk, hx_ln_mk, hx_I_mk, hx_L_mk, hx_R_mk, am_wp, am_stp, am_en, am_as, am_pad, am_nth, am_set, am_st1, am_st2, am_kl, am_kill, am_mem, am_fv, am_tk, am_wt, am_bk, Option.toList, List.cons_append, List.nil_append, Nat.reduceAdd, Nat.reduceEqDiff, Nat.reduceLeDiff, reduceIte, Nat.reduceLT, or_self, true_or, or_true, if_true, if_false, and_self, and_true, true_and, not_false_eq_true, not_true_eq_false]
    · rw [← s2, ← a2]
      funext j
      simp only [hx_nx_sI, hx_ce_sI, hx_sl_sI, hx_kd_sI, hx_ln_sI, hx_I_sI, hx_L_sI, hx_R_sI, hx_nx_sL, hx_ce_sL, hx_sl_sL, hx_kd_sL, hx_ln_sL, hx_I_sL, hx_L_sL, hx_R_sL, hx_nx_sR, hx_ce_sR, hx_sl_sR, hx_kd_sR, hx_ln_sR, hx_I_sR, hx_L_sR, hx_R_sR, hx_nx_al, hx_ce_al, hx_sl_al, hx_kd_al, hx_ln_al, hx_I_al, hx_L_al, hx_R_al, hx_nx_row, hx_ce_row, hx_sl_row, hx_kd_row, hx_ln_row, hx_I_row, hx_L_row, hx_R_row, hx_nx_mk, hx_kd_mk, hx_ln_mk, hx_I_mk, hx_L_mk, hx_R_mk, am_wp, am_stp, am_en, am_as, am_pad, am_nth, am_set, am_st1, am_st2, am_kl, am_kill, am_mem, am_fv, am_tk, am_wt, am_bk, Option.toList, List.cons_append, List.nil_append, Nat.reduceAdd, Nat.reduceEqDiff, Nat.reduceLeDiff, reduceIte, Nat.reduceLT, or_self, true_or, or_true, if_true, if_false, and_self, and_true, true_and, not_false_eq_true, not_true_eq_false]
    · rw [← s3, ← a3]
      funext j
      simp only [hx_nx_sI, hx_ce_sI, hx_sl_sI, hx_kd_sI, hx_ln_sI, hx_I_sI, hx_L_sI, hx_R_sI, hx_nx_sL, hx_ce_sL, hx_sl_sL, hx_kd_sL, hx_ln_sL, hx_I_sL, hx_L_sL, hx_R_sL, hx_nx_sR, hx_ce_sR, hx_sl_sR, hx_kd_sR, hx_ln_sR, hx_I_sR, hx_L_sR, hx_R_sR, hx_nx_al, hx_ce_al, hx_sl_al, hx_kd_al, hx_ln_al, hx_I_al, hx_L_al, hx_R_al, hx_nx_row, hx_ce_row, hx_sl_row, hx_kd_row, hx_ln_row, hx_I_row, hx_L_row, hx_R_row, hx_nx_mk, hx_kd_mk, hx_ln_mk, hx_I_mk, hx_L_mk, hx_R_mk, am_wp, am_stp, am_en, am_as, am_pad, am_nth, am_set, am_st1, am_st2, am_kl, am_kill, am_mem, am_fv, am_tk, am_wt, am_bk, Option.toList, List.cons_append, List.nil_append, Nat.reduceAdd, Nat.reduceEqDiff, Nat.reduceLeDiff, reduceIte, Nat.reduceLT, or_self, true_or, or_true, if_true, if_false, and_self, and_true, true_and, not_false_eq_true, not_true_eq_false]
