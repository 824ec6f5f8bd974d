/-! THE REFERENCE'S CALLS, 3: release, views, small calls -/
theorem rx_rel_loop {d P m : Nat} {x2 : Int32} {E : Nat → List ent} {now : List Nat} {mk : Nat → List Nat} {h0 h : am_H} {Q : am_O → am_H → Prop} (hS : mo_Sk h) (R : rR P h0 E now mk) (hm : m < 8) (h87 : am_I h0 87 m = 1) (e88 : am_I h 88 = am_I h0 88) (e89 : am_I h 89 = am_I h0 89)
    (hx : ∀ g x3, am_fi [77] h g → (∀ t, t < 100 → am_I g 77 t = nI ((al now mk).count t - (mk m).count t)) → am_Ex nm_pr d mt_Mo_release (91, [.ref 72, .int (nI m), .int x2, .int x3], [], g) Q) : ∀ (r k : Nat) (g : am_H), r + k = (mk m).length → am_fi [77] h g → (∀ t, t < 100 → am_I g 77 t = nI ((al now mk).count t - ((mk m).take k).count t)) →
    am_Ex nm_pr d mt_Mo_release (55, [.ref 72, .int (nI m), .int x2, .int (nI k)], [], g) Q
  | r, k, g, hr, F, v77 => by
    obtain ⟨-, m9, c88, c89⟩ : am_I h0 87 m = 1 ∧ (mk m).length ≤ 9 ∧ am_I h0 88 m = nI (mk m).length ∧ ∀ k s, (mk m)[k]? = some s → am_I h0 89 (9 * m + k) = nI s := by
      rcases R.2.1 m hm with ⟨z, -⟩ | z
      · rw [h87] at z; exact absurd z (by decide)
      · exact z
    have S := hS.fi F
    have im := am_inb (c := m) (N := 8) (by omega) (by omega)
    have qm : (nI m).toNatClampNeg = m := nI_clamp (by omega)
    have g88 : am_I g 88 m = nI (mk m).length := by rw [F.2.2.2.2.2.2.1 88 (by decide), e88]; exact c88
    cases r with
    | zero =>
      have e : k = (mk m).length := by omega
      subst e
      have l1 : ¬ nI (mk m).length < nI (mk m).length := nI_nlt (Nat.le_refl _) (by omega)
      refine am_go [65, 91] 6 ?_
      simp only [am_wp, am_stp, am_en, am_as, am_pad, am_nth, am_set, am_st1, am_st2, am_kl, am_kill, am_mem, am_fv, am_tk, am_wt, am_bk, Option.toList, List.cons_append, List.nil_append, Nat.reduceAdd, Nat.reduceEqDiff, Nat.reduceLeDiff, reduceIte, Nat.reduceLT, or_self, true_or, or_true, if_true, if_false, and_self, and_true, true_and, not_false_eq_true, not_true_eq_false, fd_Mo_release_55, fd_Mo_release_56, fd_Mo_release_57, fd_Mo_release_60, fd_Mo_release_61, fd_Mo_release_62, S.all, im, qm, g88, l1]
      rw [List.take_length] at v77
      exact hx g _ F v77
    | succ r =>
      have l1 : nI k < nI (mk m).length := nI_lt (by omega) (by omega)
      obtain ⟨s, hs⟩ : ∃ s, (mk m)[k]? = some s := ⟨(mk m)[k]'(by omega), List.getElem?_eq_getElem (by omega)⟩
      have tk : (mk m).take (k + 1) = (mk m).take k ++ [s] := take_snoc hs
      have c1 : ((mk m).take (k + 1)).count s = ((mk m).take k).count s + 1 := by rw [tk, List.count_append]; simp
      have a1 : ((mk m).take (k + 1)).count s ≤ (mk m).count s := (List.take_sublist _ _).count_le _
      have a2 : (mk m).count s ≤ (al now mk).count s := by
        have := al_cnt (now := now) (l := []) (mk := mk) hm s
        simp only [List.count_nil, Nat.add_zero] at this
        omega
      have hin : s ∈ al now mk := List.count_pos_iff.mp (by omega)
      have hs100 := (R.2.2.1.2 s hin).1
      have a81 := R.a81
      have cl := cnt_le (al now mk) s
      have g89 : am_I g 89 (9 * m + k) = nI s := by rw [F.2.2.2.2.2.2.1 89 (by decide), e89]; exact c89 k s hs
      have g77 := v77 s hs100
      have i2 := am_inb (c := s) (N := 100) (by omega) (by omega)
      have q2 : (nI s).toNatClampNeg = s := nI_clamp (by omega)
      have e9 : 9 * nI m = nI (9 * m) := (Int32.ofNat_mul 9 m).symm
      have i3 := am_inb (c := 9 * m + k) (N := 72) (by omega) (by omega)
      have q3 : (nI (9 * m + k)).toNatClampNeg = 9 * m + k := nI_clamp (by omega)
      have em : nI ((al now mk).count s - ((mk m).take k).count s) - 1 = nI ((al now mk).count s - ((mk m).take (k + 1)).count s) := by
        have e0 : nI ((al now mk).count s - ((mk m).take k).count s) - 1 = nI ((al now mk).count s - ((mk m).take k).count s - 1) := nI_sub (b := 1) (by omega)
        rw [e0, show (al now mk).count s - ((mk m).take k).count s - 1 = (al now mk).count s - ((mk m).take (k + 1)).count s by omega]
      refine am_go [65, 91] 6 ?_
      simp only [am_wp, am_stp, am_en, am_as, am_pad, am_nth, am_set, am_st1, am_st2, am_kl, am_kill, am_mem, am_fv, am_tk, am_wt, am_bk, Option.toList, List.cons_append, List.nil_append, Nat.reduceAdd, Nat.reduceEqDiff, Nat.reduceLeDiff, reduceIte, Nat.reduceLT, or_self, true_or, or_true, if_true, if_false, and_self, and_true, true_and, not_false_eq_true, not_true_eq_false, fd_Mo_release_55, fd_Mo_release_56, fd_Mo_release_57, fd_Mo_release_60, fd_Mo_release_61, fd_Mo_release_62, S.all, im, qm, g88, l1]
      refine am_go [55] 17 ?_
      simp only [am_wp, am_stp, am_en, am_as, am_pad, am_nth, am_set, am_st1, am_st2, am_kl, am_kill, am_mem, am_fv, am_tk, am_wt, am_bk, Option.toList, List.cons_append, List.nil_append, Nat.reduceAdd, Nat.reduceEqDiff, Nat.reduceLeDiff, reduceIte, Nat.reduceLT, or_self, true_or, or_true, if_true, if_false, and_self, and_true, true_and, not_false_eq_true, not_true_eq_false, fd_Mo_release_65, fd_Mo_release_66, fd_Mo_release_69, fd_Mo_release_70, fd_Mo_release_73, fd_Mo_release_75, fd_Mo_release_76, fd_Mo_release_77, fd_Mo_release_78, fd_Mo_release_79, fd_Mo_release_80, fd_Mo_release_81, fd_Mo_release_82, fd_Mo_release_83, fd_Mo_release_84, fd_Mo_release_85, fd_Mo_release_88, S.all, e9, nI_add, i3, q3, g89, i2, q2, g77, em, nI_1]
      refine rx_rel_loop hS R hm h87 e88 e89 hx r (k + 1) _ (by omega) (F.sI (by simp)) (fun t ht => ?_)
      rw [hx_I_sI, if_pos rfl]
      by_cases e : t = s
      · subst e
        rw [if_pos rfl]
      · rw [if_neg e, v77 t ht, tk, List.count_append]
        have : [s].count t = 0 := by simp [List.count_cons, Ne.symm e]
        rw [this]
        rfl
theorem rx_release {d P : Nat} {v : Int32} {h : am_H} (R : rI P h) : am_Rt nm_pr (d + 3) mi_Mo_release [.ref 72, .int v] h (fun o h' => iany o ∧ rq P h h') := by
  have hS := R.1.1
  have q0 := rq.refl R
  refine am_in' (d := d + 2) mt_Mo_release 4 rfl rfl rfl ?_
  have no : ∀ c : Int32, c ≠ 0 → am_Ex nm_pr (d + 2) mt_Mo_release (36, [.ref 72, .int v, .retAddr 0, .retAddr 0], [.int c, .ref 72], h) (fun o h' => iany o ∧ rq P h h') := fun c hc => by
    refine am_go [39] 1 ?_
    simp only [am_wp, am_stp, am_en, am_as, am_pad, am_nth, am_set, am_st1, am_st2, am_kl, am_kill, am_mem, am_fv, am_tk, am_wt, am_bk, Option.toList, List.cons_append, List.nil_append, Nat.reduceAdd, Nat.reduceEqDiff, Nat.reduceLeDiff, reduceIte, Nat.reduceLT, or_self, true_or, or_true, if_true, if_false, and_self, and_true, true_and, not_false_eq_true, not_true_eq_false, fd_Mo_release_36, hS.all]
    have q1 := q0.s (j := 0) (v := c) (by unfold rJ; omega)
    have e0 : am_I (am_sI h 72 0 c) 72 0 = c := by rw [hx_I_sI, if_pos rfl, if_pos rfl]
    generalize am_sI h 72 0 c = g at *
    have S1 := q1.1.1.1
    refine am_go [46, 48] 3 ?_
    simp only [am_wp, am_stp, am_en, am_as, am_pad, am_nth, am_set, am_st1, am_st2, am_kl, am_kill, am_mem, am_fv, am_tk, am_wt, am_bk, Option.toList, List.cons_append, List.nil_append, Nat.reduceAdd, Nat.reduceEqDiff, Nat.reduceLeDiff, reduceIte, Nat.reduceLT, or_self, true_or, or_true, if_true, if_false, and_self, and_true, true_and, not_false_eq_true, not_true_eq_false, fd_Mo_release_39, fd_Mo_release_40, fd_Mo_release_43, S1.all, e0, hc]
    refine am_go [] 2 ?_
    simp only [am_wp, am_stp, am_en, am_as, am_pad, am_nth, am_set, am_st1, am_st2, am_kl, am_kill, am_mem, am_fv, am_tk, am_wt, am_bk, Option.toList, List.cons_append, List.nil_append, Nat.reduceAdd, Nat.reduceEqDiff, Nat.reduceLeDiff, reduceIte, Nat.reduceLT, or_self, true_or, or_true, if_true, if_false, and_self, and_true, true_and, not_false_eq_true, not_true_eq_false, fd_Mo_release_46, fd_Mo_release_47, S1.all]
    exact ⟨⟨_, rfl⟩, q1⟩
  have bad : am_Ex nm_pr (d + 2) mt_Mo_release (31, [.ref 72, .int v, .retAddr 0, .retAddr 0], [.ref 72], h) (fun o h' => iany o ∧ rq P h h') := by
    refine am_go [36] 2 ?_
    simp only [am_wp, am_stp, am_en, am_as, am_pad, am_nth, am_set, am_st1, am_st2, am_kl, am_kill, am_mem, am_fv, am_tk, am_wt, am_bk, Option.toList, List.cons_append, List.nil_append, Nat.reduceAdd, Nat.reduceEqDiff, Nat.reduceLeDiff, reduceIte, Nat.reduceLT, or_self, true_or, or_true, if_true, if_false, and_self, and_true, true_and, not_false_eq_true, not_true_eq_false, fd_Mo_release_31, fd_Mo_release_32, hS.all]
    exact no 2 (by decide)
  refine am_go [8, 12] 4 ?_
  simp only [am_wp, am_stp, am_en, am_as, am_pad, am_nth, am_set, am_st1, am_st2, am_kl, am_kill, am_mem, am_fv, am_tk, am_wt, am_bk, Option.toList, List.cons_append, List.nil_append, Nat.reduceAdd, Nat.reduceEqDiff, Nat.reduceLeDiff, reduceIte, Nat.reduceLT, or_self, true_or, or_true, if_true, if_false, and_self, and_true, true_and, not_false_eq_true, not_true_eq_false, fd_Mo_release_0, fd_Mo_release_1, fd_Mo_release_2, fd_Mo_release_5, hS.all]
  refine wif ?_ ?_
  rotate_left
  · refine am_go [36] 2 ?_
    simp only [am_wp, am_stp, am_en, am_as, am_pad, am_nth, am_set, am_st1, am_st2, am_kl, am_kill, am_mem, am_fv, am_tk, am_wt, am_bk, Option.toList, List.cons_append, List.nil_append, Nat.reduceAdd, Nat.reduceEqDiff, Nat.reduceLeDiff, reduceIte, Nat.reduceLT, or_self, true_or, or_true, if_true, if_false, and_self, and_true, true_and, not_false_eq_true, not_true_eq_false, fd_Mo_release_8, fd_Mo_release_9, hS.all]
    exact no 1 (by decide)
  by_cases e1 : v < 0
  · refine am_go [16, 31] 2 ?_
    simp only [am_wp, am_stp, am_en, am_as, am_pad, am_nth, am_set, am_st1, am_st2, am_kl, am_kill, am_mem, am_fv, am_tk, am_wt, am_bk, Option.toList, List.cons_append, List.nil_append, Nat.reduceAdd, Nat.reduceEqDiff, Nat.reduceLeDiff, reduceIte, Nat.reduceLT, or_self, true_or, or_true, if_true, if_false, and_self, and_true, true_and, not_false_eq_true, not_true_eq_false, fd_Mo_release_12, fd_Mo_release_13, hS.all, e1]
    exact bad
  refine am_go [16, 31] 2 ?_
  simp only [am_wp, am_stp, am_en, am_as, am_pad, am_nth, am_set, am_st1, am_st2, am_kl, am_kill, am_mem, am_fv, am_tk, am_wt, am_bk, Option.toList, List.cons_append, List.nil_append, Nat.reduceAdd, Nat.reduceEqDiff, Nat.reduceLeDiff, reduceIte, Nat.reduceLT, or_self, true_or, or_true, if_true, if_false, and_self, and_true, true_and, not_false_eq_true, not_true_eq_false, fd_Mo_release_12, fd_Mo_release_13, hS.all, e1]
  by_cases e2 : 7 < v
  · refine am_go [22, 31] 3 ?_
    simp only [am_wp, am_stp, am_en, am_as, am_pad, am_nth, am_set, am_st1, am_st2, am_kl, am_kill, am_mem, am_fv, am_tk, am_wt, am_bk, Option.toList, List.cons_append, List.nil_append, Nat.reduceAdd, Nat.reduceEqDiff, Nat.reduceLeDiff, reduceIte, Nat.reduceLT, or_self, true_or, or_true, if_true, if_false, and_self, and_true, true_and, not_false_eq_true, not_true_eq_false, fd_Mo_release_16, fd_Mo_release_17, fd_Mo_release_19, hS.all, e2]
    exact bad
  refine am_go [22, 31] 3 ?_
  simp only [am_wp, am_stp, am_en, am_as, am_pad, am_nth, am_set, am_st1, am_st2, am_kl, am_kill, am_mem, am_fv, am_tk, am_wt, am_bk, Option.toList, List.cons_append, List.nil_append, Nat.reduceAdd, Nat.reduceEqDiff, Nat.reduceLeDiff, reduceIte, Nat.reduceLT, or_self, true_or, or_true, if_true, if_false, and_self, and_true, true_and, not_false_eq_true, not_true_eq_false, fd_Mo_release_16, fd_Mo_release_17, fd_Mo_release_19, hS.all, e2]
  obtain ⟨m, hm', rfl⟩ := nI_of e1
  have hm : m < 8 := by
    rcases Nat.lt_or_ge 7 m with q | q
    · exact absurd ((nI_ltI (a := 7) (by decide) hm').mpr q) e2
    · omega
  have im := am_inb (c := m) (N := 8) (by omega) (by omega)
  have qm : (nI m).toNatClampNeg = m := nI_clamp (by omega)
  by_cases e87 : am_I h 87 m = 0
  · refine am_go [31, 35] 5 ?_
    simp only [am_wp, am_stp, am_en, am_as, am_pad, am_nth, am_set, am_st1, am_st2, am_kl, am_kill, am_mem, am_fv, am_tk, am_wt, am_bk, Option.toList, List.cons_append, List.nil_append, Nat.reduceAdd, Nat.reduceEqDiff, Nat.reduceLeDiff, reduceIte, Nat.reduceLT, or_self, true_or, or_true, if_true, if_false, and_self, and_true, true_and, not_false_eq_true, not_true_eq_false, fd_Mo_release_22, fd_Mo_release_23, fd_Mo_release_26, fd_Mo_release_27, fd_Mo_release_28, hS.all, im, qm, e87]
    exact bad
  refine am_go [31, 35] 5 ?_
  simp only [am_wp, am_stp, am_en, am_as, am_pad, am_nth, am_set, am_st1, am_st2, am_kl, am_kill, am_mem, am_fv, am_tk, am_wt, am_bk, Option.toList, List.cons_append, List.nil_append, Nat.reduceAdd, Nat.reduceEqDiff, Nat.reduceLeDiff, reduceIte, Nat.reduceLT, or_self, true_or, or_true, if_true, if_false, and_self, and_true, true_and, not_false_eq_true, not_true_eq_false, fd_Mo_release_22, fd_Mo_release_23, fd_Mo_release_26, fd_Mo_release_27, fd_Mo_release_28, hS.all, im, qm, e87]
  refine am_go [39] 2 ?_
  simp only [am_wp, am_stp, am_en, am_as, am_pad, am_nth, am_set, am_st1, am_st2, am_kl, am_kill, am_mem, am_fv, am_tk, am_wt, am_bk, Option.toList, List.cons_append, List.nil_append, Nat.reduceAdd, Nat.reduceEqDiff, Nat.reduceLeDiff, reduceIte, Nat.reduceLT, or_self, true_or, or_true, if_true, if_false, and_self, and_true, true_and, not_false_eq_true, not_true_eq_false, fd_Mo_release_35, fd_Mo_release_36, hS.all]
  have q1 := q0.s (j := 0) (v := 0) (by unfold rJ; omega)
  have e0 : am_I (am_sI h 72 0 0) 72 0 = 0 := by rw [hx_I_sI, if_pos rfl, if_pos rfl]
  have e87' : ¬ am_I (am_sI h 72 0 0) 87 m = 0 := by rw [hx_I_sI, if_neg (by decide)]; exact e87
  generalize am_sI h 72 0 0 = g at *
  obtain ⟨C, E, now, mk, RR⟩ := id q1.1
  have P1024 := C.2.2.1
  have S1 := C.1
  have g87 : am_I g 87 m = 1 := by
    rcases RR.2.1 m hm with ⟨z, -⟩ | ⟨z, -⟩
    · exact absurd z e87'
    · exact z
  refine am_go [46, 48] 3 ?_
  simp only [am_wp, am_stp, am_en, am_as, am_pad, am_nth, am_set, am_st1, am_st2, am_kl, am_kill, am_mem, am_fv, am_tk, am_wt, am_bk, Option.toList, List.cons_append, List.nil_append, Nat.reduceAdd, Nat.reduceEqDiff, Nat.reduceLeDiff, reduceIte, Nat.reduceLT, or_self, true_or, or_true, if_true, if_false, and_self, and_true, true_and, not_false_eq_true, not_true_eq_false, fd_Mo_release_39, fd_Mo_release_40, fd_Mo_release_43, S1.all, e0]
  refine am_go [] 2 ?_
  simp only [am_wp, am_stp, am_en, am_as, am_pad, am_nth, am_set, am_st1, am_st2, am_kl, am_kill, am_mem, am_fv, am_tk, am_wt, am_bk, Option.toList, List.cons_append, List.nil_append, Nat.reduceAdd, Nat.reduceEqDiff, Nat.reduceLeDiff, reduceIte, Nat.reduceLT, or_self, true_or, or_true, if_true, if_false, and_self, and_true, true_and, not_false_eq_true, not_true_eq_false, fd_Mo_release_48, fd_Mo_release_49, S1.all]
  refine am_call (l2_Mo_freeCount (d := d) (by have := C.2.1; omega) P1024 S1 C.2.2.2.1 (RR.W P1024)) (fun o g2 z => ?_)
  obtain ⟨rfl, F2, L2, v2⟩ := z
  have S2 := S1.fi F2
  simp only [am_wp, am_stp, am_en, am_as, am_pad, am_nth, am_set, am_st1, am_st2, am_kl, am_kill, am_mem, am_fv, am_tk, am_wt, am_bk, Option.toList, List.cons_append, List.nil_append, Nat.reduceAdd, Nat.reduceEqDiff, Nat.reduceLeDiff, reduceIte, Nat.reduceLT, or_self, true_or, or_true, if_true, if_false, and_self, and_true, true_and, not_false_eq_true, not_true_eq_false]
  refine am_go [55] 3 ?_
  simp only [am_wp, am_stp, am_en, am_as, am_pad, am_nth, am_set, am_st1, am_st2, am_kl, am_kill, am_mem, am_fv, am_tk, am_wt, am_bk, Option.toList, List.cons_append, List.nil_append, Nat.reduceAdd, Nat.reduceEqDiff, Nat.reduceLeDiff, reduceIte, Nat.reduceLT, or_self, true_or, or_true, if_true, if_false, and_self, and_true, true_and, not_false_eq_true, not_true_eq_false, fd_Mo_release_52, fd_Mo_release_53, fd_Mo_release_54]
  have w2 := F2.2.2.2.2.2.2.1
  refine rx_rel_loop (h0 := g) S2 RR hm g87 (w2 88 (by decide)) (w2 89 (by decide)) (fun g3 x3 F3 y77 => ?_) (mk m).length 0 g2 (by omega) am_fi.refl (fun t ht => by rw [w2 77 (by decide)]; exact RR.2.2.1.1 t ht)
  have F23 : am_fi [77, 90] g g3 := (F2.sub (by decide)).trans (F3.sub (by decide))
  have S3 := S1.fi F23
  have a0 : (0 : Int32) &&& 1 = 0 := by decide
  refine am_go [98] 5 ?_
  simp only [am_wp, am_stp, am_en, am_as, am_pad, am_nth, am_set, am_st1, am_st2, am_kl, am_kill, am_mem, am_fv, am_tk, am_wt, am_bk, Option.toList, List.cons_append, List.nil_append, Nat.reduceAdd, Nat.reduceEqDiff, Nat.reduceLeDiff, reduceIte, Nat.reduceLT, or_self, true_or, or_true, if_true, if_false, and_self, and_true, true_and, not_false_eq_true, not_true_eq_false, fd_Mo_release_91, fd_Mo_release_92, fd_Mo_release_95, fd_Mo_release_96, fd_Mo_release_97, S3.all, im, qm, a0]
  have F4 : am_fi [77, 87, 90] g (am_sI g3 87 m 0) := (F23.sub (by decide)).sI (by decide)
  have u77 : am_I (am_sI g3 87 m 0) 77 = am_I g3 77 := by funext j; rw [hx_I_sI, if_neg (by decide)]
  have u87 : ∀ j, am_I (am_sI g3 87 m 0) 87 j = if j = m then 0 else am_I g 87 j := fun j => by rw [hx_I_sI, if_pos rfl, F23.2.2.2.2.2.2.1 87 (by decide)]
  generalize am_sI g3 87 m 0 = g4 at *
  have w := F4.2.2.2.2.2.2.1
  have C4 : rC P g4 := C.v F4 (by decide) (by rw [w 72 (by decide)]) (by rw [w 72 (by decide)]) (by rw [w 72 (by decide)]) (by rw [w 72 (by decide)]) (by rw [w 72 (by decide)]; exact C.a8) (C.b.eq (w 73 (by decide)))
  have R4 : rR P g4 E now (umk mk m []) := by
    refine ⟨?_, fun i hi => ?_, ⟨fun t ht => ?_, fun s hs => ?_⟩, ?_⟩
    · unfold rR_n lev
      rw [w 72 (by decide), w 86 (by decide), w 79 (by decide)]; exact RR.1
    · by_cases e : i = m
      · subst e
        exact Or.inl ⟨by rw [u87, if_pos rfl], by unfold umk; rw [if_pos rfl]⟩
      · have em : umk mk m [] i = mk i := by unfold umk; rw [if_neg e]
        rw [em, u87, if_neg e, w 88 (by decide), w 89 (by decide)]
        exact RR.2.1 i hi
    · rw [u77, y77 t ht]
      have := al_cnt (now := now) (l := []) (mk := mk) hm t
      simp only [List.count_nil, Nat.add_zero] at this
      rw [show (al now mk).count t - (mk m).count t = (al now (umk mk m [])).count t by omega]
    · rcases al_mem hm hs with a | a
      · exact (RR.2.2.1.2 s a).eq P1024 (by rw [w 80 (by decide)]) (fun k _ => by rw [w 82 (by decide)]) (fun x hx => hx.eq (fun j _ => by rw [w 73 (by decide)]))
      · simp at a
    · rw [w 72 (by decide)]
      rcases RR.2.2.2 with a | ⟨a1, a2⟩
      · exact Or.inl a
      · refine Or.inr ⟨a1, List.eq_nil_iff_forall_not_mem.mpr (fun s hs => ?_)⟩
        rcases al_mem hm hs with b | b
        · rw [a2] at b; simp at b
        · simp at b
  have S4 := C4.1
  refine am_go [] 2 ?_
  simp only [am_wp, am_stp, am_en, am_as, am_pad, am_nth, am_set, am_st1, am_st2, am_kl, am_kill, am_mem, am_fv, am_tk, am_wt, am_bk, Option.toList, List.cons_append, List.nil_append, Nat.reduceAdd, Nat.reduceEqDiff, Nat.reduceLeDiff, reduceIte, Nat.reduceLT, or_self, true_or, or_true, if_true, if_false, and_self, and_true, true_and, not_false_eq_true, not_true_eq_false, fd_Mo_release_98, fd_Mo_release_99, S4.all]
  refine am_call (l2_Mo_freeCount (d := d) (by have := C.2.1; omega) P1024 S4 C4.2.2.2.1 (R4.W P1024)) (fun o g5 z => ?_)
  obtain ⟨rfl, F5, L5, v5⟩ := z
  have S5 := S4.fi F5
  simp only [am_wp, am_stp, am_en, am_as, am_pad, am_nth, am_set, am_st1, am_st2, am_kl, am_kill, am_mem, am_fv, am_tk, am_wt, am_bk, Option.toList, List.cons_append, List.nil_append, Nat.reduceAdd, Nat.reduceEqDiff, Nat.reduceLeDiff, reduceIte, Nat.reduceLT, or_self, true_or, or_true, if_true, if_false, and_self, and_true, true_and, not_false_eq_true, not_true_eq_false]
  refine am_go [] 3 ?_
  simp only [am_wp, am_stp, am_en, am_as, am_pad, am_nth, am_set, am_st1, am_st2, am_kl, am_kill, am_mem, am_fv, am_tk, am_wt, am_bk, Option.toList, List.cons_append, List.nil_append, Nat.reduceAdd, Nat.reduceEqDiff, Nat.reduceLeDiff, reduceIte, Nat.reduceLT, or_self, true_or, or_true, if_true, if_false, and_self, and_true, true_and, not_false_eq_true, not_true_eq_false, fd_Mo_release_102, fd_Mo_release_103, fd_Mo_release_104, S5.all]
  have q4 : rq P h g4 := ⟨⟨C4, E, now, _, R4⟩, q1.2.trans (F4.sub (by decide))⟩
  exact ⟨⟨_, rfl⟩, q4.trans (rq.fr q4.1 F5 (by simp [rB]) (fun j _ => by rw [F5.2.2.2.2.2.2.1 72 (by simp)]))⟩
theorem rx_state {d P : Nat} {h : am_H} (R : rI P h) : am_Rt nm_pr (d + 1) mi_Mo_state [.ref 72] h (fun o h' => iany o ∧ rq P h h') := by
  have hS := R.1.1
  have q0 := rq.refl R
  refine am_in' (d := d) mt_Mo_state 1 rfl rfl rfl ?_
  refine am_go [5] 3 ?_
  simp only [am_wp, am_stp, am_en, am_as, am_pad, am_nth, am_set, am_st1, am_st2, am_kl, am_kill, am_mem, am_fv, am_tk, am_wt, am_bk, Option.toList, List.cons_append, List.nil_append, Nat.reduceAdd, Nat.reduceEqDiff, Nat.reduceLeDiff, reduceIte, Nat.reduceLT, or_self, true_or, or_true, if_true, if_false, and_self, and_true, true_and, not_false_eq_true, not_true_eq_false, fd_Mo_state_0, fd_Mo_state_1, fd_Mo_state_2, hS.all]
  have q1 := q0.s (j := 0) (v := 0) (by unfold rJ; omega)
  generalize am_sI h 72 0 0 = g at *
  have S1 := q1.1.1.1
  refine am_go [] 3 ?_
  simp only [am_wp, am_stp, am_en, am_as, am_pad, am_nth, am_set, am_st1, am_st2, am_kl, am_kill, am_mem, am_fv, am_tk, am_wt, am_bk, Option.toList, List.cons_append, List.nil_append, Nat.reduceAdd, Nat.reduceEqDiff, Nat.reduceLeDiff, reduceIte, Nat.reduceLT, or_self, true_or, or_true, if_true, if_false, and_self, and_true, true_and, not_false_eq_true, not_true_eq_false, fd_Mo_state_5, fd_Mo_state_6, fd_Mo_state_9, S1.all]
  exact ⟨⟨_, rfl⟩, q1⟩
theorem rx_at {d P : Nat} {i v : Int32} {h : am_H} (R : rI P h) : am_Rt nm_pr (d + 1) mi_Mo_at [.ref 72, .int i, .int v] h (fun o h' => lany o ∧ rq P h h') := by
  obtain ⟨r, hr, e45⟩ := R.1.2.2.2.2.2.1
  have hS := R.1.1
  have q0 := rq.refl R
  refine am_in' (d := d) mt_Mo_at 3 rfl rfl rfl ?_
  have bad : am_Ex nm_pr d mt_Mo_at (22, [.ref 72, .int i, .int v], [.ref 72], h) (fun o h' => lany o ∧ rq P h h') := by
    have one0 : ¬ (1 : Int32) = 0 := by decide
    refine am_go [30] 3 ?_
    simp only [am_wp, am_stp, am_en, am_as, am_pad, am_nth, am_set, am_st1, am_st2, am_kl, am_kill, am_mem, am_fv, am_tk, am_wt, am_bk, Option.toList, List.cons_append, List.nil_append, Nat.reduceAdd, Nat.reduceEqDiff, Nat.reduceLeDiff, reduceIte, Nat.reduceLT, or_self, true_or, or_true, if_true, if_false, and_self, and_true, true_and, not_false_eq_true, not_true_eq_false, fd_Mo_at_22, fd_Mo_at_23, fd_Mo_at_27, hS.all]
    have q1 := q0.s (j := 0) (v := 1) (by unfold rJ; omega)
    have e0 : am_I (am_sI h 72 0 1) 72 0 = 1 := by rw [hx_I_sI, if_pos rfl, if_pos rfl]
    generalize am_sI h 72 0 1 = g at *
    have S1 := q1.1.1.1
    refine am_go [37, 41] 3 ?_
    simp only [am_wp, am_stp, am_en, am_as, am_pad, am_nth, am_set, am_st1, am_st2, am_kl, am_kill, am_mem, am_fv, am_tk, am_wt, am_bk, Option.toList, List.cons_append, List.nil_append, Nat.reduceAdd, Nat.reduceEqDiff, Nat.reduceLeDiff, reduceIte, Nat.reduceLT, or_self, true_or, or_true, if_true, if_false, and_self, and_true, true_and, not_false_eq_true, not_true_eq_false, fd_Mo_at_30, fd_Mo_at_31, fd_Mo_at_34, S1.all, e0, one0]
    refine am_go [] 3 ?_
    simp only [am_wp, am_stp, am_en, am_as, am_pad, am_nth, am_set, am_st1, am_st2, am_kl, am_kill, am_mem, am_fv, am_tk, am_wt, am_bk, Option.toList, List.cons_append, List.nil_append, Nat.reduceAdd, Nat.reduceEqDiff, Nat.reduceLeDiff, reduceIte, Nat.reduceLT, or_self, true_or, or_true, if_true, if_false, and_self, and_true, true_and, not_false_eq_true, not_true_eq_false, fd_Mo_at_37, fd_Mo_at_38, fd_Mo_at_60, S1.all]
    exact ⟨⟨_, rfl⟩, q1⟩
  by_cases e1 : i < 0
  · refine am_go [5, 22] 3 ?_
    simp only [am_wp, am_stp, am_en, am_as, am_pad, am_nth, am_set, am_st1, am_st2, am_kl, am_kill, am_mem, am_fv, am_tk, am_wt, am_bk, Option.toList, List.cons_append, List.nil_append, Nat.reduceAdd, Nat.reduceEqDiff, Nat.reduceLeDiff, reduceIte, Nat.reduceLT, or_self, true_or, or_true, if_true, if_false, and_self, and_true, true_and, not_false_eq_true, not_true_eq_false, fd_Mo_at_0, fd_Mo_at_1, fd_Mo_at_2, hS.all, e1]
    exact bad
  refine am_go [5, 22] 3 ?_
  simp only [am_wp, am_stp, am_en, am_as, am_pad, am_nth, am_set, am_st1, am_st2, am_kl, am_kill, am_mem, am_fv, am_tk, am_wt, am_bk, Option.toList, List.cons_append, List.nil_append, Nat.reduceAdd, Nat.reduceEqDiff, Nat.reduceLeDiff, reduceIte, Nat.reduceLT, or_self, true_or, or_true, if_true, if_false, and_self, and_true, true_and, not_false_eq_true, not_true_eq_false, fd_Mo_at_0, fd_Mo_at_1, fd_Mo_at_2, hS.all, e1]
  by_cases e2 : i < nI r
  · obtain ⟨p, hp, rfl⟩ := in_natL (N := r) (by omega) e1 e2
    have i1 := am_inb (c := p) (N := 200) (by omega) (by omega)
    have q1 : (nI p).toNatClampNeg = p := nI_clamp (by omega)
    refine am_go [13, 22] 4 ?_
    simp only [am_wp, am_stp, am_en, am_as, am_pad, am_nth, am_set, am_st1, am_st2, am_kl, am_kill, am_mem, am_fv, am_tk, am_wt, am_bk, Option.toList, List.cons_append, List.nil_append, Nat.reduceAdd, Nat.reduceEqDiff, Nat.reduceLeDiff, reduceIte, Nat.reduceLT, or_self, true_or, or_true, if_true, if_false, and_self, and_true, true_and, not_false_eq_true, not_true_eq_false, fd_Mo_at_5, fd_Mo_at_6, fd_Mo_at_7, fd_Mo_at_10, hS.all, e45, e2]
    refine am_go [17, 22] 2 ?_
    simp only [am_wp, am_stp, am_en, am_as, am_pad, am_nth, am_set, am_st1, am_st2, am_kl, am_kill, am_mem, am_fv, am_tk, am_wt, am_bk, Option.toList, List.cons_append, List.nil_append, Nat.reduceAdd, Nat.reduceEqDiff, Nat.reduceLeDiff, reduceIte, Nat.reduceLT, or_self, true_or, or_true, if_true, if_false, and_self, and_true, true_and, not_false_eq_true, not_true_eq_false, fd_Mo_at_13, fd_Mo_at_14, hS.all]
    refine wif bad ?_
    refine am_go [22, 26] 3 ?_
    simp only [am_wp, am_stp, am_en, am_as, am_pad, am_nth, am_set, am_st1, am_st2, am_kl, am_kill, am_mem, am_fv, am_tk, am_wt, am_bk, Option.toList, List.cons_append, List.nil_append, Nat.reduceAdd, Nat.reduceEqDiff, Nat.reduceLeDiff, reduceIte, Nat.reduceLT, or_self, true_or, or_true, if_true, if_false, and_self, and_true, true_and, not_false_eq_true, not_true_eq_false, fd_Mo_at_17, fd_Mo_at_18, fd_Mo_at_19, hS.all]
    refine wif bad ?_
    refine am_go [30] 2 ?_
    simp only [am_wp, am_stp, am_en, am_as, am_pad, am_nth, am_set, am_st1, am_st2, am_kl, am_kill, am_mem, am_fv, am_tk, am_wt, am_bk, Option.toList, List.cons_append, List.nil_append, Nat.reduceAdd, Nat.reduceEqDiff, Nat.reduceLeDiff, reduceIte, Nat.reduceLT, or_self, true_or, or_true, if_true, if_false, and_self, and_true, true_and, not_false_eq_true, not_true_eq_false, fd_Mo_at_26, fd_Mo_at_27, hS.all]
    have q2 := q0.s (j := 0) (v := 0) (by unfold rJ; omega)
    have e0 : am_I (am_sI h 72 0 0) 72 0 = 0 := by rw [hx_I_sI, if_pos rfl, if_pos rfl]
    generalize am_sI h 72 0 0 = g at *
    have S1 := q2.1.1.1
    refine am_go [37, 41] 3 ?_
    simp only [am_wp, am_stp, am_en, am_as, am_pad, am_nth, am_set, am_st1, am_st2, am_kl, am_kill, am_mem, am_fv, am_tk, am_wt, am_bk, Option.toList, List.cons_append, List.nil_append, Nat.reduceAdd, Nat.reduceEqDiff, Nat.reduceLeDiff, reduceIte, Nat.reduceLT, or_self, true_or, or_true, if_true, if_false, and_self, and_true, true_and, not_false_eq_true, not_true_eq_false, fd_Mo_at_30, fd_Mo_at_31, fd_Mo_at_34, S1.all, e0]
    refine am_go [45, 54] 2 ?_
    simp only [am_wp, am_stp, am_en, am_as, am_pad, am_nth, am_set, am_st1, am_st2, am_kl, am_kill, am_mem, am_fv, am_tk, am_wt, am_bk, Option.toList, List.cons_append, List.nil_append, Nat.reduceAdd, Nat.reduceEqDiff, Nat.reduceLeDiff, reduceIte, Nat.reduceLT, or_self, true_or, or_true, if_true, if_false, and_self, and_true, true_and, not_false_eq_true, not_true_eq_false, fd_Mo_at_41, fd_Mo_at_42, S1.all]
    refine wif ?_ ?_
    rotate_left
    · refine am_go [] 5 ?_
      simp only [am_wp, am_stp, am_en, am_as, am_pad, am_nth, am_set, am_st1, am_st2, am_kl, am_kill, am_mem, am_fv, am_tk, am_wt, am_bk, Option.toList, List.cons_append, List.nil_append, Nat.reduceAdd, Nat.reduceEqDiff, Nat.reduceLeDiff, reduceIte, Nat.reduceLT, or_self, true_or, or_true, if_true, if_false, and_self, and_true, true_and, not_false_eq_true, not_true_eq_false, fd_Mo_at_54, fd_Mo_at_55, fd_Mo_at_58, fd_Mo_at_59, fd_Mo_at_60, S1.all, i1, q1]
      exact ⟨⟨_, rfl⟩, q2⟩
    · refine am_go [] 6 ?_
      simp only [am_wp, am_stp, am_en, am_as, am_pad, am_nth, am_set, am_st1, am_st2, am_kl, am_kill, am_mem, am_fv, am_tk, am_wt, am_bk, Option.toList, List.cons_append, List.nil_append, Nat.reduceAdd, Nat.reduceEqDiff, Nat.reduceLeDiff, reduceIte, Nat.reduceLT, or_self, true_or, or_true, if_true, if_false, and_self, and_true, true_and, not_false_eq_true, not_true_eq_false, fd_Mo_at_45, fd_Mo_at_46, fd_Mo_at_49, fd_Mo_at_50, fd_Mo_at_51, fd_Mo_at_60, S1.all, i1, q1]
      exact ⟨⟨_, rfl⟩, q2⟩
  · refine am_go [13, 22] 4 ?_
    simp only [am_wp, am_stp, am_en, am_as, am_pad, am_nth, am_set, am_st1, am_st2, am_kl, am_kill, am_mem, am_fv, am_tk, am_wt, am_bk, Option.toList, List.cons_append, List.nil_append, Nat.reduceAdd, Nat.reduceEqDiff, Nat.reduceLeDiff, reduceIte, Nat.reduceLT, or_self, true_or, or_true, if_true, if_false, and_self, and_true, true_and, not_false_eq_true, not_true_eq_false, fd_Mo_at_5, fd_Mo_at_6, fd_Mo_at_7, fd_Mo_at_10, hS.all, e45, e2]
    exact bad
theorem rx_run {d P : Nat} {i v : Int32} {h : am_H} (R : rI P h) : am_Rt nm_pr (d + 1) mi_Mo_run [.ref 72, .int i, .int v] h (fun o h' => iany o ∧ rq P h h') := by
  obtain ⟨C, E, now, mk, RR⟩ := id R
  have n9 := RR.n9
  have c24 := RR.1.1
  have hS := R.1.1
  have q0 := rq.refl R
  refine am_in' (d := d) mt_Mo_run 4 rfl rfl rfl ?_
  have bad : am_Ex nm_pr d mt_Mo_run (22, [.ref 72, .int i, .int v, .retAddr 0], [.ref 72], h) (fun o h' => iany o ∧ rq P h h') := by
    have one0 : ¬ (1 : Int32) = 0 := by decide
    refine am_go [30] 3 ?_
    simp only [am_wp, am_stp, am_en, am_as, am_pad, am_nth, am_set, am_st1, am_st2, am_kl, am_kill, am_mem, am_fv, am_tk, am_wt, am_bk, Option.toList, List.cons_append, List.nil_append, Nat.reduceAdd, Nat.reduceEqDiff, Nat.reduceLeDiff, reduceIte, Nat.reduceLT, or_self, true_or, or_true, if_true, if_false, and_self, and_true, true_and, not_false_eq_true, not_true_eq_false, fd_Mo_run_22, fd_Mo_run_23, fd_Mo_run_27, hS.all]
    have q1 := q0.s (j := 0) (v := 1) (by unfold rJ; omega)
    have e0 : am_I (am_sI h 72 0 1) 72 0 = 1 := by rw [hx_I_sI, if_pos rfl, if_pos rfl]
    generalize am_sI h 72 0 1 = g at *
    have S1 := q1.1.1.1
    refine am_go [37, 39] 3 ?_
    simp only [am_wp, am_stp, am_en, am_as, am_pad, am_nth, am_set, am_st1, am_st2, am_kl, am_kill, am_mem, am_fv, am_tk, am_wt, am_bk, Option.toList, List.cons_append, List.nil_append, Nat.reduceAdd, Nat.reduceEqDiff, Nat.reduceLeDiff, reduceIte, Nat.reduceLT, or_self, true_or, or_true, if_true, if_false, and_self, and_true, true_and, not_false_eq_true, not_true_eq_false, fd_Mo_run_30, fd_Mo_run_31, fd_Mo_run_34, S1.all, e0, one0]
    refine am_go [] 2 ?_
    simp only [am_wp, am_stp, am_en, am_as, am_pad, am_nth, am_set, am_st1, am_st2, am_kl, am_kill, am_mem, am_fv, am_tk, am_wt, am_bk, Option.toList, List.cons_append, List.nil_append, Nat.reduceAdd, Nat.reduceEqDiff, Nat.reduceLeDiff, reduceIte, Nat.reduceLT, or_self, true_or, or_true, if_true, if_false, and_self, and_true, true_and, not_false_eq_true, not_true_eq_false, fd_Mo_run_37, fd_Mo_run_38, S1.all]
    exact ⟨⟨_, rfl⟩, q1⟩
  by_cases e1 : i < 0
  · refine am_go [5, 22] 3 ?_
    simp only [am_wp, am_stp, am_en, am_as, am_pad, am_nth, am_set, am_st1, am_st2, am_kl, am_kill, am_mem, am_fv, am_tk, am_wt, am_bk, Option.toList, List.cons_append, List.nil_append, Nat.reduceAdd, Nat.reduceEqDiff, Nat.reduceLeDiff, reduceIte, Nat.reduceLT, or_self, true_or, or_true, if_true, if_false, and_self, and_true, true_and, not_false_eq_true, not_true_eq_false, fd_Mo_run_0, fd_Mo_run_1, fd_Mo_run_2, hS.all, e1]
    exact bad
  refine am_go [5, 22] 3 ?_
  simp only [am_wp, am_stp, am_en, am_as, am_pad, am_nth, am_set, am_st1, am_st2, am_kl, am_kill, am_mem, am_fv, am_tk, am_wt, am_bk, Option.toList, List.cons_append, List.nil_append, Nat.reduceAdd, Nat.reduceEqDiff, Nat.reduceLeDiff, reduceIte, Nat.reduceLT, or_self, true_or, or_true, if_true, if_false, and_self, and_true, true_and, not_false_eq_true, not_true_eq_false, fd_Mo_run_0, fd_Mo_run_1, fd_Mo_run_2, hS.all, e1]
  by_cases e2 : i < nI now.length
  · obtain ⟨p, hp, rfl⟩ := in_natL (N := now.length) (by omega) e1 e2
    obtain ⟨s, hs⟩ : ∃ s, now[p]? = some s := ⟨_, List.getElem?_eq_getElem hp⟩
    obtain ⟨x1, x2⟩ := RR.ns.2.2 p s hs
    have i1 := am_inb (c := p) (N := 9) (by omega) (by omega)
    have q1 : (nI p).toNatClampNeg = p := nI_clamp (by omega)
    have i2 := am_inb (c := s) (N := 100) (by omega) (by omega)
    have q2 : (nI s).toNatClampNeg = s := nI_clamp (by omega)
    have e4 : 1024 * nI s = nI (1024 * s) := (Int32.ofNat_mul 1024 s).symm
    have i3 := am_inb (c := 1024 * s) (N := 102400) (by omega) (by omega)
    have q3 : (nI (1024 * s)).toNatClampNeg = 1024 * s := nI_clamp (by omega)
    refine am_go [13, 22] 4 ?_
    simp only [am_wp, am_stp, am_en, am_as, am_pad, am_nth, am_set, am_st1, am_st2, am_kl, am_kill, am_mem, am_fv, am_tk, am_wt, am_bk, Option.toList, List.cons_append, List.nil_append, Nat.reduceAdd, Nat.reduceEqDiff, Nat.reduceLeDiff, reduceIte, Nat.reduceLT, or_self, true_or, or_true, if_true, if_false, and_self, and_true, true_and, not_false_eq_true, not_true_eq_false, fd_Mo_run_5, fd_Mo_run_6, fd_Mo_run_7, fd_Mo_run_10, hS.all, c24, e2]
    refine am_go [17, 22] 2 ?_
    simp only [am_wp, am_stp, am_en, am_as, am_pad, am_nth, am_set, am_st1, am_st2, am_kl, am_kill, am_mem, am_fv, am_tk, am_wt, am_bk, Option.toList, List.cons_append, List.nil_append, Nat.reduceAdd, Nat.reduceEqDiff, Nat.reduceLeDiff, reduceIte, Nat.reduceLT, or_self, true_or, or_true, if_true, if_false, and_self, and_true, true_and, not_false_eq_true, not_true_eq_false, fd_Mo_run_13, fd_Mo_run_14, hS.all]
    refine wif bad ?_
    refine am_go [22, 26] 3 ?_
    simp only [am_wp, am_stp, am_en, am_as, am_pad, am_nth, am_set, am_st1, am_st2, am_kl, am_kill, am_mem, am_fv, am_tk, am_wt, am_bk, Option.toList, List.cons_append, List.nil_append, Nat.reduceAdd, Nat.reduceEqDiff, Nat.reduceLeDiff, reduceIte, Nat.reduceLT, or_self, true_or, or_true, if_true, if_false, and_self, and_true, true_and, not_false_eq_true, not_true_eq_false, fd_Mo_run_17, fd_Mo_run_18, fd_Mo_run_19, hS.all]
    refine wif bad ?_
    refine am_go [30] 2 ?_
    simp only [am_wp, am_stp, am_en, am_as, am_pad, am_nth, am_set, am_st1, am_st2, am_kl, am_kill, am_mem, am_fv, am_tk, am_wt, am_bk, Option.toList, List.cons_append, List.nil_append, Nat.reduceAdd, Nat.reduceEqDiff, Nat.reduceLeDiff, reduceIte, Nat.reduceLT, or_self, true_or, or_true, if_true, if_false, and_self, and_true, true_and, not_false_eq_true, not_true_eq_false, fd_Mo_run_26, fd_Mo_run_27, hS.all]
    have q5 := q0.s (j := 0) (v := 0) (by unfold rJ; omega)
    have e0 : am_I (am_sI h 72 0 0) 72 0 = 0 := by rw [hx_I_sI, if_pos rfl, if_pos rfl]
    have y1 : am_I (am_sI h 72 0 0) 86 p = nI s := by rw [hx_I_sI, if_neg (by decide)]; exact x1
    generalize am_sI h 72 0 0 = g at *
    have S1 := q5.1.1.1
    refine am_go [37, 39] 3 ?_
    simp only [am_wp, am_stp, am_en, am_as, am_pad, am_nth, am_set, am_st1, am_st2, am_kl, am_kill, am_mem, am_fv, am_tk, am_wt, am_bk, Option.toList, List.cons_append, List.nil_append, Nat.reduceAdd, Nat.reduceEqDiff, Nat.reduceLeDiff, reduceIte, Nat.reduceLT, or_self, true_or, or_true, if_true, if_false, and_self, and_true, true_and, not_false_eq_true, not_true_eq_false, fd_Mo_run_30, fd_Mo_run_31, fd_Mo_run_34, S1.all, e0]
    refine am_go [46] 5 ?_
    simp only [am_wp, am_stp, am_en, am_as, am_pad, am_nth, am_set, am_st1, am_st2, am_kl, am_kill, am_mem, am_fv, am_tk, am_wt, am_bk, Option.toList, List.cons_append, List.nil_append, Nat.reduceAdd, Nat.reduceEqDiff, Nat.reduceLeDiff, reduceIte, Nat.reduceLT, or_self, true_or, or_true, if_true, if_false, and_self, and_true, true_and, not_false_eq_true, not_true_eq_false, fd_Mo_run_39, fd_Mo_run_40, fd_Mo_run_43, fd_Mo_run_44, fd_Mo_run_45, S1.all, i1, q1, y1]
    refine am_go [50, 59] 2 ?_
    simp only [am_wp, am_stp, am_en, am_as, am_pad, am_nth, am_set, am_st1, am_st2, am_kl, am_kill, am_mem, am_fv, am_tk, am_wt, am_bk, Option.toList, List.cons_append, List.nil_append, Nat.reduceAdd, Nat.reduceEqDiff, Nat.reduceLeDiff, reduceIte, Nat.reduceLT, or_self, true_or, or_true, if_true, if_false, and_self, and_true, true_and, not_false_eq_true, not_true_eq_false, fd_Mo_run_46, fd_Mo_run_47, S1.all]
    refine wif ?_ ?_
    rotate_left
    rotate_left
    · refine am_go [] 6 ?_
      simp only [am_wp, am_stp, am_en, am_as, am_pad, am_nth, am_set, am_st1, am_st2, am_kl, am_kill, am_mem, am_fv, am_tk, am_wt, am_bk, Option.toList, List.cons_append, List.nil_append, Nat.reduceAdd, Nat.reduceEqDiff, Nat.reduceLeDiff, reduceIte, Nat.reduceLT, or_self, true_or, or_true, if_true, if_false, and_self, and_true, true_and, not_false_eq_true, not_true_eq_false, fd_Mo_run_50, fd_Mo_run_51, fd_Mo_run_54, fd_Mo_run_55, fd_Mo_run_56, fd_Mo_run_111, S1.all, i2, q2]
      exact ⟨⟨_, rfl⟩, q5⟩
    refine am_go [64, 73] 3 ?_
    simp only [am_wp, am_stp, am_en, am_as, am_pad, am_nth, am_set, am_st1, am_st2, am_kl, am_kill, am_mem, am_fv, am_tk, am_wt, am_bk, Option.toList, List.cons_append, List.nil_append, Nat.reduceAdd, Nat.reduceEqDiff, Nat.reduceLeDiff, reduceIte, Nat.reduceLT, or_self, true_or, or_true, if_true, if_false, and_self, and_true, true_and, not_false_eq_true, not_true_eq_false, fd_Mo_run_59, fd_Mo_run_60, fd_Mo_run_61, S1.all]
    refine wif ?_ ?_
    rotate_left
    rotate_left
    · refine am_go [] 6 ?_
      simp only [am_wp, am_stp, am_en, am_as, am_pad, am_nth, am_set, am_st1, am_st2, am_kl, am_kill, am_mem, am_fv, am_tk, am_wt, am_bk, Option.toList, List.cons_append, List.nil_append, Nat.reduceAdd, Nat.reduceEqDiff, Nat.reduceLeDiff, reduceIte, Nat.reduceLT, or_self, true_or, or_true, if_true, if_false, and_self, and_true, true_and, not_false_eq_true, not_true_eq_false, fd_Mo_run_64, fd_Mo_run_65, fd_Mo_run_68, fd_Mo_run_69, fd_Mo_run_70, fd_Mo_run_111, S1.all, i2, q2]
      exact ⟨⟨_, rfl⟩, q5⟩
    refine am_go [78, 87] 3 ?_
    simp only [am_wp, am_stp, am_en, am_as, am_pad, am_nth, am_set, am_st1, am_st2, am_kl, am_kill, am_mem, am_fv, am_tk, am_wt, am_bk, Option.toList, List.cons_append, List.nil_append, Nat.reduceAdd, Nat.reduceEqDiff, Nat.reduceLeDiff, reduceIte, Nat.reduceLT, or_self, true_or, or_true, if_true, if_false, and_self, and_true, true_and, not_false_eq_true, not_true_eq_false, fd_Mo_run_73, fd_Mo_run_74, fd_Mo_run_75, S1.all]
    refine wif ?_ ?_
    rotate_left
    rotate_left
    · refine am_go [] 6 ?_
      simp only [am_wp, am_stp, am_en, am_as, am_pad, am_nth, am_set, am_st1, am_st2, am_kl, am_kill, am_mem, am_fv, am_tk, am_wt, am_bk, Option.toList, List.cons_append, List.nil_append, Nat.reduceAdd, Nat.reduceEqDiff, Nat.reduceLeDiff, reduceIte, Nat.reduceLT, or_self, true_or, or_true, if_true, if_false, and_self, and_true, true_and, not_false_eq_true, not_true_eq_false, fd_Mo_run_78, fd_Mo_run_79, fd_Mo_run_82, fd_Mo_run_83, fd_Mo_run_84, fd_Mo_run_111, S1.all, i2, q2]
      exact ⟨⟨_, rfl⟩, q5⟩
    refine am_go [92, 101] 3 ?_
    simp only [am_wp, am_stp, am_en, am_as, am_pad, am_nth, am_set, am_st1, am_st2, am_kl, am_kill, am_mem, am_fv, am_tk, am_wt, am_bk, Option.toList, List.cons_append, List.nil_append, Nat.reduceAdd, Nat.reduceEqDiff, Nat.reduceLeDiff, reduceIte, Nat.reduceLT, or_self, true_or, or_true, if_true, if_false, and_self, and_true, true_and, not_false_eq_true, not_true_eq_false, fd_Mo_run_87, fd_Mo_run_88, fd_Mo_run_89, S1.all]
    refine wif ?_ ?_
    rotate_left
    rotate_left
    · refine am_go [] 6 ?_
      simp only [am_wp, am_stp, am_en, am_as, am_pad, am_nth, am_set, am_st1, am_st2, am_kl, am_kill, am_mem, am_fv, am_tk, am_wt, am_bk, Option.toList, List.cons_append, List.nil_append, Nat.reduceAdd, Nat.reduceEqDiff, Nat.reduceLeDiff, reduceIte, Nat.reduceLT, or_self, true_or, or_true, if_true, if_false, and_self, and_true, true_and, not_false_eq_true, not_true_eq_false, fd_Mo_run_92, fd_Mo_run_93, fd_Mo_run_96, fd_Mo_run_97, fd_Mo_run_98, fd_Mo_run_111, S1.all, i2, q2]
      exact ⟨⟨_, rfl⟩, q5⟩
    refine am_go [] 7 ?_
    simp only [am_wp, am_stp, am_en, am_as, am_pad, am_nth, am_set, am_st1, am_st2, am_kl, am_kill, am_mem, am_fv, am_tk, am_wt, am_bk, Option.toList, List.cons_append, List.nil_append, Nat.reduceAdd, Nat.reduceEqDiff, Nat.reduceLeDiff, reduceIte, Nat.reduceLT, or_self, true_or, or_true, if_true, if_false, and_self, and_true, true_and, not_false_eq_true, not_true_eq_false, fd_Mo_run_101, fd_Mo_run_102, fd_Mo_run_105, fd_Mo_run_108, fd_Mo_run_109, fd_Mo_run_110, fd_Mo_run_111, S1.all, e4, i3, q3]
    exact ⟨⟨_, rfl⟩, q5⟩
  · refine am_go [13, 22] 4 ?_
    simp only [am_wp, am_stp, am_en, am_as, am_pad, am_nth, am_set, am_st1, am_st2, am_kl, am_kill, am_mem, am_fv, am_tk, am_wt, am_bk, Option.toList, List.cons_append, List.nil_append, Nat.reduceAdd, Nat.reduceEqDiff, Nat.reduceLeDiff, reduceIte, Nat.reduceLT, or_self, true_or, or_true, if_true, if_false, and_self, and_true, true_and, not_false_eq_true, not_true_eq_false, fd_Mo_run_5, fd_Mo_run_6, fd_Mo_run_7, fd_Mo_run_10, hS.all, c24, e2]
    exact bad
theorem rx_down {d P : Nat} {h : am_H} (R : rI P h) : am_Rt nm_pr (d + 2) mi_Mo_down [.ref 72] h (fun o h' => b01 o ∧ rq P h h') := by
  have hS := R.1.1
  have q0 := rq.refl R
  refine am_in' (d := d + 1) mt_Mo_down 1 rfl rfl rfl ?_
  refine am_go [5] 3 ?_
  simp only [am_wp, am_stp, am_en, am_as, am_pad, am_nth, am_set, am_st1, am_st2, am_kl, am_kill, am_mem, am_fv, am_tk, am_wt, am_bk, Option.toList, List.cons_append, List.nil_append, Nat.reduceAdd, Nat.reduceEqDiff, Nat.reduceLeDiff, reduceIte, Nat.reduceLT, or_self, true_or, or_true, if_true, if_false, and_self, and_true, true_and, not_false_eq_true, not_true_eq_false, fd_Mo_down_0, fd_Mo_down_1, fd_Mo_down_2, hS.all]
  have q1 := q0.s (j := 0) (v := 0) (by unfold rJ; omega)
  generalize am_sI h 72 0 0 = g at *
  have S1 := q1.1.1.1
  refine am_go [12, 14] 3 ?_
  simp only [am_wp, am_stp, am_en, am_as, am_pad, am_nth, am_set, am_st1, am_st2, am_kl, am_kill, am_mem, am_fv, am_tk, am_wt, am_bk, Option.toList, List.cons_append, List.nil_append, Nat.reduceAdd, Nat.reduceEqDiff, Nat.reduceLeDiff, reduceIte, Nat.reduceLT, or_self, true_or, or_true, if_true, if_false, and_self, and_true, true_and, not_false_eq_true, not_true_eq_false, fd_Mo_down_5, fd_Mo_down_6, fd_Mo_down_9, S1.all]
  refine wif ?_ ?_
  · refine am_go [] 2 ?_
    simp only [am_wp, am_stp, am_en, am_as, am_pad, am_nth, am_set, am_st1, am_st2, am_kl, am_kill, am_mem, am_fv, am_tk, am_wt, am_bk, Option.toList, List.cons_append, List.nil_append, Nat.reduceAdd, Nat.reduceEqDiff, Nat.reduceLeDiff, reduceIte, Nat.reduceLT, or_self, true_or, or_true, if_true, if_false, and_self, and_true, true_and, not_false_eq_true, not_true_eq_false, fd_Mo_down_14, fd_Mo_down_15, S1.all]
    refine am_call (rx_goDown (d := d) S1) (fun o g6 z => ?_)
    obtain ⟨rfl, z1, z2, z3, z4, z5, z6, z7⟩ := z
    have S6 := S1.fi z1
    simp only [am_wp, am_stp, am_en, am_as, am_pad, am_nth, am_set, am_st1, am_st2, am_kl, am_kill, am_mem, am_fv, am_tk, am_wt, am_bk, Option.toList, List.cons_append, List.nil_append, Nat.reduceAdd, Nat.reduceEqDiff, Nat.reduceLeDiff, reduceIte, Nat.reduceLT, or_self, true_or, or_true, if_true, if_false, and_self, and_true, true_and, not_false_eq_true, not_true_eq_false]
    refine am_go [] 2 ?_
    simp only [am_wp, am_stp, am_en, am_as, am_pad, am_nth, am_set, am_st1, am_st2, am_kl, am_kill, am_mem, am_fv, am_tk, am_wt, am_bk, Option.toList, List.cons_append, List.nil_append, Nat.reduceAdd, Nat.reduceEqDiff, Nat.reduceLeDiff, reduceIte, Nat.reduceLT, or_self, true_or, or_true, if_true, if_false, and_self, and_true, true_and, not_false_eq_true, not_true_eq_false, fd_Mo_down_18, fd_Mo_down_19, S6.all]
    have f6 : am_fi rA g g6 := z1.sub (by decide)
    have I6 : rI P g6 := rI_dead q1.1.1 f6 (z5 1 (by decide) (by decide) (by decide)) (by rw [z5 8 (by decide) (by decide) (by decide)]; exact q1.1.1.a8) (z5 9 (by decide) (by decide) (by decide)) (z5 45 (by decide) (by decide) (by decide)) z2 z3 z4 z6 z7 (q1.1.1.b.eq (z1.2.2.2.2.2.2.1 73 (by decide)))
    exact ⟨Or.inr rfl, I6, q1.2.trans f6⟩
  · refine am_go [] 2 ?_
    simp only [am_wp, am_stp, am_en, am_as, am_pad, am_nth, am_set, am_st1, am_st2, am_kl, am_kill, am_mem, am_fv, am_tk, am_wt, am_bk, Option.toList, List.cons_append, List.nil_append, Nat.reduceAdd, Nat.reduceEqDiff, Nat.reduceLeDiff, reduceIte, Nat.reduceLT, or_self, true_or, or_true, if_true, if_false, and_self, and_true, true_and, not_false_eq_true, not_true_eq_false, fd_Mo_down_12, fd_Mo_down_13, S1.all]
    exact ⟨Or.inl rfl, q1⟩
