/-! THE REFERENCE'S HEAD AND LEVELS -/
def ns (h : am_H) (now : List Nat) : Prop := am_I h 72 24 = nI now.length ∧ now.length ≤ 9 ∧ ∀ i s, now[i]? = some s → am_I h 86 i = nI s ∧ s < 100
theorem rR.ns {P : Nat} {h : am_H} {E : Nat → List ent} {now : List Nat} {mk : Nat → List Nat} (R : rR P h E now mk) : ns h now :=
  ⟨R.1.1, R.n9, fun i s hi => ⟨R.1.2.1 i s hi, (R.2.2.1.2 s (by unfold al; exact List.mem_append.mpr (Or.inl (List.mem_of_getElem? hi)))).1⟩⟩
theorem lv_ok3 : ∀ (ls : List Nat) (m : Nat), lv_ok m ls → ∀ l ∈ ls, l ≤ 3
  | [], _, _, l, hl => by simp at hl
  | a :: ls, m, h, l, hl => by
    obtain ⟨-, h2, h3⟩ := h
    rcases List.mem_cons.mp hl with e | e
    · rw [e]; exact h2
    · exact lv_ok3 ls a h3 l e
theorem rR.nl {P : Nat} {h : am_H} {E : Nat → List ent} {now : List Nat} {mk : Nat → List Nat} (R : rR P h E now mk) : ∀ s ∈ now, am_I h 79 s = nI (lev h s) ∧ lev h s ≤ 3 := fun s hs =>
  ⟨R.1.2.2.1 s hs, lv_ok3 _ 0 R.1.2.2.2.1 _ (List.mem_map.mpr ⟨s, hs, rfl⟩)⟩
theorem rx_level0_loop {d : Nat} {Rs : List Nat} {h : am_H} (hS : mo_Sk h) (N : ns h Rs) (NL : ∀ s ∈ Rs, am_I h 79 s = nI (lev h s) ∧ lev h s ≤ 3) : ∀ (rest pre : List Nat), pre ++ rest = Rs →
    am_Ex nm_pr d mt_Mo_atLevelNought (2, [.ref 72, .int (nI pre.length)], [], h) (fun o h' => o = .inl (some (.int (nI (pre.length + up 0 (rest.map (lev h)))))) ∧ h' = h)
  | [], pre, hp => by
    obtain ⟨c2, c3, c1⟩ := id N
    have e : pre = Rs := by simpa using hp
    subst e
    have l1 : ¬ nI pre.length < nI pre.length := nI_nlt (Nat.le_refl _) (by omega)
    refine am_go [10] 7 ?_
    simp only [am_wp, am_stp, am_en, am_as, am_pad, am_nth, am_set, am_st1, am_st2, am_kl, am_kill, am_mem, am_fv, am_tk, am_wt, am_bk, Option.toList, List.cons_append, List.nil_append, Nat.reduceAdd, Nat.reduceEqDiff, Nat.reduceLeDiff, reduceIte, Nat.reduceLT, or_self, true_or, or_true, if_true, if_false, and_self, and_true, true_and, not_false_eq_true, not_true_eq_false, fd_Mo_atLevelNought_2, fd_Mo_atLevelNought_3, fd_Mo_atLevelNought_4, fd_Mo_atLevelNought_7, fd_Mo_atLevelNought_30, fd_Mo_atLevelNought_31, hS.1, c2, l1]
    simp [up]
  | r :: rest, pre, hp => by
    obtain ⟨c2, c3, c1⟩ := id N
    obtain ⟨k72, -, -, ⟨r17, k79, n79⟩, -, -, -, -, -, -, ⟨r25, k86, n86⟩, -⟩ := mo_sl_ hS
    have hlen : pre.length < Rs.length := by rw [← hp]; simp
    have hget : Rs[pre.length]? = some r := by rw [← hp]; simp
    obtain ⟨x1, x2⟩ := c1 _ _ hget
    have hs := x2
    obtain ⟨y1, y2⟩ := NL r (List.mem_of_getElem? hget)
    have l1 : nI pre.length < nI Rs.length := nI_lt hlen (by omega)
    have i1 := am_inb (c := pre.length) (N := 9) (by omega) (by omega)
    have q1 : (nI pre.length).toNatClampNeg = pre.length := nI_clamp (by omega)
    have i2 := am_inb (c := r) (N := 100) (by omega) (by omega)
    have q2 : (nI r).toNatClampNeg = r := nI_clamp (by omega)
    refine am_go [10, 30] 4 ?_
    simp only [am_wp, am_stp, am_en, am_as, am_pad, am_nth, am_set, am_st1, am_st2, am_kl, am_kill, am_mem, am_fv, am_tk, am_wt, am_bk, Option.toList, List.cons_append, List.nil_append, Nat.reduceAdd, Nat.reduceEqDiff, Nat.reduceLeDiff, reduceIte, Nat.reduceLT, or_self, true_or, or_true, if_true, if_false, and_self, and_true, true_and, not_false_eq_true, not_true_eq_false, fd_Mo_atLevelNought_2, fd_Mo_atLevelNought_3, fd_Mo_atLevelNought_4, fd_Mo_atLevelNought_7, k72, c2, l1]
    refine am_go [24, 30] 8 ?_
    simp only [am_wp, am_stp, am_en, am_as, am_pad, am_nth, am_set, am_st1, am_st2, am_kl, am_kill, am_mem, am_fv, am_tk, am_wt, am_bk, Option.toList, List.cons_append, List.nil_append, Nat.reduceAdd, Nat.reduceEqDiff, Nat.reduceLeDiff, reduceIte, Nat.reduceLT, or_self, true_or, or_true, if_true, if_false, and_self, and_true, true_and, not_false_eq_true, not_true_eq_false, fd_Mo_atLevelNought_10, fd_Mo_atLevelNought_11, fd_Mo_atLevelNought_14, fd_Mo_atLevelNought_15, fd_Mo_atLevelNought_18, fd_Mo_atLevelNought_19, fd_Mo_atLevelNought_20, fd_Mo_atLevelNought_21, k72, r17, r25, k86, n86, i1, q1, x1, k79, n79, i2, q2, y1]
    by_cases e : lev h r = 0
    · have z : (nI (lev h r) = 0) = True := eq_true (by rw [e]; rfl)
      simp only [z, am_wp, am_stp, am_en, am_as, am_pad, am_nth, am_set, am_st1, am_st2, am_kl, am_kill, am_mem, am_fv, am_tk, am_wt, am_bk, Option.toList, List.cons_append, List.nil_append, Nat.reduceAdd, Nat.reduceEqDiff, Nat.reduceLeDiff, reduceIte, Nat.reduceLT, or_self, true_or, or_true, if_true, if_false, and_self, and_true, true_and, not_false_eq_true, not_true_eq_false]
      refine am_go [2] 2 ?_
      simp only [am_wp, am_stp, am_en, am_as, am_pad, am_nth, am_set, am_st1, am_st2, am_kl, am_kill, am_mem, am_fv, am_tk, am_wt, am_bk, Option.toList, List.cons_append, List.nil_append, Nat.reduceAdd, Nat.reduceEqDiff, Nat.reduceLeDiff, reduceIte, Nat.reduceLT, or_self, true_or, or_true, if_true, if_false, and_self, and_true, true_and, not_false_eq_true, not_true_eq_false, fd_Mo_atLevelNought_24, fd_Mo_atLevelNought_27, nI_1]
      have := rx_level0_loop (d := d) hS N NL rest (pre ++ [r]) (by rw [← hp]; simp)
      have e1 : (pre ++ [r]).length = pre.length + 1 := by simp
      rw [e1] at this
      have e2 : up 0 ((r :: rest).map (lev h)) = up 0 (rest.map (lev h)) + 1 := by
        show (if lev h r ≤ 0 then up 0 (rest.map (lev h)) + 1 else 0) = _
        rw [if_pos (by omega)]
      rw [e2, show pre.length + (up 0 (rest.map (lev h)) + 1) = pre.length + 1 + up 0 (rest.map (lev h)) by omega]
      exact this
    · have z : (nI (lev h r) = 0) = False := eq_false (nI_ne0 (by omega) (by omega))
      simp only [z, am_wp, am_stp, am_en, am_as, am_pad, am_nth, am_set, am_st1, am_st2, am_kl, am_kill, am_mem, am_fv, am_tk, am_wt, am_bk, Option.toList, List.cons_append, List.nil_append, Nat.reduceAdd, Nat.reduceEqDiff, Nat.reduceLeDiff, reduceIte, Nat.reduceLT, or_self, true_or, or_true, if_true, if_false, and_self, and_true, true_and, not_false_eq_true, not_true_eq_false]
      refine am_go [] 2 ?_
      simp only [am_wp, am_stp, am_en, am_as, am_pad, am_nth, am_set, am_st1, am_st2, am_kl, am_kill, am_mem, am_fv, am_tk, am_wt, am_bk, Option.toList, List.cons_append, List.nil_append, Nat.reduceAdd, Nat.reduceEqDiff, Nat.reduceLeDiff, reduceIte, Nat.reduceLT, or_self, true_or, or_true, if_true, if_false, and_self, and_true, true_and, not_false_eq_true, not_true_eq_false, fd_Mo_atLevelNought_30, fd_Mo_atLevelNought_31]
      have e2 : up 0 ((r :: rest).map (lev h)) = 0 := by
        show (if lev h r ≤ 0 then up 0 (rest.map (lev h)) + 1 else 0) = _
        rw [if_neg (by omega)]
      rw [e2]
      rfl
theorem rx_level0 {d : Nat} {Rs : List Nat} {h : am_H} (hS : mo_Sk h) (N : ns h Rs) (NL : ∀ s ∈ Rs, am_I h 79 s = nI (lev h s) ∧ lev h s ≤ 3) : am_Rt nm_pr (d + 1) mi_Mo_atLevelNought [.ref 72] h (fun o h' => o = .inl (some (.int (nI (up 0 (Rs.map (lev h)))))) ∧ h' = h) := by
  refine am_in' mt_Mo_atLevelNought 2 rfl rfl rfl ?_
  refine am_go [2] 2 ?_
  simp only [am_wp, am_stp, am_en, am_as, am_pad, am_nth, am_set, am_st1, am_st2, am_kl, am_kill, am_mem, am_fv, am_tk, am_wt, am_bk, Option.toList, List.cons_append, List.nil_append, Nat.reduceAdd, Nat.reduceEqDiff, Nat.reduceLeDiff, reduceIte, Nat.reduceLT, or_self, true_or, or_true, if_true, if_false, and_self, and_true, true_and, not_false_eq_true, not_true_eq_false, fd_Mo_atLevelNought_0, fd_Mo_atLevelNought_1]
  have := rx_level0_loop (d := d) hS N NL Rs [] (by simp)
  rw [show ([] : List Nat).length + up 0 (Rs.map (lev h)) = up 0 (Rs.map (lev h)) by simp] at this
  exact this
theorem rx_lay_loop {d : Nat} {Rs : List Nat} {h : am_H} (hS : mo_Sk h) (N : ns h Rs) : ∀ (m k : Nat) (w3 : Value) (g : am_H), m + k = Rs.length → am_fi [91] h g →
    am_Ex nm_pr (d + 1) mt_Mo_layHead (53, [.ref 72, .int (nI (7 + 7 * k)), .int (nI k), w3], [], g) (fun o h' => o = .inl none ∧ am_fi [91] h h')
  | 0, k, w3, g, hm, F => by
    have e : k = Rs.length := by omega
    subst e
    have k72 := (hS.fi F).1
    have c2 : am_I g 72 24 = nI Rs.length := by rw [F.2.2.2.2.2.2.1 72 (by simp)]; exact N.1
    have c3 := N.2.1
    have l1 : ¬ nI Rs.length < nI Rs.length := nI_nlt (Nat.le_refl _) (by omega)
    refine am_go [61] 6 ?_
    simp only [am_wp, am_stp, am_en, am_as, am_pad, am_nth, am_set, am_st1, am_st2, am_kl, am_kill, am_mem, am_fv, am_tk, am_wt, am_bk, Option.toList, List.cons_append, List.nil_append, Nat.reduceAdd, Nat.reduceEqDiff, Nat.reduceLeDiff, reduceIte, Nat.reduceLT, or_self, true_or, or_true, if_true, if_false, and_self, and_true, true_and, not_false_eq_true, not_true_eq_false, fd_Mo_layHead_53, fd_Mo_layHead_54, fd_Mo_layHead_55, fd_Mo_layHead_58, fd_Mo_layHead_129, k72, c2, l1]
    exact F
  | m + 1, k, w3, g, hm, F => by
    obtain ⟨c2, c3, c1⟩ := id N
    obtain ⟨r, hr⟩ : ∃ r, Rs[k]? = some r := ⟨Rs[k]'(by omega), List.getElem?_eq_getElem (by omega)⟩
    obtain ⟨x1, x2⟩ := c1 k r hr
    have hs := x2
    have A : ∀ {g : am_H}, am_fi [91] h g → mo_Sk g ∧ am_I g 72 24 = nI Rs.length ∧ am_I g 86 k = nI r := fun F => ⟨hS.fi F, by rw [F.2.2.2.2.2.2.1 72 (by simp)]; exact c2, by rw [F.2.2.2.2.2.2.1 86 (by simp)]; exact x1⟩
    obtain ⟨S0, b2, b3⟩ := A F
    obtain ⟨k72, -, ⟨r16, k78, n78⟩, ⟨r17, k79, n79⟩, ⟨r18, k80, n80⟩, -, ⟨r20, k82, n82⟩, -, -, -, ⟨r25, k86, n86⟩, -⟩ := mo_sl_ S0
    have l1 : nI k < nI Rs.length := nI_lt (by omega) (by omega)
    have i1 := am_inb (c := k) (N := 9) (by omega) (by omega)
    have q1 : (nI k).toNatClampNeg = k := nI_clamp (by omega)
    have i2 := am_inb (c := r) (N := 100) (by omega) (by omega)
    have q2 : (nI r).toNatClampNeg = r := nI_clamp (by omega)
    have e1 : 1024 * nI r = nI (1024 * r) := (Int32.ofNat_mul 1024 r).symm
    have i3 := am_inb (c := 1024 * r) (N := 102400) (by omega) (by omega)
    have q3 : (nI (1024 * r)).toNatClampNeg = 1024 * r := nI_clamp (by omega)
    refine am_go [61, 129] 4 ?_
    simp only [am_wp, am_stp, am_en, am_as, am_pad, am_nth, am_set, am_st1, am_st2, am_kl, am_kill, am_mem, am_fv, am_tk, am_wt, am_bk, Option.toList, List.cons_append, List.nil_append, Nat.reduceAdd, Nat.reduceEqDiff, Nat.reduceLeDiff, reduceIte, Nat.reduceLT, or_self, true_or, or_true, if_true, if_false, and_self, and_true, true_and, not_false_eq_true, not_true_eq_false, fd_Mo_layHead_53, fd_Mo_layHead_54, fd_Mo_layHead_55, fd_Mo_layHead_58, k72, b2, l1]
    refine am_go [] 5 ?_
    simp only [am_wp, am_stp, am_en, am_as, am_pad, am_nth, am_set, am_st1, am_st2, am_kl, am_kill, am_mem, am_fv, am_tk, am_wt, am_bk, Option.toList, List.cons_append, List.nil_append, Nat.reduceAdd, Nat.reduceEqDiff, Nat.reduceLeDiff, reduceIte, Nat.reduceLT, or_self, true_or, or_true, if_true, if_false, and_self, and_true, true_and, not_false_eq_true, not_true_eq_false, fd_Mo_layHead_61, fd_Mo_layHead_62, fd_Mo_layHead_65, fd_Mo_layHead_66, fd_Mo_layHead_67, k72, r25, k86, n86, i1, q1, b3]
    refine am_go [] 7 ?_
    simp only [am_wp, am_stp, am_en, am_as, am_pad, am_nth, am_set, am_st1, am_st2, am_kl, am_kill, am_mem, am_fv, am_tk, am_wt, am_bk, Option.toList, List.cons_append, List.nil_append, Nat.reduceAdd, Nat.reduceEqDiff, Nat.reduceLeDiff, reduceIte, Nat.reduceLT, or_self, true_or, or_true, if_true, if_false, and_self, and_true, true_and, not_false_eq_true, not_true_eq_false, fd_Mo_layHead_68, fd_Mo_layHead_69, fd_Mo_layHead_70, fd_Mo_layHead_71, fd_Mo_layHead_74, fd_Mo_layHead_75, fd_Mo_layHead_76, k72, r16, k78, n78, i2, q2]
    refine am_call (l2_mh2 (d := d) hS F (by omega)) (fun o g1 z => ?_)
    obtain ⟨rfl, F1⟩ := z
    obtain ⟨S1, -, -⟩ := A F1
    obtain ⟨k72a, -, -, ⟨r17a, k79a, n79a⟩, -, -, ⟨r20a, k82a, n82a⟩, -⟩ := mo_sl_ S1
    obtain ⟨-, r30a, k91a, n91a⟩ := mo_dr S1
    have i5 : (nI (7 + 7 * k + 2) < 0 ∨ 126 ≤ 7 + 7 * k) = False := eq_false (fun q => by rcases q with q | q; exact nI_pos (by omega) q; omega)
    have q5 : (nI (7 + 7 * k + 2)).toNatClampNeg = 7 + 7 * k + 2 := nI_clamp (by omega)
    simp only [am_wp, am_stp, am_en, am_as, am_pad, am_nth, am_set, am_st1, am_st2, am_kl, am_kill, am_mem, am_fv, am_tk, am_wt, am_bk, Option.toList, List.cons_append, List.nil_append, Nat.reduceAdd, Nat.reduceEqDiff, Nat.reduceLeDiff, reduceIte, Nat.reduceLT, or_self, true_or, or_true, if_true, if_false, and_self, and_true, true_and, not_false_eq_true, not_true_eq_false]
    refine am_go [] 10 ?_
    simp only [am_wp, am_stp, am_en, am_as, am_pad, am_nth, am_set, am_st1, am_st2, am_kl, am_kill, am_mem, am_fv, am_tk, am_wt, am_bk, Option.toList, List.cons_append, List.nil_append, Nat.reduceAdd, Nat.reduceEqDiff, Nat.reduceLeDiff, reduceIte, Nat.reduceLT, or_self, true_or, or_true, if_true, if_false, and_self, and_true, true_and, not_false_eq_true, not_true_eq_false, fd_Mo_layHead_79, fd_Mo_layHead_80, fd_Mo_layHead_81, fd_Mo_layHead_84, fd_Mo_layHead_85, fd_Mo_layHead_86, fd_Mo_layHead_89, fd_Mo_layHead_90, fd_Mo_layHead_91, fd_Mo_layHead_92, k72a, r30a, r17a, k79a, n79a, i2, q2, k91a, n91a, q5, i5]
    generalize hg2 : am_sI g1 91 (7 + 7 * k + 2) _ = g2
    have F2 : am_fi [91] h g2 := by rw [← hg2]; exact F1.sI (by simp)
    clear hg2
    obtain ⟨S2, -, -⟩ := A F2
    obtain ⟨k72b, -, -, -, -, -, ⟨r20b, k82b, n82b⟩, -⟩ := mo_sl_ S2
    refine am_go [] 11 ?_
    simp only [am_wp, am_stp, am_en, am_as, am_pad, am_nth, am_set, am_st1, am_st2, am_kl, am_kill, am_mem, am_fv, am_tk, am_wt, am_bk, Option.toList, List.cons_append, List.nil_append, Nat.reduceAdd, Nat.reduceEqDiff, Nat.reduceLeDiff, reduceIte, Nat.reduceLT, or_self, true_or, or_true, if_true, if_false, and_self, and_true, true_and, not_false_eq_true, not_true_eq_false, fd_Mo_layHead_93, fd_Mo_layHead_94, fd_Mo_layHead_95, fd_Mo_layHead_96, fd_Mo_layHead_97, fd_Mo_layHead_98, fd_Mo_layHead_101, fd_Mo_layHead_104, fd_Mo_layHead_105, fd_Mo_layHead_106, fd_Mo_layHead_107, k72b, r20b, e1, k82b, n82b, i3, q3, nI_1]
    refine am_call (l2_mh2 (d := d) hS F2 (show 7 + 7 * k + 2 + 1 + 1 < 128 by omega)) (fun o g3 z => ?_)
    obtain ⟨rfl, F3⟩ := z
    obtain ⟨S3, -, -⟩ := A F3
    obtain ⟨k72c, -, -, -, ⟨r18c, k80c, n80c⟩, -⟩ := mo_sl_ S3
    simp only [am_wp, am_stp, am_en, am_as, am_pad, am_nth, am_set, am_st1, am_st2, am_kl, am_kill, am_mem, am_fv, am_tk, am_wt, am_bk, Option.toList, List.cons_append, List.nil_append, Nat.reduceAdd, Nat.reduceEqDiff, Nat.reduceLeDiff, reduceIte, Nat.reduceLT, or_self, true_or, or_true, if_true, if_false, and_self, and_true, true_and, not_false_eq_true, not_true_eq_false]
    refine am_go [] 8 ?_
    simp only [am_wp, am_stp, am_en, am_as, am_pad, am_nth, am_set, am_st1, am_st2, am_kl, am_kill, am_mem, am_fv, am_tk, am_wt, am_bk, Option.toList, List.cons_append, List.nil_append, Nat.reduceAdd, Nat.reduceEqDiff, Nat.reduceLeDiff, reduceIte, Nat.reduceLT, or_self, true_or, or_true, if_true, if_false, and_self, and_true, true_and, not_false_eq_true, not_true_eq_false, fd_Mo_layHead_110, fd_Mo_layHead_111, fd_Mo_layHead_112, fd_Mo_layHead_113, fd_Mo_layHead_114, fd_Mo_layHead_117, fd_Mo_layHead_118, fd_Mo_layHead_119, k72c, r18c, k80c, n80c, i2, q2]
    refine am_call (l2_mh2 (d := d) hS F3 (show 7 + 7 * k + 2 + 1 + 2 + 1 < 128 by omega)) (fun o g4 z => ?_)
    obtain ⟨rfl, F4⟩ := z
    simp only [am_wp, am_stp, am_en, am_as, am_pad, am_nth, am_set, am_st1, am_st2, am_kl, am_kill, am_mem, am_fv, am_tk, am_wt, am_bk, Option.toList, List.cons_append, List.nil_append, Nat.reduceAdd, Nat.reduceEqDiff, Nat.reduceLeDiff, reduceIte, Nat.reduceLT, or_self, true_or, or_true, if_true, if_false, and_self, and_true, true_and, not_false_eq_true, not_true_eq_false]
    refine am_go [53] 3 ?_
    simp only [am_wp, am_stp, am_en, am_as, am_pad, am_nth, am_set, am_st1, am_st2, am_kl, am_kill, am_mem, am_fv, am_tk, am_wt, am_bk, Option.toList, List.cons_append, List.nil_append, Nat.reduceAdd, Nat.reduceEqDiff, Nat.reduceLeDiff, reduceIte, Nat.reduceLT, or_self, true_or, or_true, if_true, if_false, and_self, and_true, true_and, not_false_eq_true, not_true_eq_false, fd_Mo_layHead_122, fd_Mo_layHead_123, fd_Mo_layHead_126, nI_1]
    have := rx_lay_loop (d := d) hS N m (k + 1) (.int (nI r)) g4 (by omega) F4
    rw [show 7 + 7 * (k + 1) = 7 + 7 * k + 2 + 1 + 2 + 2 by omega] at this
    exact this
theorem rx_layHead {d : Nat} {Rs : List Nat} {h : am_H} (hS : mo_Sk h) (N : ns h Rs) : am_Rt nm_pr (d + 2) mi_Mo_layHead [.ref 72] h (fun o h' => o = .inl none ∧ am_fi [91] h h') := by
  refine am_in' (d := d + 1) mt_Mo_layHead 4 rfl rfl rfl ?_
  refine am_go [] 2 ?_
  simp only [am_wp, am_stp, am_en, am_as, am_pad, am_nth, am_set, am_st1, am_st2, am_kl, am_kill, am_mem, am_fv, am_tk, am_wt, am_bk, Option.toList, List.cons_append, List.nil_append, Nat.reduceAdd, Nat.reduceEqDiff, Nat.reduceLeDiff, reduceIte, Nat.reduceLT, or_self, true_or, or_true, if_true, if_false, and_self, and_true, true_and, not_false_eq_true, not_true_eq_false, fd_Mo_layHead_0, fd_Mo_layHead_1, hS.1]
  refine am_call (l2_Mo_clear (d := d) hS.Pg) (fun o g z => ?_)
  obtain ⟨rfl, F, -, -⟩ := z
  have k0 := (hS.fi F).1
  simp only [am_wp, am_stp, am_en, am_as, am_pad, am_nth, am_set, am_st1, am_st2, am_kl, am_kill, am_mem, am_fv, am_tk, am_wt, am_bk, Option.toList, List.cons_append, List.nil_append, Nat.reduceAdd, Nat.reduceEqDiff, Nat.reduceLeDiff, reduceIte, Nat.reduceLT, or_self, true_or, or_true, if_true, if_false, and_self, and_true, true_and, not_false_eq_true, not_true_eq_false]
  refine am_go [] 7 ?_
  simp only [am_wp, am_stp, am_en, am_as, am_pad, am_nth, am_set, am_st1, am_st2, am_kl, am_kill, am_mem, am_fv, am_tk, am_wt, am_bk, Option.toList, List.cons_append, List.nil_append, Nat.reduceAdd, Nat.reduceEqDiff, Nat.reduceLeDiff, reduceIte, Nat.reduceLT, or_self, true_or, or_true, if_true, if_false, and_self, and_true, true_and, not_false_eq_true, not_true_eq_false, fd_Mo_layHead_4, fd_Mo_layHead_5, fd_Mo_layHead_6, fd_Mo_layHead_7, fd_Mo_layHead_10, fd_Mo_layHead_12, fd_Mo_layHead_13, k0]
  refine am_call (l2_mh2 (d := d) (u := 0) hS F (by decide)) (fun o g1 z => ?_)
  obtain ⟨rfl, F1⟩ := z
  have k1 := (hS.fi F1).1
  simp only [am_wp, am_stp, am_en, am_as, am_pad, am_nth, am_set, am_st1, am_st2, am_kl, am_kill, am_mem, am_fv, am_tk, am_wt, am_bk, Option.toList, List.cons_append, List.nil_append, Nat.reduceAdd, Nat.reduceEqDiff, Nat.reduceLeDiff, reduceIte, Nat.reduceLT, or_self, true_or, or_true, if_true, if_false, and_self, and_true, true_and, not_false_eq_true, not_true_eq_false]
  refine am_go [] 6 ?_
  simp only [am_wp, am_stp, am_en, am_as, am_pad, am_nth, am_set, am_st1, am_st2, am_kl, am_kill, am_mem, am_fv, am_tk, am_wt, am_bk, Option.toList, List.cons_append, List.nil_append, Nat.reduceAdd, Nat.reduceEqDiff, Nat.reduceLeDiff, reduceIte, Nat.reduceLT, or_self, true_or, or_true, if_true, if_false, and_self, and_true, true_and, not_false_eq_true, not_true_eq_false, fd_Mo_layHead_16, fd_Mo_layHead_17, fd_Mo_layHead_18, fd_Mo_layHead_19, fd_Mo_layHead_20, fd_Mo_layHead_23, k1]
  refine am_call (l2_mh2 (d := d) (u := 2) hS F1 (by decide)) (fun o g2 z => ?_)
  obtain ⟨rfl, F2⟩ := z
  have k2 := (hS.fi F2).1
  simp only [am_wp, am_stp, am_en, am_as, am_pad, am_nth, am_set, am_st1, am_st2, am_kl, am_kill, am_mem, am_fv, am_tk, am_wt, am_bk, Option.toList, List.cons_append, List.nil_append, Nat.reduceAdd, Nat.reduceEqDiff, Nat.reduceLeDiff, reduceIte, Nat.reduceLT, or_self, true_or, or_true, if_true, if_false, and_self, and_true, true_and, not_false_eq_true, not_true_eq_false]
  refine am_go [] 6 ?_
  simp only [am_wp, am_stp, am_en, am_as, am_pad, am_nth, am_set, am_st1, am_st2, am_kl, am_kill, am_mem, am_fv, am_tk, am_wt, am_bk, Option.toList, List.cons_append, List.nil_append, Nat.reduceAdd, Nat.reduceEqDiff, Nat.reduceLeDiff, reduceIte, Nat.reduceLT, or_self, true_or, or_true, if_true, if_false, and_self, and_true, true_and, not_false_eq_true, not_true_eq_false, fd_Mo_layHead_26, fd_Mo_layHead_27, fd_Mo_layHead_28, fd_Mo_layHead_29, fd_Mo_layHead_30, fd_Mo_layHead_33, k2]
  refine am_call (l2_mh2 (d := d) (u := 4) hS F2 (by decide)) (fun o g3 z => ?_)
  obtain ⟨rfl, F3⟩ := z
  obtain ⟨k3, r30, k91, n91⟩ := mo_dr (hS.fi F3)
  have i6 : (nI (4 + 2) < 0 ∨ 128 ≤ (nI (4 + 2)).toNatClampNeg) = False := by decide
  have e7 : nI (4 + 2) + 1 = nI (7 + 7 * 0) := by decide
  simp only [am_wp, am_stp, am_en, am_as, am_pad, am_nth, am_set, am_st1, am_st2, am_kl, am_kill, am_mem, am_fv, am_tk, am_wt, am_bk, Option.toList, List.cons_append, List.nil_append, Nat.reduceAdd, Nat.reduceEqDiff, Nat.reduceLeDiff, reduceIte, Nat.reduceLT, or_self, true_or, or_true, if_true, if_false, and_self, and_true, true_and, not_false_eq_true, not_true_eq_false]
  refine am_go [] 8 ?_
  simp only [am_wp, am_stp, am_en, am_as, am_pad, am_nth, am_set, am_st1, am_st2, am_kl, am_kill, am_mem, am_fv, am_tk, am_wt, am_bk, Option.toList, List.cons_append, List.nil_append, Nat.reduceAdd, Nat.reduceEqDiff, Nat.reduceLeDiff, reduceIte, Nat.reduceLT, or_self, true_or, or_true, if_true, if_false, and_self, and_true, true_and, not_false_eq_true, not_true_eq_false, fd_Mo_layHead_36, fd_Mo_layHead_37, fd_Mo_layHead_38, fd_Mo_layHead_41, fd_Mo_layHead_42, fd_Mo_layHead_43, fd_Mo_layHead_46, fd_Mo_layHead_47, k3, r30, k91, n91]
  rw [if_neg (by decide)]
  refine am_go [53] 3 ?_
  simp only [am_wp, am_stp, am_en, am_as, am_pad, am_nth, am_set, am_st1, am_st2, am_kl, am_kill, am_mem, am_fv, am_tk, am_wt, am_bk, Option.toList, List.cons_append, List.nil_append, Nat.reduceAdd, Nat.reduceEqDiff, Nat.reduceLeDiff, reduceIte, Nat.reduceLT, or_self, true_or, or_true, if_true, if_false, and_self, and_true, true_and, not_false_eq_true, not_true_eq_false, fd_Mo_layHead_48, fd_Mo_layHead_51, fd_Mo_layHead_52]
  exact rx_lay_loop hS N Rs.length 0 _ _ (by omega) (F3.sI (by simp))
/-- a page below 2, or none of a live run, was written -/
def hw_Q (h h' : am_H) : Prop := am_fi [72, 73, 91] h h' ∧ (∀ j, rJ j → j ≠ 8 → am_I h' 72 j = am_I h 72 j) ∧ (∃ a, a ≤ 1000 ∧ am_I h' 72 8 = nI a) ∧ (∀ x, 2 ≤ x → ∀ j, j < 128 → am_I h' 73 (x * 128 + j) = am_I h 73 (x * 128 + j)) ∧ BY h'
theorem rx_writeHead {d P : Nat} {now : List Nat} {h : am_H} (C : rC P h) (N : ns h now) : am_Rt nm_pr (d + 3) mi_Mo_writeHead [.ref 72] h (fun o h' => (o = .inl (some (.int 1)) ∧ hw_Q h h') ∨ (o = .inl (some (.int 0)) ∧ rq P h h' ∧ am_I h' 72 3 = 1)) := by
  have hS := C.1
  refine am_in' (d := d + 2) mt_Mo_writeHead 1 rfl rfl rfl ?_
  refine am_go [10] 6 ?_
  simp only [am_wp, am_stp, am_en, am_as, am_pad, am_nth, am_set, am_st1, am_st2, am_kl, am_kill, am_mem, am_fv, am_tk, am_wt, am_bk, Option.toList, List.cons_append, List.nil_append, Nat.reduceAdd, Nat.reduceEqDiff, Nat.reduceLeDiff, reduceIte, Nat.reduceLT, or_self, true_or, or_true, if_true, if_false, and_self, and_true, true_and, not_false_eq_true, not_true_eq_false, fd_Mo_writeHead_0, fd_Mo_writeHead_1, fd_Mo_writeHead_2, fd_Mo_writeHead_5, fd_Mo_writeHead_6, fd_Mo_writeHead_7, hS.all]
  have F1 : am_fi [72] h (am_sI h 72 4 (am_I h 72 4 + 1)) := am_fi.refl.sI (by simp)
  have vj : ∀ j, j ≠ 4 → am_I (am_sI h 72 4 (am_I h 72 4 + 1)) 72 j = am_I h 72 j := fun j hj => by simp only [hx_nx_sI, hx_ce_sI, hx_sl_sI, hx_kd_sI, hx_ln_sI, hx_I_sI, hx_L_sI, hx_R_sI, hx_nx_sL, hx_ce_sL, hx_sl_sL, hx_kd_sL, hx_ln_sL, hx_I_sL, hx_L_sL, hx_R_sL, hx_nx_sR, hx_ce_sR, hx_sl_sR, hx_kd_sR, hx_ln_sR, hx_I_sR, hx_L_sR, hx_R_sR, hx_nx_al, hx_ce_al, hx_sl_al, hx_kd_al, hx_ln_al, hx_I_al, hx_L_al, hx_R_al, hx_nx_row, hx_ce_row, hx_sl_row, hx_kd_row, hx_ln_row, hx_I_row, hx_L_row, hx_R_row, hx_nx_mk, hx_kd_mk, hx_ln_mk, hx_I_mk, hx_L_mk, hx_R_mk, am_wp, am_stp, am_en, am_as, am_pad, am_nth, am_set, am_st1, am_st2, am_kl, am_kill, am_mem, am_fv, am_tk, am_wt, am_bk, Option.toList, List.cons_append, List.nil_append, Nat.reduceAdd, Nat.reduceEqDiff, Nat.reduceLeDiff, reduceIte, Nat.reduceLT, or_self, true_or, or_true, if_true, if_false, and_self, and_true, true_and, not_false_eq_true, not_true_eq_false, hj]
  generalize am_sI h 72 4 (am_I h 72 4 + 1) = g at F1 vj ⊢
  have Sg := hS.fi F1
  have j4 : ∀ j, rJ j → j ≠ 4 := fun j hj => by unfold rJ at hj; omega
  have Cg : rC P g := C.fr F1 (by simp) (fun j hj => vj j (j4 j hj))
  have Ng : ns g now := ⟨by rw [vj 24 (by decide)]; exact N.1, N.2.1, fun i s hi => ⟨by rw [F1.2.2.2.2.2.2.1 86 (by simp)]; exact (N.2.2 i s hi).1, (N.2.2 i s hi).2⟩⟩
  refine am_go [] 2 ?_
  simp only [am_wp, am_stp, am_en, am_as, am_pad, am_nth, am_set, am_st1, am_st2, am_kl, am_kill, am_mem, am_fv, am_tk, am_wt, am_bk, Option.toList, List.cons_append, List.nil_append, Nat.reduceAdd, Nat.reduceEqDiff, Nat.reduceLeDiff, reduceIte, Nat.reduceLT, or_self, true_or, or_true, if_true, if_false, and_self, and_true, true_and, not_false_eq_true, not_true_eq_false, fd_Mo_writeHead_10, fd_Mo_writeHead_11, Sg.all]
  refine am_call (rx_layHead (d := d) Sg Ng) (fun o g1 z => ?_)
  obtain ⟨rfl, F2⟩ := z
  have S1 := Sg.fi F2
  have C1 : rC P g1 := Cg.fr F2 (by simp [rB]) (fun j _ => by rw [F2.2.2.2.2.2.2.1 72 (by simp)])
  have i72 : am_I g1 72 = am_I g 72 := F2.2.2.2.2.2.2.1 72 (by simp)
  obtain ⟨pk, hp, ep⟩ := and1 (am_I g1 72 4)
  simp only [am_wp, am_stp, am_en, am_as, am_pad, am_nth, am_set, am_st1, am_st2, am_kl, am_kill, am_mem, am_fv, am_tk, am_wt, am_bk, Option.toList, List.cons_append, List.nil_append, Nat.reduceAdd, Nat.reduceEqDiff, Nat.reduceLeDiff, reduceIte, Nat.reduceLT, or_self, true_or, or_true, if_true, if_false, and_self, and_true, true_and, not_false_eq_true, not_true_eq_false]
  refine am_go [] 6 ?_
  simp only [am_wp, am_stp, am_en, am_as, am_pad, am_nth, am_set, am_st1, am_st2, am_kl, am_kill, am_mem, am_fv, am_tk, am_wt, am_bk, Option.toList, List.cons_append, List.nil_append, Nat.reduceAdd, Nat.reduceEqDiff, Nat.reduceLeDiff, reduceIte, Nat.reduceLT, or_self, true_or, or_true, if_true, if_false, and_self, and_true, true_and, not_false_eq_true, not_true_eq_false, fd_Mo_writeHead_14, fd_Mo_writeHead_15, fd_Mo_writeHead_16, fd_Mo_writeHead_19, fd_Mo_writeHead_20, fd_Mo_writeHead_21, S1.all]
  rw [ep]
  refine am_call (rx_write (d := d) C1 (show pk < 1024 by omega)) (fun o g2 z => ?_)
  rcases z with ⟨rfl, zz⟩ | ⟨rfl, q1, q2⟩
  · simp only [am_wp, am_stp, am_en, am_as, am_pad, am_nth, am_set, am_st1, am_st2, am_kl, am_kill, am_mem, am_fv, am_tk, am_wt, am_bk, Option.toList, List.cons_append, List.nil_append, Nat.reduceAdd, Nat.reduceEqDiff, Nat.reduceLeDiff, reduceIte, Nat.reduceLT, or_self, true_or, or_true, if_true, if_false, and_self, and_true, true_and, not_false_eq_true, not_true_eq_false]
    have o1 : (1 : Int32) = 0 ∨ (1 : Int32) = 1 := by decide
    refine am_go [] 1 ?_
    simp only [am_wp, am_stp, am_en, am_as, am_pad, am_nth, am_set, am_st1, am_st2, am_kl, am_kill, am_mem, am_fv, am_tk, am_wt, am_bk, Option.toList, List.cons_append, List.nil_append, Nat.reduceAdd, Nat.reduceEqDiff, Nat.reduceLeDiff, reduceIte, Nat.reduceLT, or_self, true_or, or_true, if_true, if_false, and_self, and_true, true_and, not_false_eq_true, not_true_eq_false, fd_Mo_writeHead_24, o1]
    have by2 := zz.by C1.2.2.2.2.2.2.2
    obtain ⟨F3, w1, w2, w3, w5⟩ := zz
    refine Or.inl ⟨((F1.sub (by simp)).trans (F2.sub (by simp))).trans F3, fun j hj h8 => ?_, w2, fun x hx j hj => ?_, by2⟩
    · rw [w1 j (by unfold rJ at hj; omega) h8, i72, vj j (j4 j hj)]
    · rw [w3]
      dsimp only
      rw [if_neg (by omega), F2.2.2.2.2.2.2.1 73 (by simp), F1.2.2.2.2.2.2.1 73 (by simp)]
  · simp only [am_wp, am_stp, am_en, am_as, am_pad, am_nth, am_set, am_st1, am_st2, am_kl, am_kill, am_mem, am_fv, am_tk, am_wt, am_bk, Option.toList, List.cons_append, List.nil_append, Nat.reduceAdd, Nat.reduceEqDiff, Nat.reduceLeDiff, reduceIte, Nat.reduceLT, or_self, true_or, or_true, if_true, if_false, and_self, and_true, true_and, not_false_eq_true, not_true_eq_false]
    have o1 : (0 : Int32) = 0 ∨ (0 : Int32) = 1 := by decide
    refine am_go [] 1 ?_
    simp only [am_wp, am_stp, am_en, am_as, am_pad, am_nth, am_set, am_st1, am_st2, am_kl, am_kill, am_mem, am_fv, am_tk, am_wt, am_bk, Option.toList, List.cons_append, List.nil_append, Nat.reduceAdd, Nat.reduceEqDiff, Nat.reduceLeDiff, reduceIte, Nat.reduceLT, or_self, true_or, or_true, if_true, if_false, and_self, and_true, true_and, not_false_eq_true, not_true_eq_false, fd_Mo_writeHead_24, o1]
    exact Or.inr ⟨⟨q1.1, ((F1.sub (by decide)).trans (F2.sub (by decide))).trans q1.2⟩, q2⟩
theorem rC.hw {P : Nat} {h h' : am_H} (C : rC P h) (q : hw_Q h h') : rC P h' := by
  obtain ⟨c1, c2, c3, c4, ⟨a, b, c5, c6, c7, c8⟩, c9, c10, -⟩ := C
  obtain ⟨f, q2, ⟨a', a1, a2⟩, q4, qB⟩ := q
  refine ⟨c1.fi f, c2, c3, ?_, ⟨a', b, a1, c6, a2, ?_⟩, ?_, ?_, qB⟩
  · rw [q2 1 (by simp [rJ]) (by decide)]; exact c4
  · rw [q2 9 (by simp [rJ]) (by decide)]; exact c8
  · rw [q2 45 (by simp [rJ]) (by decide)]; exact c9
  · rw [q2 11 (by simp [rJ]) (by decide), f.2.2.2.2.2.2.2 74 (by decide), f.2.2.2.2.2.2.1 75 (by decide), f.2.2.2.2.2.2.2 76 (by decide)]; exact c10
theorem rR.hw {P : Nat} {h h' : am_H} {E : Nat → List ent} {now : List Nat} {mk : Nat → List Nat} (R : rR P h E now mk) (hP : P ≤ 1024) (q : hw_Q h h') : rR P h' E now mk := by
  obtain ⟨c1, c2, ⟨c3, c4⟩, c5⟩ := R
  obtain ⟨f, q2, -, q4, -⟩ := q
  have w := f.2.2.2.2.2.2.1
  refine ⟨?_, ?_, ⟨?_, fun s hs => ?_⟩, ?_⟩
  · unfold rR_n lev
    rw [q2 24 (by simp [rJ]) (by decide), w 86 (by decide), w 79 (by decide)]; exact c1
  · unfold rR_m
    rw [w 87 (by decide), w 88 (by decide), w 89 (by decide)]; exact c2
  · rw [w 77 (by decide)]; exact c3
  · refine (c4 s hs).eq hP ?_ (fun k _ => ?_) (fun x hx => hx.eq (fun j hj => q4 x hx.1 j hj))
    · rw [w 80 (by decide)]
    · rw [w 82 (by decide)]
  · rw [q2 3 (by simp [rJ]) (by decide)]; exact c5
