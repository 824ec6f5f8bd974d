/-! told ON A NEW OBJECT -/
theorem l2_countMarks_loop {d : Nat} {h : am_H} {Q : am_O → am_H → Prop} (k2 : am_kd h 2 = 1) (r4 : am_R h 2 4 = 12) (f5 : fr_5 h 8) (hx : Q (.inl (some (.int 0))) h) : ∀ n i : Nat, n + i = 8 →
    am_Ex nm_pr d mt_SR_countMarks (4, [.ref 2, .int 0, .int (nI i)], [], h) Q
  | 0, i, hn => by
    have e : i = 8 := by omega
    subst e
    have hlt : ¬ (nI 8 < 8) := by decide
    refine am_go [10] 6 ?_
    simp only [am_wp, am_stp, am_en, am_as, am_pad, am_nth, am_set, am_st1, am_st2, am_kl, am_kill, am_mem, am_fv, am_tk, am_wt, am_bk, Option.toList, List.cons_append, List.nil_append, Nat.reduceAdd, Nat.reduceEqDiff, Nat.reduceLeDiff, reduceIte, Nat.reduceLT, or_self, true_or, or_true, if_true, if_false, and_self, and_true, true_and, not_false_eq_true, not_true_eq_false, fd_SR_countMarks_4, fd_SR_countMarks_5, fd_SR_countMarks_7, fd_SR_countMarks_36, fd_SR_countMarks_37, hlt]
    exact hx
  | n + 1, i, hn => by
    have hlt : nI i < 8 := nI_lt (b := 8) (by omega) (by decide)
    have i1 := am_inb (c := i) (N := 8) (by omega) (by omega)
    have c1 : (nI i).toNatClampNeg = i := nI_clamp (by omega)
    have rj : am_R h 12 i = 40 + 4 * i := (congrFun f5.1.2.2.2 i).trans (if_pos (by omega))
    have kj : am_kd h (40 + 4 * i) = 6 := (f5.2 i (by omega)).1.1
    have ij : am_I h (40 + 4 * i) 2 = 0 := (f5.2 i (by omega)).1.2.2.1.1 2
    have n1 : (200 ≤ 201 ∧ 201 < 204) := by decide
    refine am_go [10, 36] 4 ?_
    simp only [am_wp, am_stp, am_en, am_as, am_pad, am_nth, am_set, am_st1, am_st2, am_kl, am_kill, am_mem, am_fv, am_tk, am_wt, am_bk, Option.toList, List.cons_append, List.nil_append, Nat.reduceAdd, Nat.reduceEqDiff, Nat.reduceLeDiff, reduceIte, Nat.reduceLT, or_self, true_or, or_true, if_true, if_false, and_self, and_true, true_and, not_false_eq_true, not_true_eq_false, fd_SR_countMarks_4, fd_SR_countMarks_5, fd_SR_countMarks_7, hlt]
    refine am_go [23, 27] 7 ?_
    simp only [am_wp, am_stp, am_en, am_as, am_pad, am_nth, am_set, am_st1, am_st2, am_kl, am_kill, am_mem, am_fv, am_tk, am_wt, am_bk, Option.toList, List.cons_append, List.nil_append, Nat.reduceAdd, Nat.reduceEqDiff, Nat.reduceLeDiff, reduceIte, Nat.reduceLT, or_self, true_or, or_true, if_true, if_false, and_self, and_true, true_and, not_false_eq_true, not_true_eq_false, fd_SR_countMarks_10, fd_SR_countMarks_11, fd_SR_countMarks_12, fd_SR_countMarks_15, fd_SR_countMarks_16, fd_SR_countMarks_17, fd_SR_countMarks_20, k2, r4, f5.1.1, f5.1.2.1, n1, i1, c1, rj, kj, ij]
    refine am_go [4] 6 ?_
    simp only [am_wp, am_stp, am_en, am_as, am_pad, am_nth, am_set, am_st1, am_st2, am_kl, am_kill, am_mem, am_fv, am_tk, am_wt, am_bk, Option.toList, List.cons_append, List.nil_append, Nat.reduceAdd, Nat.reduceEqDiff, Nat.reduceLeDiff, reduceIte, Nat.reduceLT, or_self, true_or, or_true, if_true, if_false, and_self, and_true, true_and, not_false_eq_true, not_true_eq_false, fd_SR_countMarks_27, fd_SR_countMarks_28, fd_SR_countMarks_29, fd_SR_countMarks_30, fd_SR_countMarks_33, nI_1, Int32.add_zero]
    exact l2_countMarks_loop k2 r4 f5 hx n (i + 1) (by omega)
theorem l2_countMarks {d : Nat} {h : am_H} (k2 : am_kd h 2 = 1) (r4 : am_R h 2 4 = 12) (f5 : fr_5 h 8) : am_Rt nm_pr (d + 1) mi_SR_countMarks [.ref 2] h (fun o h' => o = .inl (some (.int 0)) ∧ h' = h) := by
  refine am_in' mt_SR_countMarks 3 rfl rfl rfl ?_
  refine am_go [4] 5 ?_
  simp only [am_wp, am_stp, am_en, am_as, am_pad, am_nth, am_set, am_st1, am_st2, am_kl, am_kill, am_mem, am_fv, am_tk, am_wt, am_bk, Option.toList, List.cons_append, List.nil_append, Nat.reduceAdd, Nat.reduceEqDiff, Nat.reduceLeDiff, reduceIte, Nat.reduceLT, or_self, true_or, or_true, if_true, if_false, and_self, and_true, true_and, not_false_eq_true, not_true_eq_false, fd_SR_countMarks_0, fd_SR_countMarks_1, fd_SR_countMarks_2, fd_SR_countMarks_3]
  exact l2_countMarks_loop k2 r4 f5 ⟨rfl, rfl⟩ 8 0 rfl
def td_v (P : Nat) (j : Nat) : Int32 := match j with
  | 0 => nI (P - 2)
  | 6 => 1
  | _ => 0
theorem l2_SR_told {d P j : Nat} {h : am_H} (F : fr_All P h) (hj : j < 8) : am_Rt nm_pr (d + 2) mi_SR_told [.ref 2, .int (nI j)] h (fun o h' => o = .inl (some (.int (td_v P j))) ∧ h' = h) := by
  obtain ⟨s1, s2, s3⟩ := F.2.2.2.2.2.2.2.2.2.2.2.2.2.2
  have f5 := F.2.2.2.2.2.2.2.2.2.2.2.2.2.1
  have i15 : am_I h 2 15 = 0 := by rw [s3]; rfl
  have i12 : am_I h 2 12 = 1 := by rw [s3]; rfl
  have r0 : am_R h 2 0 = 18 := by rw [s2]; rfl
  have r1 : am_R h 2 1 = 21 := by rw [s2]; rfl
  have r2 : am_R h 2 2 = 3 := by rw [s2]; rfl
  have r3 : am_R h 2 3 = 8 := by rw [s2]; rfl
  have r4 : am_R h 2 4 = 12 := by rw [s2]; rfl
  have k8 : am_kd h 8 = 6 := F.1.2.1.1
  have i8 : am_I h 8 1 = 0 := F.1.2.1.2.2.1.1 1
  have k3 : am_kd h 3 = 10 := F.1.1.1.1
  have i3 : am_I h 3 4 = 0 := F.1.1.1.2.2.1.1 4
  have k18 : am_kd h 18 = 4 := F.2.2.2.1.1
  have i18 := F.2.2.2.2.1
  have i183 : am_I h 18 3 = 0 := by rw [i18]; rfl
  have i184 : am_I h 18 4 = 0 := by rw [i18]; rfl
  obtain ⟨k21, -, i21⟩ := F.2.2.2.2.2.2.2.1
  have i214 : am_I h 21 4 = nI (P - 2) := by rw [i21]; rfl
  have l0 : ¬ nI j < 0 := nI_pos (by omega)
  have l7 : ¬ 7 < nI j := nI_nlt (b := j) (a := 7) (by omega) (by decide)
  refine am_in' (d := d + 1) mt_SR_told 2 rfl rfl rfl ?_
  refine am_go [10, 21] 6 ?_
  simp only [am_wp, am_stp, am_en, am_as, am_pad, am_nth, am_set, am_st1, am_st2, am_kl, am_kill, am_mem, am_fv, am_tk, am_wt, am_bk, Option.toList, List.cons_append, List.nil_append, Nat.reduceAdd, Nat.reduceEqDiff, Nat.reduceLeDiff, reduceIte, Nat.reduceLT, or_self, true_or, or_true, if_true, if_false, and_self, and_true, true_and, not_false_eq_true, not_true_eq_false, fd_SR_told_0, fd_SR_told_1, fd_SR_told_4, fd_SR_told_5, fd_SR_told_7, l0, l7]
  refine am_go [64, 83, 91, 99, 107, 115, 120, 125] 2 ?_
  simp only [am_wp, am_stp, am_en, am_as, am_pad, am_nth, am_set, am_st1, am_st2, am_kl, am_kill, am_mem, am_fv, am_tk, am_wt, am_bk, Option.toList, List.cons_append, List.nil_append, Nat.reduceAdd, Nat.reduceEqDiff, Nat.reduceLeDiff, reduceIte, Nat.reduceLT, or_self, true_or, or_true, if_true, if_false, and_self, and_true, true_and, not_false_eq_true, not_true_eq_false, fd_SR_told_21, fd_SR_told_22]
  have ets : (List.map (fun o => ((22 : Int) + o).toNat) [42, 61, 69, 77, 85, 93, 98]) = [64, 83, 91, 99, 107, 115, 120] := by decide
  have fin : ∀ t, [64, 83, 91, 99, 107, 115, 120, 125][j]? = some t → am_Ex nm_pr (d + 1) mt_SR_told (t, [.ref 2, .int (nI j)], [], h) (fun o h' => o = .inl (some (.int (td_v P j))) ∧ h' = h) := by
    intro t ht
    rcases (by omega : j = 0 ∨ j = 1 ∨ j = 2 ∨ j = 3 ∨ j = 4 ∨ j = 5 ∨ j = 6 ∨ j = 7) with e | e | e | e | e | e | e | e <;> subst e <;> cases ht
    · refine am_go [71] 8 ?_
      simp only [am_wp, am_stp, am_en, am_as, am_pad, am_nth, am_set, am_st1, am_st2, am_kl, am_kill, am_mem, am_fv, am_tk, am_wt, am_bk, Option.toList, List.cons_append, List.nil_append, Nat.reduceAdd, Nat.reduceEqDiff, Nat.reduceLeDiff, reduceIte, Nat.reduceLT, or_self, true_or, or_true, if_true, if_false, and_self, and_true, true_and, not_false_eq_true, not_true_eq_false, fd_SR_told_64, fd_SR_told_65, fd_SR_told_68, fd_SR_told_75, fd_SR_told_76, fd_SR_told_79, fd_SR_told_82, s1, i15, r1, k21, i214, td_v]
    · refine am_go [] 8 ?_
      simp only [am_wp, am_stp, am_en, am_as, am_pad, am_nth, am_set, am_st1, am_st2, am_kl, am_kill, am_mem, am_fv, am_tk, am_wt, am_bk, Option.toList, List.cons_append, List.nil_append, Nat.reduceAdd, Nat.reduceEqDiff, Nat.reduceLeDiff, reduceIte, Nat.reduceLT, or_self, true_or, or_true, if_true, if_false, and_self, and_true, true_and, not_false_eq_true, not_true_eq_false, fd_SR_told_83, fd_SR_told_84, fd_SR_told_87, fd_SR_told_90, s1, r2, k3, i3, td_v]
    · refine am_go [] 8 ?_
      simp only [am_wp, am_stp, am_en, am_as, am_pad, am_nth, am_set, am_st1, am_st2, am_kl, am_kill, am_mem, am_fv, am_tk, am_wt, am_bk, Option.toList, List.cons_append, List.nil_append, Nat.reduceAdd, Nat.reduceEqDiff, Nat.reduceLeDiff, reduceIte, Nat.reduceLT, or_self, true_or, or_true, if_true, if_false, and_self, and_true, true_and, not_false_eq_true, not_true_eq_false, fd_SR_told_91, fd_SR_told_92, fd_SR_told_95, fd_SR_told_98, s1, r0, k18, i183, td_v]
    · refine am_go [] 8 ?_
      simp only [am_wp, am_stp, am_en, am_as, am_pad, am_nth, am_set, am_st1, am_st2, am_kl, am_kill, am_mem, am_fv, am_tk, am_wt, am_bk, Option.toList, List.cons_append, List.nil_append, Nat.reduceAdd, Nat.reduceEqDiff, Nat.reduceLeDiff, reduceIte, Nat.reduceLT, or_self, true_or, or_true, if_true, if_false, and_self, and_true, true_and, not_false_eq_true, not_true_eq_false, fd_SR_told_99, fd_SR_told_100, fd_SR_told_103, fd_SR_told_106, s1, r0, k18, i184, td_v]
    · refine am_go [] 8 ?_
      simp only [am_wp, am_stp, am_en, am_as, am_pad, am_nth, am_set, am_st1, am_st2, am_kl, am_kill, am_mem, am_fv, am_tk, am_wt, am_bk, Option.toList, List.cons_append, List.nil_append, Nat.reduceAdd, Nat.reduceEqDiff, Nat.reduceLeDiff, reduceIte, Nat.reduceLT, or_self, true_or, or_true, if_true, if_false, and_self, and_true, true_and, not_false_eq_true, not_true_eq_false, fd_SR_told_107, fd_SR_told_108, fd_SR_told_111, fd_SR_told_114, s1, r3, k8, i8, td_v]
    · refine am_go [] 2 ?_
      simp only [am_wp, am_stp, am_en, am_as, am_pad, am_nth, am_set, am_st1, am_st2, am_kl, am_kill, am_mem, am_fv, am_tk, am_wt, am_bk, Option.toList, List.cons_append, List.nil_append, Nat.reduceAdd, Nat.reduceEqDiff, Nat.reduceLeDiff, reduceIte, Nat.reduceLT, or_self, true_or, or_true, if_true, if_false, and_self, and_true, true_and, not_false_eq_true, not_true_eq_false, fd_SR_told_115, fd_SR_told_116, s1]
      refine am_call (l2_countMarks s1 r4 f5) (fun o h1 q => ?_)
      obtain ⟨rfl, rfl⟩ := q
      simp only [am_wp, am_stp, am_en, am_as, am_pad, am_nth, am_set, am_st1, am_st2, am_kl, am_kill, am_mem, am_fv, am_tk, am_wt, am_bk, Option.toList, List.cons_append, List.nil_append, Nat.reduceAdd, Nat.reduceEqDiff, Nat.reduceLeDiff, reduceIte, Nat.reduceLT, or_self, true_or, or_true, if_true, if_false, and_self, and_true, true_and, not_false_eq_true, not_true_eq_false]
      refine am_go [] 2 ?_
      simp only [am_wp, am_stp, am_en, am_as, am_pad, am_nth, am_set, am_st1, am_st2, am_kl, am_kill, am_mem, am_fv, am_tk, am_wt, am_bk, Option.toList, List.cons_append, List.nil_append, Nat.reduceAdd, Nat.reduceEqDiff, Nat.reduceLeDiff, reduceIte, Nat.reduceLT, or_self, true_or, or_true, if_true, if_false, and_self, and_true, true_and, not_false_eq_true, not_true_eq_false, fd_SR_told_119, td_v]
    · refine am_go [] 4 ?_
      simp only [am_wp, am_stp, am_en, am_as, am_pad, am_nth, am_set, am_st1, am_st2, am_kl, am_kill, am_mem, am_fv, am_tk, am_wt, am_bk, Option.toList, List.cons_append, List.nil_append, Nat.reduceAdd, Nat.reduceEqDiff, Nat.reduceLeDiff, reduceIte, Nat.reduceLT, or_self, true_or, or_true, if_true, if_false, and_self, and_true, true_and, not_false_eq_true, not_true_eq_false, fd_SR_told_120, fd_SR_told_121, fd_SR_told_124, s1, i12, td_v]
    · refine am_go [132] 8 ?_
      simp only [am_wp, am_stp, am_en, am_as, am_pad, am_nth, am_set, am_st1, am_st2, am_kl, am_kill, am_mem, am_fv, am_tk, am_wt, am_bk, Option.toList, List.cons_append, List.nil_append, Nat.reduceAdd, Nat.reduceEqDiff, Nat.reduceLeDiff, reduceIte, Nat.reduceLT, or_self, true_or, or_true, if_true, if_false, and_self, and_true, true_and, not_false_eq_true, not_true_eq_false, fd_SR_told_125, fd_SR_told_126, fd_SR_told_129, fd_SR_told_136, fd_SR_told_137, s1, i15, td_v]
  have key := am_sw_spec (nI j) (fun t => am_Ex nm_pr (d + 1) mt_SR_told (t, [.ref 2, .int (nI j)], [], h) (fun o h' => o = .inl (some (.int (td_v P j))) ∧ h' = h)) 125 [64, 83, 91, 99, 107, 115, 120] 0 (by decide)
  have goal : am_sw (nI j) (fun t => am_Ex nm_pr (d + 1) mt_SR_told (t, [.ref 2, .int (nI j)], [], h) (fun o h' => o = .inl (some (.int (td_v P j))) ∧ h' = h)) 125 0 [64, 83, 91, 99, 107, 115, 120] := by
    rcases key with ⟨j', t, w1, w2, w3⟩ | ⟨w1, w2⟩
    · have hj' : j' < 7 := (List.getElem?_eq_some_iff.mp w1).1
      have w2' : nI j = nI j' := by rw [w2, Nat.zero_add]; rfl
      rw [nI_eq (by omega) (by omega)] at w2'
      have w3' : am_sw (nI j) (fun t => am_Ex nm_pr (d + 1) mt_SR_told (t, [.ref 2, .int (nI j)], [], h) (fun o h' => o = .inl (some (.int (td_v P j))) ∧ h' = h)) 125 0 [64, 83, 91, 99, 107, 115, 120] = _ := w3
      rw [w3']
      refine fin t ?_
      rw [w2']
      rcases (by omega : j' = 0 ∨ j' = 1 ∨ j' = 2 ∨ j' = 3 ∨ j' = 4 ∨ j' = 5 ∨ j' = 6) with e | e | e | e | e | e | e <;> subst e <;> cases w1 <;> rfl
    · have e : j = 7 := by
        rcases Nat.lt_or_ge j 7 with q | q
        · exact absurd (by rw [Nat.zero_add]; rfl) (w1 j q)
        · omega
      have w2' : am_sw (nI j) (fun t => am_Ex nm_pr (d + 1) mt_SR_told (t, [.ref 2, .int (nI j)], [], h) (fun o h' => o = .inl (some (.int (td_v P j))) ∧ h' = h)) 125 0 [64, 83, 91, 99, 107, 115, 120] = _ := w2
      rw [w2']
      refine fin 125 ?_
      rw [e]
      rfl
  exact goal
theorem us_W_new {P : Nat} {h : am_H} (hM : mo_All P h) : us_W P h := by
  intro s hs hu
  have z : am_I h 77 s = 0 := (hM.2.2.2.2.1 4 _ (by decide) (by decide) rfl).2.2.1.1 s
  rw [z] at hu
  exact absurd hu (by decide)
theorem us_T_new {P p : Nat} {h : am_H} (hM : mo_All P h) : ¬ us_T h 100 p := by
  rintro ⟨s, hs, hu, -⟩
  have z : am_I h 77 s = 0 := (hM.2.2.2.2.1 4 _ (by decide) (by decide) rfl).2.2.1.1 s
  rw [z] at hu
  exact absurd hu (by decide)
theorem us_N_new {f : Nat → Int32} {P : Nat} (hf : ∀ p, p < P → (f p = 0 ∨ f p = 1) ∧ (f p = 1 ↔ p < 2)) : ∀ n, n ≤ P → us_N f n = n - 2
  | 0, _ => rfl
  | n + 1, hn => by
    obtain ⟨a, b⟩ := hf n (by omega)
    unfold us_N
    rw [us_N_new hf n (by omega)]
    by_cases e : n < 2
    · rw [b.mpr e, if_neg (by decide)]
      omega
    · have : f n = 0 := by
        rcases a with a | a
        · exact a
        · exact absurd (b.mp a) e
      rw [if_pos this]
      omega
theorem l2_Mo_told5 {d : Nat} {h : am_H} {w : Int32} {Q : am_O → am_H → Prop} (hS : mo_Sk h) (hz : ∀ j, am_I h 87 j = 0) (hx : Q (.inl (some (.int 0))) h) : ∀ n i : Nat, n + i = 8 →
    am_Ex nm_pr d mt_Mo_told (57, [.ref 72, .int w, .int 0, .int (nI i)], [], h) Q
  | 0, i, hn => by
    have e : i = 8 := by omega
    subst e
    have hlt : ¬ (nI 8 < 8) := by decide
    refine am_go [63] 6 ?_
    simp only [am_wp, am_stp, am_en, am_as, am_pad, am_nth, am_set, am_st1, am_st2, am_kl, am_kill, am_mem, am_fv, am_tk, am_wt, am_bk, Option.toList, List.cons_append, List.nil_append, Nat.reduceAdd, Nat.reduceEqDiff, Nat.reduceLeDiff, reduceIte, Nat.reduceLT, or_self, true_or, or_true, if_true, if_false, and_self, and_true, true_and, not_false_eq_true, not_true_eq_false, fd_Mo_told_57, fd_Mo_told_58, fd_Mo_told_60, fd_Mo_told_86, fd_Mo_told_87, hlt]
    exact hx
  | n + 1, i, hn => by
    obtain ⟨k72, rr, aa⟩ := id hS
    have r26 : am_R h 72 26 = 87 := (rr 26).trans rfl
    have k87 : am_kd h 87 = 103 := (aa 14 _ rfl).1
    have n87 : am_ln h 87 = 8 := (aa 14 _ rfl).2
    have hlt : nI i < 8 := nI_lt (b := 8) (by omega) (by decide)
    have i1 := am_inb (c := i) (N := 8) (by omega) (by omega)
    have c1 : (nI i).toNatClampNeg = i := nI_clamp (by omega)
    refine am_go [63, 86] 4 ?_
    simp only [am_wp, am_stp, am_en, am_as, am_pad, am_nth, am_set, am_st1, am_st2, am_kl, am_kill, am_mem, am_fv, am_tk, am_wt, am_bk, Option.toList, List.cons_append, List.nil_append, Nat.reduceAdd, Nat.reduceEqDiff, Nat.reduceLeDiff, reduceIte, Nat.reduceLT, or_self, true_or, or_true, if_true, if_false, and_self, and_true, true_and, not_false_eq_true, not_true_eq_false, fd_Mo_told_57, fd_Mo_told_58, fd_Mo_told_60, hlt]
    refine am_go [73, 77] 6 ?_
    simp only [am_wp, am_stp, am_en, am_as, am_pad, am_nth, am_set, am_st1, am_st2, am_kl, am_kill, am_mem, am_fv, am_tk, am_wt, am_bk, Option.toList, List.cons_append, List.nil_append, Nat.reduceAdd, Nat.reduceEqDiff, Nat.reduceLeDiff, reduceIte, Nat.reduceLT, or_self, true_or, or_true, if_true, if_false, and_self, and_true, true_and, not_false_eq_true, not_true_eq_false, fd_Mo_told_63, fd_Mo_told_64, fd_Mo_told_65, fd_Mo_told_68, fd_Mo_told_69, fd_Mo_told_70, k72, r26, k87, n87, i1, c1, hz]
    refine am_go [57] 6 ?_
    simp only [am_wp, am_stp, am_en, am_as, am_pad, am_nth, am_set, am_st1, am_st2, am_kl, am_kill, am_mem, am_fv, am_tk, am_wt, am_bk, Option.toList, List.cons_append, List.nil_append, Nat.reduceAdd, Nat.reduceEqDiff, Nat.reduceLeDiff, reduceIte, Nat.reduceLT, or_self, true_or, or_true, if_true, if_false, and_self, and_true, true_and, not_false_eq_true, not_true_eq_false, fd_Mo_told_77, fd_Mo_told_78, fd_Mo_told_79, fd_Mo_told_80, fd_Mo_told_83, nI_1, Int32.add_zero]
    exact l2_Mo_told5 hS hz hx n (i + 1) (by omega)
theorem l2_Mo_told {d P j : Nat} {h : am_H} (hM : mo_All P h) (hP : P ≤ 1024) (h2 : 2 ≤ P) (hj : j < 8) : am_Rt nm_pr (d + 3) mi_Mo_told [.ref 72, .int (nI j)] h (fun o h' => o = .inl (some (.int (td_v P j))) ∧ am_fi [72, 90] h h' ∧ am_I h' 72 0 = 0) := by
  obtain ⟨m1, m2, m3, m4, m5, m6, m7⟩ := id hM
  have hS := hM.Sk
  have k72 := hS.1
  have j0 : am_I h 72 0 = 0 := by rw [m2]; rfl
  have j1 : am_I h 72 1 = nI P := by rw [m2]; rfl
  have j3 : am_I h 72 3 = 0 := by rw [m2]; rfl
  have j4 : am_I h 72 4 = 1 := by rw [m2]; rfl
  have j6 : am_I h 72 6 = 0 := by rw [m2]; rfl
  have j7 : am_I h 72 7 = 0 := by rw [m2]; rfl
  have j11 : am_I h 72 11 = 0 := by rw [m2]; rfl
  have j24 : am_I h 72 24 = 0 := by rw [m2]; rfl
  have z87 : ∀ j, am_I h 87 j = 0 := (m5 14 _ (by decide) (by decide) rfl).2.2.1.1
  have hW := us_W_new hM
  have hT : ∀ p, ¬ us_T h 100 p := fun p => us_T_new hM
  have z : am_sI h 72 0 0 = h := hx_sI_id j0
  have l0 : ¬ nI j < 0 := nI_pos (by omega)
  have l7 : ¬ 7 < nI j := nI_nlt (b := j) (a := 7) (by omega) (by decide)
  refine am_in' (d := d + 2) mt_Mo_told 4 rfl rfl rfl ?_
  refine am_go [11, 15] 6 ?_
  simp only [am_wp, am_stp, am_en, am_as, am_pad, am_nth, am_set, am_st1, am_st2, am_kl, am_kill, am_mem, am_fv, am_tk, am_wt, am_bk, Option.toList, List.cons_append, List.nil_append, Nat.reduceAdd, Nat.reduceEqDiff, Nat.reduceLeDiff, reduceIte, Nat.reduceLT, or_self, true_or, or_true, if_true, if_false, and_self, and_true, true_and, not_false_eq_true, not_true_eq_false, fd_Mo_told_0, fd_Mo_told_1, fd_Mo_told_2, fd_Mo_told_5, fd_Mo_told_6, fd_Mo_told_8, l0, l7]
  refine am_go [26, 28] 6 ?_
  simp only [am_wp, am_stp, am_en, am_as, am_pad, am_nth, am_set, am_st1, am_st2, am_kl, am_kill, am_mem, am_fv, am_tk, am_wt, am_bk, Option.toList, List.cons_append, List.nil_append, Nat.reduceAdd, Nat.reduceEqDiff, Nat.reduceLeDiff, reduceIte, Nat.reduceLT, or_self, true_or, or_true, if_true, if_false, and_self, and_true, true_and, not_false_eq_true, not_true_eq_false, fd_Mo_told_15, fd_Mo_told_16, fd_Mo_told_19, fd_Mo_told_20, fd_Mo_told_23, k72, hx_nx_sI, hx_ce_sI, hx_sl_sI, hx_kd_sI, hx_ln_sI, hx_I_sI, hx_L_sI, hx_R_sI, hx_nx_sL, hx_ce_sL, hx_sl_sL, hx_kd_sL, hx_ln_sL, hx_I_sL, hx_L_sL, hx_R_sL, hx_nx_sR, hx_ce_sR, hx_sl_sR, hx_kd_sR, hx_ln_sR, hx_I_sR, hx_L_sR, hx_R_sR, hx_nx_al, hx_ce_al, hx_sl_al, hx_kd_al, hx_ln_al, hx_I_al, hx_L_al, hx_R_al, hx_nx_row, hx_ce_row, hx_sl_row, hx_kd_row, hx_ln_row, hx_I_row, hx_L_row, hx_R_row, hx_nx_mk, hx_kd_mk, hx_ln_mk, hx_I_mk, hx_L_mk, hx_R_mk]
  rw [z]
  have fr : am_fi [72, 90] h h := am_fi.refl
  rcases (by omega : j = 0 ∨ j = 1 ∨ j = 2 ∨ j = 3 ∨ j = 4 ∨ j = 5 ∨ j = 6 ∨ j = 7) with e | e | e | e | e | e | e | e <;> subst e
  · have e0 : nI 0 = 0 := rfl
    refine am_go [48, 39] 7 ?_
    simp only [am_wp, am_stp, am_en, am_as, am_pad, am_nth, am_set, am_st1, am_st2, am_kl, am_kill, am_mem, am_fv, am_tk, am_wt, am_bk, Option.toList, List.cons_append, List.nil_append, Nat.reduceAdd, Nat.reduceEqDiff, Nat.reduceLeDiff, reduceIte, Nat.reduceLT, or_self, true_or, or_true, if_true, if_false, and_self, and_true, true_and, not_false_eq_true, not_true_eq_false, fd_Mo_told_28, fd_Mo_told_29, fd_Mo_told_32, fd_Mo_told_33, fd_Mo_told_36, fd_Mo_told_43, fd_Mo_told_44, e0, k72, j3]
    refine am_call (l2_Mo_freeCount h2 hP hS j1 hW) (fun o h1 q => ?_)
    obtain ⟨rfl, f, fl, v⟩ := q
    simp only [am_wp, am_stp, am_en, am_as, am_pad, am_nth, am_set, am_st1, am_st2, am_kl, am_kill, am_mem, am_fv, am_tk, am_wt, am_bk, Option.toList, List.cons_append, List.nil_append, Nat.reduceAdd, Nat.reduceEqDiff, Nat.reduceLeDiff, reduceIte, Nat.reduceLT, or_self, true_or, or_true, if_true, if_false, and_self, and_true, true_and, not_false_eq_true, not_true_eq_false]
    refine am_go [] 2 ?_
    have ev : us_N (am_I h1 90) P = P - 2 := us_N_new (P := P) (fun p hp => ⟨(v p hp).1, (v p hp).2.trans ⟨fun w => w.resolve_right (hT p), Or.inl⟩⟩) P (Nat.le_refl _)
    simp only [am_wp, am_stp, am_en, am_as, am_pad, am_nth, am_set, am_st1, am_st2, am_kl, am_kill, am_mem, am_fv, am_tk, am_wt, am_bk, Option.toList, List.cons_append, List.nil_append, Nat.reduceAdd, Nat.reduceEqDiff, Nat.reduceLeDiff, reduceIte, Nat.reduceLT, or_self, true_or, or_true, if_true, if_false, and_self, and_true, true_and, not_false_eq_true, not_true_eq_false, fd_Mo_told_47, ev, td_v]
    exact ⟨f.sub (by simp), (congrFun (f.2.2.2.2.2.2.1 72 (by simp)) 0).trans j0⟩
  · have a0 : ¬ nI 1 = 0 := by decide
    have a5 : ¬ nI 1 = 5 := by decide
    have a1 : nI 1 = 1 := by decide
    refine am_go [32, 53, 100] 12 ?_
    simp only [am_wp, am_stp, am_en, am_as, am_pad, am_nth, am_set, am_st1, am_st2, am_kl, am_kill, am_mem, am_fv, am_tk, am_wt, am_bk, Option.toList, List.cons_append, List.nil_append, Nat.reduceAdd, Nat.reduceEqDiff, Nat.reduceLeDiff, reduceIte, Nat.reduceLT, or_self, true_or, or_true, if_true, if_false, and_self, and_true, true_and, not_false_eq_true, not_true_eq_false, fd_Mo_told_28, fd_Mo_told_29, fd_Mo_told_48, fd_Mo_told_49, fd_Mo_told_50, fd_Mo_told_88, fd_Mo_told_89, fd_Mo_told_90, fd_Mo_told_93, fd_Mo_told_94, fd_Mo_told_97, fd_Mo_told_161, a0, a5, a1, k72, j11, td_v, j0]
    exact fr
  · have a0 : ¬ nI 2 = 0 := by decide
    have a5 : ¬ nI 2 = 5 := by decide
    have a1 : ¬ nI 2 = 1 := by decide
    have a2 : nI 2 = 2 := by decide
    refine am_go [32, 53, 93, 112] 16 ?_
    simp only [am_wp, am_stp, am_en, am_as, am_pad, am_nth, am_set, am_st1, am_st2, am_kl, am_kill, am_mem, am_fv, am_tk, am_wt, am_bk, Option.toList, List.cons_append, List.nil_append, Nat.reduceAdd, Nat.reduceEqDiff, Nat.reduceLeDiff, reduceIte, Nat.reduceLT, or_self, true_or, or_true, if_true, if_false, and_self, and_true, true_and, not_false_eq_true, not_true_eq_false, fd_Mo_told_28, fd_Mo_told_29, fd_Mo_told_48, fd_Mo_told_49, fd_Mo_told_50, fd_Mo_told_88, fd_Mo_told_89, fd_Mo_told_90, fd_Mo_told_100, fd_Mo_told_101, fd_Mo_told_102, fd_Mo_told_105, fd_Mo_told_106, fd_Mo_told_109, fd_Mo_told_161, a0, a5, a1, a2, k72, j6, td_v, j0]
    exact fr
  · have a0 : ¬ nI 3 = 0 := by decide
    have a5 : ¬ nI 3 = 5 := by decide
    have a1 : ¬ nI 3 = 1 := by decide
    have a2 : ¬ nI 3 = 2 := by decide
    have a3 : nI 3 = 3 := by decide
    refine am_go [32, 53, 93, 105, 124] 20 ?_
    simp only [am_wp, am_stp, am_en, am_as, am_pad, am_nth, am_set, am_st1, am_st2, am_kl, am_kill, am_mem, am_fv, am_tk, am_wt, am_bk, Option.toList, List.cons_append, List.nil_append, Nat.reduceAdd, Nat.reduceEqDiff, Nat.reduceLeDiff, reduceIte, Nat.reduceLT, or_self, true_or, or_true, if_true, if_false, and_self, and_true, true_and, not_false_eq_true, not_true_eq_false, fd_Mo_told_28, fd_Mo_told_29, fd_Mo_told_48, fd_Mo_told_49, fd_Mo_told_50, fd_Mo_told_88, fd_Mo_told_89, fd_Mo_told_90, fd_Mo_told_100, fd_Mo_told_101, fd_Mo_told_102, fd_Mo_told_112, fd_Mo_told_113, fd_Mo_told_114, fd_Mo_told_117, fd_Mo_told_118, fd_Mo_told_121, fd_Mo_told_161, a0, a5, a1, a2, a3, k72, j7, td_v, j0]
    exact fr
  · have a0 : ¬ nI 4 = 0 := by decide
    have a5 : ¬ nI 4 = 5 := by decide
    have a1 : ¬ nI 4 = 1 := by decide
    have a2 : ¬ nI 4 = 2 := by decide
    have a3 : ¬ nI 4 = 3 := by decide
    have a4 : nI 4 = 4 := by decide
    refine am_go [32, 53, 93, 105, 117, 136] 24 ?_
    simp only [am_wp, am_stp, am_en, am_as, am_pad, am_nth, am_set, am_st1, am_st2, am_kl, am_kill, am_mem, am_fv, am_tk, am_wt, am_bk, Option.toList, List.cons_append, List.nil_append, Nat.reduceAdd, Nat.reduceEqDiff, Nat.reduceLeDiff, reduceIte, Nat.reduceLT, or_self, true_or, or_true, if_true, if_false, and_self, and_true, true_and, not_false_eq_true, not_true_eq_false, fd_Mo_told_28, fd_Mo_told_29, fd_Mo_told_48, fd_Mo_told_49, fd_Mo_told_50, fd_Mo_told_88, fd_Mo_told_89, fd_Mo_told_90, fd_Mo_told_100, fd_Mo_told_101, fd_Mo_told_102, fd_Mo_told_112, fd_Mo_told_113, fd_Mo_told_114, fd_Mo_told_124, fd_Mo_told_125, fd_Mo_told_126, fd_Mo_told_129, fd_Mo_told_130, fd_Mo_told_133, fd_Mo_told_161, a0, a5, a1, a2, a3, a4, k72, j24, td_v, j0]
    exact fr
  · have a0 : ¬ nI 5 = 0 := by decide
    have a5 : nI 5 = 5 := by decide
    refine am_go [32, 88, 57] 12 ?_
    simp only [am_wp, am_stp, am_en, am_as, am_pad, am_nth, am_set, am_st1, am_st2, am_kl, am_kill, am_mem, am_fv, am_tk, am_wt, am_bk, Option.toList, List.cons_append, List.nil_append, Nat.reduceAdd, Nat.reduceEqDiff, Nat.reduceLeDiff, reduceIte, Nat.reduceLT, or_self, true_or, or_true, if_true, if_false, and_self, and_true, true_and, not_false_eq_true, not_true_eq_false, fd_Mo_told_28, fd_Mo_told_29, fd_Mo_told_48, fd_Mo_told_49, fd_Mo_told_50, fd_Mo_told_53, fd_Mo_told_54, fd_Mo_told_55, fd_Mo_told_56, a0, a5]
    exact l2_Mo_told5 hS z87 ⟨rfl, fr, j0⟩ 8 0 rfl
  · have a0 : ¬ nI 6 = 0 := by decide
    have a5 : ¬ nI 6 = 5 := by decide
    have a1 : ¬ nI 6 = 1 := by decide
    have a2 : ¬ nI 6 = 2 := by decide
    have a3 : ¬ nI 6 = 3 := by decide
    have a4 : ¬ nI 6 = 4 := by decide
    have a6 : nI 6 = 6 := by decide
    refine am_go [32, 53, 93, 105, 117, 129, 136] 24 ?_
    simp only [am_wp, am_stp, am_en, am_as, am_pad, am_nth, am_set, am_st1, am_st2, am_kl, am_kill, am_mem, am_fv, am_tk, am_wt, am_bk, Option.toList, List.cons_append, List.nil_append, Nat.reduceAdd, Nat.reduceEqDiff, Nat.reduceLeDiff, reduceIte, Nat.reduceLT, or_self, true_or, or_true, if_true, if_false, and_self, and_true, true_and, not_false_eq_true, not_true_eq_false, fd_Mo_told_28, fd_Mo_told_29, fd_Mo_told_48, fd_Mo_told_49, fd_Mo_told_50, fd_Mo_told_88, fd_Mo_told_89, fd_Mo_told_90, fd_Mo_told_100, fd_Mo_told_101, fd_Mo_told_102, fd_Mo_told_112, fd_Mo_told_113, fd_Mo_told_114, fd_Mo_told_124, fd_Mo_told_125, fd_Mo_told_126, a0, a5, a1, a2, a3, a4]
    refine am_go [149] 12 ?_
    simp only [am_wp, am_stp, am_en, am_as, am_pad, am_nth, am_set, am_st1, am_st2, am_kl, am_kill, am_mem, am_fv, am_tk, am_wt, am_bk, Option.toList, List.cons_append, List.nil_append, Nat.reduceAdd, Nat.reduceEqDiff, Nat.reduceLeDiff, reduceIte, Nat.reduceLT, or_self, true_or, or_true, if_true, if_false, and_self, and_true, true_and, not_false_eq_true, not_true_eq_false, fd_Mo_told_136, fd_Mo_told_137, fd_Mo_told_139, fd_Mo_told_142, fd_Mo_told_143, fd_Mo_told_146, fd_Mo_told_161, a6, k72, j4, td_v, j0]
    exact fr
  · have a0 : ¬ nI 7 = 0 := by decide
    have a5 : ¬ nI 7 = 5 := by decide
    have a1 : ¬ nI 7 = 1 := by decide
    have a2 : ¬ nI 7 = 2 := by decide
    have a3 : ¬ nI 7 = 3 := by decide
    have a4 : ¬ nI 7 = 4 := by decide
    have a6 : ¬ nI 7 = 6 := by decide
    refine am_go [32, 53, 93, 105, 117, 129, 136] 24 ?_
    simp only [am_wp, am_stp, am_en, am_as, am_pad, am_nth, am_set, am_st1, am_st2, am_kl, am_kill, am_mem, am_fv, am_tk, am_wt, am_bk, Option.toList, List.cons_append, List.nil_append, Nat.reduceAdd, Nat.reduceEqDiff, Nat.reduceLeDiff, reduceIte, Nat.reduceLT, or_self, true_or, or_true, if_true, if_false, and_self, and_true, true_and, not_false_eq_true, not_true_eq_false, fd_Mo_told_28, fd_Mo_told_29, fd_Mo_told_48, fd_Mo_told_49, fd_Mo_told_50, fd_Mo_told_88, fd_Mo_told_89, fd_Mo_told_90, fd_Mo_told_100, fd_Mo_told_101, fd_Mo_told_102, fd_Mo_told_112, fd_Mo_told_113, fd_Mo_told_114, fd_Mo_told_124, fd_Mo_told_125, fd_Mo_told_126, a0, a5, a1, a2, a3, a4]
    refine am_go [142, 156] 12 ?_
    simp only [am_wp, am_stp, am_en, am_as, am_pad, am_nth, am_set, am_st1, am_st2, am_kl, am_kill, am_mem, am_fv, am_tk, am_wt, am_bk, Option.toList, List.cons_append, List.nil_append, Nat.reduceAdd, Nat.reduceEqDiff, Nat.reduceLeDiff, reduceIte, Nat.reduceLT, or_self, true_or, or_true, if_true, if_false, and_self, and_true, true_and, not_false_eq_true, not_true_eq_false, fd_Mo_told_136, fd_Mo_told_137, fd_Mo_told_139, fd_Mo_told_149, fd_Mo_told_150, fd_Mo_told_153, fd_Mo_told_160, fd_Mo_told_161, a6, k72, j3, td_v, j0]
    exact fr
theorem op_told (xs : Nat → Int32) : lw_op xs 1578 := by
  refine ox_told (fun d h G => ?_)
  obtain ⟨g1, g2, g3, g4, g5, g6, g7, g8, g9, g10⟩ := id G
  obtain ⟨s1, s2, s3⟩ := g4.2.2.2.2.2.2.2.2.2.2.2.2.2.2
  have hP := g4.2.2.2.1
  have hP4 := hP.2.2.2.2.2.2.2.2.1
  have hPb := hP.2.2.2.2.2.2.2.2.2
  have hh : mt_La_told.2.2 = [(0, 9, 12, 2)] := rfl
  have i0 : ¬ ((0 : Int32) < 0 ∨ 1 ≤ (0 : Int32).toNatClampNeg) := by decide
  have c0 : (0 : Int32).toNatClampNeg = 0 := by decide
  have le0 : ¬ ((0 : Int32) < 0) := by decide
  refine am_in' (d := d + 11) mt_La_told 4 rfl rfl rfl ?_
  refine am_go [] 5 ?_
  simp only [am_wp, am_stp, am_en, am_as, am_pad, am_nth, am_set, am_st1, am_st2, am_kl, am_kill, am_mem, am_fv, am_tk, am_wt, am_bk, Option.toList, List.cons_append, List.nil_append, Nat.reduceAdd, Nat.reduceEqDiff, Nat.reduceLeDiff, reduceIte, Nat.reduceLT, or_self, true_or, or_true, if_true, if_false, and_self, and_true, true_and, not_false_eq_true, not_true_eq_false, fd_La_told_0, fd_La_told_1, fd_La_told_2, fd_La_told_3, fd_La_told_4, s1]
  by_cases ok : ¬ xs 2 < 0 ∧ ¬ 7 < xs 2
  · obtain ⟨j, hj, ej⟩ := nI_of ok.1
    have hj8 : j < 8 := by
      rcases Nat.lt_or_ge 7 j with q | q
      · exact absurd (by rw [ej]; exact nI_lt (a := 7) q hj) ok.2
      · omega
    rw [ej]
    refine am_call (l2_SR_told g4 hj8) (fun o h1 q => ?_)
    obtain ⟨rfl, rfl⟩ := q
    simp only [am_wp, am_stp, am_en, am_as, am_pad, am_nth, am_set, am_st1, am_st2, am_kl, am_kill, am_mem, am_fv, am_tk, am_wt, am_bk, Option.toList, List.cons_append, List.nil_append, Nat.reduceAdd, Nat.reduceEqDiff, Nat.reduceLeDiff, reduceIte, Nat.reduceLT, or_self, true_or, or_true, if_true, if_false, and_self, and_true, true_and, not_false_eq_true, not_true_eq_false]
    refine am_go [] 10 ?_
    simp only [am_wp, am_stp, am_en, am_as, am_pad, am_nth, am_set, am_st1, am_st2, am_kl, am_kill, am_mem, am_fv, am_tk, am_wt, am_bk, Option.toList, List.cons_append, List.nil_append, Nat.reduceAdd, Nat.reduceEqDiff, Nat.reduceLeDiff, reduceIte, Nat.reduceLT, or_self, true_or, or_true, if_true, if_false, and_self, and_true, true_and, not_false_eq_true, not_true_eq_false, fd_La_told_7, fd_La_told_8, fd_La_told_9, fd_La_told_15, fd_La_told_16, g9, g10, i0, c0, le0]
    have C := lw_C.out (v := (td_v (pg_n (sc_0 8 xs)) j).toInt64) G
    refine ⟨0, (td_v (pg_n (sc_0 8 xs)) j).toInt64, rfl, C, fun _ => by simp only [hx_nx_sI, hx_ce_sI, hx_sl_sI, hx_kd_sI, hx_ln_sI, hx_I_sI, hx_L_sI, hx_R_sI, hx_nx_sL, hx_ce_sL, hx_sl_sL, hx_kd_sL, hx_ln_sL, hx_I_sL, hx_L_sL, hx_R_sL, hx_nx_sR, hx_ce_sR, hx_sl_sR, hx_kd_sR, hx_ln_sR, hx_I_sR, hx_L_sR, hx_R_sR, hx_nx_al, hx_ce_al, hx_sl_al, hx_kd_al, hx_ln_al, hx_I_al, hx_L_al, hx_R_al, hx_nx_row, hx_ce_row, hx_sl_row, hx_kd_row, hx_ln_row, hx_I_row, hx_L_row, hx_R_row, hx_nx_mk, hx_kd_mk, hx_ln_mk, hx_I_mk, hx_L_mk, hx_R_mk, am_wp, am_stp, am_en, am_as, am_pad, am_nth, am_set, am_st1, am_st2, am_kl, am_kill, am_mem, am_fv, am_tk, am_wt, am_bk, Option.toList, List.cons_append, List.nil_append, Nat.reduceAdd, Nat.reduceEqDiff, Nat.reduceLeDiff, reduceIte, Nat.reduceLT, or_self, true_or, or_true, if_true, if_false, and_self, and_true, true_and, not_false_eq_true, not_true_eq_false], ?_⟩
    refine am_call (l2_Mo_told (d := d + 9) (C.mo g5) hPb (by omega) hj8) (fun o h2 q => ?_)
    obtain ⟨rfl, q2, q3⟩ := q
    exact ⟨_, rfl, lw_D.fi q2 (by simp), q3, fun _ => rfl⟩
  · refine am_call (Q := fun o h' => o = .inr (2, am_nx h) ∧ h' = am_al h 0 0 6) ?_ (fun o h1 q => ?_)
    · refine am_in' (d := d + 10) mt_SR_told 2 rfl rfl rfl ?_
      have bad : am_Ex nm_pr (d + 10) mt_SR_told (10, [.ref 2, .int (xs 2)], [], h) (fun o h' => o = .inr (2, am_nx h) ∧ h' = am_al h 0 0 6) := by
        refine am_go [] 3 ?_
        simp only [am_wp, am_stp, am_en, am_as, am_pad, am_nth, am_set, am_st1, am_st2, am_kl, am_kill, am_mem, am_fv, am_tk, am_wt, am_bk, Option.toList, List.cons_append, List.nil_append, Nat.reduceAdd, Nat.reduceEqDiff, Nat.reduceLeDiff, reduceIte, Nat.reduceLT, or_self, true_or, or_true, if_true, if_false, and_self, and_true, true_and, not_false_eq_true, not_true_eq_false, fd_SR_told_10]
      refine am_go [10, 4] 2 ?_
      simp only [am_wp, am_stp, am_en, am_as, am_pad, am_nth, am_set, am_st1, am_st2, am_kl, am_kill, am_mem, am_fv, am_tk, am_wt, am_bk, Option.toList, List.cons_append, List.nil_append, Nat.reduceAdd, Nat.reduceEqDiff, Nat.reduceLeDiff, reduceIte, Nat.reduceLT, or_self, true_or, or_true, if_true, if_false, and_self, and_true, true_and, not_false_eq_true, not_true_eq_false, fd_SR_told_0, fd_SR_told_1]
      by_cases e1 : xs 2 < 0
      · simp only [e1, am_wp, am_stp, am_en, am_as, am_pad, am_nth, am_set, am_st1, am_st2, am_kl, am_kill, am_mem, am_fv, am_tk, am_wt, am_bk, Option.toList, List.cons_append, List.nil_append, Nat.reduceAdd, Nat.reduceEqDiff, Nat.reduceLeDiff, reduceIte, Nat.reduceLT, or_self, true_or, or_true, if_true, if_false, and_self, and_true, true_and, not_false_eq_true, not_true_eq_false]; exact bad
      simp only [e1, am_wp, am_stp, am_en, am_as, am_pad, am_nth, am_set, am_st1, am_st2, am_kl, am_kill, am_mem, am_fv, am_tk, am_wt, am_bk, Option.toList, List.cons_append, List.nil_append, Nat.reduceAdd, Nat.reduceEqDiff, Nat.reduceLeDiff, reduceIte, Nat.reduceLT, or_self, true_or, or_true, if_true, if_false, and_self, and_true, true_and, not_false_eq_true, not_true_eq_false]
      have e2 : 7 < xs 2 := Classical.byContradiction (fun q => ok ⟨e1, q⟩)
      refine am_go [10, 21] 3 ?_
      simp only [am_wp, am_stp, am_en, am_as, am_pad, am_nth, am_set, am_st1, am_st2, am_kl, am_kill, am_mem, am_fv, am_tk, am_wt, am_bk, Option.toList, List.cons_append, List.nil_append, Nat.reduceAdd, Nat.reduceEqDiff, Nat.reduceLeDiff, reduceIte, Nat.reduceLT, or_self, true_or, or_true, if_true, if_false, and_self, and_true, true_and, not_false_eq_true, not_true_eq_false, fd_SR_told_4, fd_SR_told_5, fd_SR_told_7, e2]
      exact bad
    · obtain ⟨rfl, rfl⟩ := q
      simp only [am_wp, am_stp, am_en, am_as, am_pad, am_nth, am_set, am_st1, am_st2, am_kl, am_kill, am_mem, am_fv, am_tk, am_wt, am_bk, Option.toList, List.cons_append, List.nil_append, Nat.reduceAdd, Nat.reduceEqDiff, Nat.reduceLeDiff, reduceIte, Nat.reduceLT, or_self, true_or, or_true, if_true, if_false, and_self, and_true, true_and, not_false_eq_true, not_true_eq_false, hh, am_hd]
      refine am_go [] 10 ?_
      simp only [am_wp, am_stp, am_en, am_as, am_pad, am_nth, am_set, am_st1, am_st2, am_kl, am_kill, am_mem, am_fv, am_tk, am_wt, am_bk, Option.toList, List.cons_append, List.nil_append, Nat.reduceAdd, Nat.reduceEqDiff, Nat.reduceLeDiff, reduceIte, Nat.reduceLT, or_self, true_or, or_true, if_true, if_false, and_self, and_true, true_and, not_false_eq_true, not_true_eq_false, fd_La_told_12, fd_La_told_13, fd_La_told_14]
      have C := lw_C.ex G
      refine ⟨1, 0, rfl, C, fun e => absurd e (by decide), ?_⟩
      have k72 := (C.mo g5).1.1
      generalize am_al h 0 0 6 = g at *
      refine am_call (Q := fun o h' => o = .inl (some (.int 0)) ∧ h' = am_sI g 72 0 1) ?_ (fun o h2 q => ?_)
      · refine am_in' (d := d + 11) mt_Mo_told 4 rfl rfl rfl ?_
        have one0 : ¬ ((1 : Int32) = 0) := by decide
        have bad : am_Ex nm_pr (d + 11) mt_Mo_told (11, [.ref 72, .int (xs 2), .retAddr 0, .retAddr 0], [.ref 72], g) (fun o h' => o = .inl (some (.int 0)) ∧ h' = am_sI g 72 0 1) := by
          refine am_go [28] 12 ?_
          simp only [am_wp, am_stp, am_en, am_as, am_pad, am_nth, am_set, am_st1, am_st2, am_kl, am_kill, am_mem, am_fv, am_tk, am_wt, am_bk, Option.toList, List.cons_append, List.nil_append, Nat.reduceAdd, Nat.reduceEqDiff, Nat.reduceLeDiff, reduceIte, Nat.reduceLT, or_self, true_or, or_true, if_true, if_false, and_self, and_true, true_and, not_false_eq_true, not_true_eq_false, fd_Mo_told_11, fd_Mo_told_12, fd_Mo_told_16, fd_Mo_told_19, fd_Mo_told_20, fd_Mo_told_23, fd_Mo_told_26, fd_Mo_told_27, hx_nx_sI, hx_ce_sI, hx_sl_sI, hx_kd_sI, hx_ln_sI, hx_I_sI, hx_L_sI, hx_R_sI, hx_nx_sL, hx_ce_sL, hx_sl_sL, hx_kd_sL, hx_ln_sL, hx_I_sL, hx_L_sL, hx_R_sL, hx_nx_sR, hx_ce_sR, hx_sl_sR, hx_kd_sR, hx_ln_sR, hx_I_sR, hx_L_sR, hx_R_sR, hx_nx_al, hx_ce_al, hx_sl_al, hx_kd_al, hx_ln_al, hx_I_al, hx_L_al, hx_R_al, hx_nx_row, hx_ce_row, hx_sl_row, hx_kd_row, hx_ln_row, hx_I_row, hx_L_row, hx_R_row, hx_nx_mk, hx_kd_mk, hx_ln_mk, hx_I_mk, hx_L_mk, hx_R_mk, k72, one0]
        refine am_go [11, 5] 3 ?_
        simp only [am_wp, am_stp, am_en, am_as, am_pad, am_nth, am_set, am_st1, am_st2, am_kl, am_kill, am_mem, am_fv, am_tk, am_wt, am_bk, Option.toList, List.cons_append, List.nil_append, Nat.reduceAdd, Nat.reduceEqDiff, Nat.reduceLeDiff, reduceIte, Nat.reduceLT, or_self, true_or, or_true, if_true, if_false, and_self, and_true, true_and, not_false_eq_true, not_true_eq_false, fd_Mo_told_0, fd_Mo_told_1, fd_Mo_told_2]
        by_cases e1 : xs 2 < 0
        · simp only [e1, am_wp, am_stp, am_en, am_as, am_pad, am_nth, am_set, am_st1, am_st2, am_kl, am_kill, am_mem, am_fv, am_tk, am_wt, am_bk, Option.toList, List.cons_append, List.nil_append, Nat.reduceAdd, Nat.reduceEqDiff, Nat.reduceLeDiff, reduceIte, Nat.reduceLT, or_self, true_or, or_true, if_true, if_false, and_self, and_true, true_and, not_false_eq_true, not_true_eq_false]; exact bad
        simp only [e1, am_wp, am_stp, am_en, am_as, am_pad, am_nth, am_set, am_st1, am_st2, am_kl, am_kill, am_mem, am_fv, am_tk, am_wt, am_bk, Option.toList, List.cons_append, List.nil_append, Nat.reduceAdd, Nat.reduceEqDiff, Nat.reduceLeDiff, reduceIte, Nat.reduceLT, or_self, true_or, or_true, if_true, if_false, and_self, and_true, true_and, not_false_eq_true, not_true_eq_false]
        have e2 : 7 < xs 2 := Classical.byContradiction (fun q => ok ⟨e1, q⟩)
        refine am_go [11, 15] 3 ?_
        simp only [am_wp, am_stp, am_en, am_as, am_pad, am_nth, am_set, am_st1, am_st2, am_kl, am_kill, am_mem, am_fv, am_tk, am_wt, am_bk, Option.toList, List.cons_append, List.nil_append, Nat.reduceAdd, Nat.reduceEqDiff, Nat.reduceLeDiff, reduceIte, Nat.reduceLT, or_self, true_or, or_true, if_true, if_false, and_self, and_true, true_and, not_false_eq_true, not_true_eq_false, fd_Mo_told_5, fd_Mo_told_6, fd_Mo_told_8, e2]
        exact bad
      · obtain ⟨rfl, rfl⟩ := q
        exact ⟨0, rfl, lw_D.fi (S := [72]) (am_fi.refl.sI (by simp)) (by simp), by simp only [hx_nx_sI, hx_ce_sI, hx_sl_sI, hx_kd_sI, hx_ln_sI, hx_I_sI, hx_L_sI, hx_R_sI, hx_nx_sL, hx_ce_sL, hx_sl_sL, hx_kd_sL, hx_ln_sL, hx_I_sL, hx_L_sL, hx_R_sL, hx_nx_sR, hx_ce_sR, hx_sl_sR, hx_kd_sR, hx_ln_sR, hx_I_sR, hx_L_sR, hx_R_sR, hx_nx_al, hx_ce_al, hx_sl_al, hx_kd_al, hx_ln_al, hx_I_al, hx_L_al, hx_R_al, hx_nx_row, hx_ce_row, hx_sl_row, hx_kd_row, hx_ln_row, hx_I_row, hx_L_row, hx_R_row, hx_nx_mk, hx_kd_mk, hx_ln_mk, hx_I_mk, hx_L_mk, hx_R_mk, am_wp, am_stp, am_en, am_as, am_pad, am_nth, am_set, am_st1, am_st2, am_kl, am_kill, am_mem, am_fv, am_tk, am_wt, am_bk, Option.toList, List.cons_append, List.nil_append, Nat.reduceAdd, Nat.reduceEqDiff, Nat.reduceLeDiff, reduceIte, Nat.reduceLT, or_self, true_or, or_true, if_true, if_false, and_self, and_true, true_and, not_false_eq_true, not_true_eq_false], fun e => absurd e (by decide)⟩
