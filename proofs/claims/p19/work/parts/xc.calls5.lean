/-! THE REFERENCE'S CALLS, 5: told, hidden, views, get -/
theorem rx_told_loop {d P : Nat} {v : Int32} {h g : am_H} (q : rq P h g) : ∀ (m i : Nat) (x : Int32), m + i = 8 →
    am_Ex nm_pr (d + 2) mt_Mo_told (57, [.ref 72, .int v, .int x, .int (nI i)], [], g) (fun o h' => iany o ∧ rq P h h')
  | 0, i, x, hm => by
    have S := q.1.1.1
    have e : i = 8 := by omega
    subst e
    have l1 : ¬ nI 8 < 8 := by decide
    refine am_go [63, 86] 3 ?_
    simp only [am_wp, am_stp, am_en, am_as, am_pad, am_nth, am_set, am_st1, am_st2, am_kl, am_kill, am_mem, am_fv, am_tk, am_wt, am_bk, Option.toList, List.cons_append, List.nil_append, Nat.reduceAdd, Nat.reduceEqDiff, Nat.reduceLeDiff, reduceIte, Nat.reduceLT, or_self, true_or, or_true, if_true, if_false, and_self, and_true, true_and, not_false_eq_true, not_true_eq_false, fd_Mo_told_57, fd_Mo_told_58, fd_Mo_told_60, S.all, l1]
    refine am_go [] 2 ?_
    simp only [am_wp, am_stp, am_en, am_as, am_pad, am_nth, am_set, am_st1, am_st2, am_kl, am_kill, am_mem, am_fv, am_tk, am_wt, am_bk, Option.toList, List.cons_append, List.nil_append, Nat.reduceAdd, Nat.reduceEqDiff, Nat.reduceLeDiff, reduceIte, Nat.reduceLT, or_self, true_or, or_true, if_true, if_false, and_self, and_true, true_and, not_false_eq_true, not_true_eq_false, fd_Mo_told_86, fd_Mo_told_87, S.all]
    exact ⟨⟨_, rfl⟩, q⟩
  | m + 1, i, x, hm => by
    have S := q.1.1.1
    have l1 : nI i < 8 := nI_lt (b := 8) (by omega) (by decide)
    have i1 := am_inb (c := i) (N := 8) (by omega) (by omega)
    have q1 : (nI i).toNatClampNeg = i := nI_clamp (by omega)
    refine am_go [63, 86] 3 ?_
    simp only [am_wp, am_stp, am_en, am_as, am_pad, am_nth, am_set, am_st1, am_st2, am_kl, am_kill, am_mem, am_fv, am_tk, am_wt, am_bk, Option.toList, List.cons_append, List.nil_append, Nat.reduceAdd, Nat.reduceEqDiff, Nat.reduceLeDiff, reduceIte, Nat.reduceLT, or_self, true_or, or_true, if_true, if_false, and_self, and_true, true_and, not_false_eq_true, not_true_eq_false, fd_Mo_told_57, fd_Mo_told_58, fd_Mo_told_60, S.all, l1]
    refine am_go [73, 77] 6 ?_
    simp only [am_wp, am_stp, am_en, am_as, am_pad, am_nth, am_set, am_st1, am_st2, am_kl, am_kill, am_mem, am_fv, am_tk, am_wt, am_bk, Option.toList, List.cons_append, List.nil_append, Nat.reduceAdd, Nat.reduceEqDiff, Nat.reduceLeDiff, reduceIte, Nat.reduceLT, or_self, true_or, or_true, if_true, if_false, and_self, and_true, true_and, not_false_eq_true, not_true_eq_false, fd_Mo_told_63, fd_Mo_told_64, fd_Mo_told_65, fd_Mo_told_68, fd_Mo_told_69, fd_Mo_told_70, S.all, i1, q1]
    refine wif ?_ ?_
    · refine am_go [57] 5 ?_
      simp only [am_wp, am_stp, am_en, am_as, am_pad, am_nth, am_set, am_st1, am_st2, am_kl, am_kill, am_mem, am_fv, am_tk, am_wt, am_bk, Option.toList, List.cons_append, List.nil_append, Nat.reduceAdd, Nat.reduceEqDiff, Nat.reduceLeDiff, reduceIte, Nat.reduceLT, or_self, true_or, or_true, if_true, if_false, and_self, and_true, true_and, not_false_eq_true, not_true_eq_false, fd_Mo_told_77, fd_Mo_told_78, fd_Mo_told_79, fd_Mo_told_80, fd_Mo_told_83, S.all, nI_1]
      exact rx_told_loop q m (i + 1) _ (by omega)
    · refine am_go [57] 6 ?_
      simp only [am_wp, am_stp, am_en, am_as, am_pad, am_nth, am_set, am_st1, am_st2, am_kl, am_kill, am_mem, am_fv, am_tk, am_wt, am_bk, Option.toList, List.cons_append, List.nil_append, Nat.reduceAdd, Nat.reduceEqDiff, Nat.reduceLeDiff, reduceIte, Nat.reduceLT, or_self, true_or, or_true, if_true, if_false, and_self, and_true, true_and, not_false_eq_true, not_true_eq_false, fd_Mo_told_73, fd_Mo_told_74, fd_Mo_told_78, fd_Mo_told_79, fd_Mo_told_80, fd_Mo_told_83, S.all, nI_1]
      exact rx_told_loop q m (i + 1) _ (by omega)
theorem rx_told {d P : Nat} {v : Int32} {h : am_H} (R : rI P h) : am_Rt nm_pr (d + 3) mi_Mo_told [.ref 72, .int v] h (fun o h' => iany o ∧ rq P h h') := by
  have hS := R.1.1
  have q0 := rq.refl R
  refine am_in' (d := d + 2) mt_Mo_told 4 rfl rfl rfl ?_
  have go : ∀ c : Int32, am_Ex nm_pr (d + 2) mt_Mo_told (16, [.ref 72, .int v, .retAddr 0, .retAddr 0], [.int c, .ref 72], h) (fun o h' => iany o ∧ rq P h h') := fun c => by
    refine am_go [19] 1 ?_
    simp only [am_wp, am_stp, am_en, am_as, am_pad, am_nth, am_set, am_st1, am_st2, am_kl, am_kill, am_mem, am_fv, am_tk, am_wt, am_bk, Option.toList, List.cons_append, List.nil_append, Nat.reduceAdd, Nat.reduceEqDiff, Nat.reduceLeDiff, reduceIte, Nat.reduceLT, or_self, true_or, or_true, if_true, if_false, and_self, and_true, true_and, not_false_eq_true, not_true_eq_false, fd_Mo_told_16, hS.all]
    have q1 := q0.s (j := 0) (v := c) (by unfold rJ; omega)
    generalize am_sI h 72 0 c = g at *
    obtain ⟨C, E, now, mk, RR⟩ := id q1.1
    have S1 := C.1
    have P1024 := C.2.2.1
    refine am_go [26, 28] 3 ?_
    simp only [am_wp, am_stp, am_en, am_as, am_pad, am_nth, am_set, am_st1, am_st2, am_kl, am_kill, am_mem, am_fv, am_tk, am_wt, am_bk, Option.toList, List.cons_append, List.nil_append, Nat.reduceAdd, Nat.reduceEqDiff, Nat.reduceLeDiff, reduceIte, Nat.reduceLT, or_self, true_or, or_true, if_true, if_false, and_self, and_true, true_and, not_false_eq_true, not_true_eq_false, fd_Mo_told_19, fd_Mo_told_20, fd_Mo_told_23, S1.all]
    refine wif ?_ ?_
    rotate_left
    · refine am_go [] 2 ?_
      simp only [am_wp, am_stp, am_en, am_as, am_pad, am_nth, am_set, am_st1, am_st2, am_kl, am_kill, am_mem, am_fv, am_tk, am_wt, am_bk, Option.toList, List.cons_append, List.nil_append, Nat.reduceAdd, Nat.reduceEqDiff, Nat.reduceLeDiff, reduceIte, Nat.reduceLT, or_self, true_or, or_true, if_true, if_false, and_self, and_true, true_and, not_false_eq_true, not_true_eq_false, fd_Mo_told_26, fd_Mo_told_27, S1.all]
      exact ⟨⟨_, rfl⟩, q1⟩
    refine am_go [32, 48] 2 ?_
    simp only [am_wp, am_stp, am_en, am_as, am_pad, am_nth, am_set, am_st1, am_st2, am_kl, am_kill, am_mem, am_fv, am_tk, am_wt, am_bk, Option.toList, List.cons_append, List.nil_append, Nat.reduceAdd, Nat.reduceEqDiff, Nat.reduceLeDiff, reduceIte, Nat.reduceLT, or_self, true_or, or_true, if_true, if_false, and_self, and_true, true_and, not_false_eq_true, not_true_eq_false, fd_Mo_told_28, fd_Mo_told_29, S1.all]
    refine wif ?_ ?_
    rotate_left
    rotate_left
    · refine am_go [39, 43] 3 ?_
      simp only [am_wp, am_stp, am_en, am_as, am_pad, am_nth, am_set, am_st1, am_st2, am_kl, am_kill, am_mem, am_fv, am_tk, am_wt, am_bk, Option.toList, List.cons_append, List.nil_append, Nat.reduceAdd, Nat.reduceEqDiff, Nat.reduceLeDiff, reduceIte, Nat.reduceLT, or_self, true_or, or_true, if_true, if_false, and_self, and_true, true_and, not_false_eq_true, not_true_eq_false, fd_Mo_told_32, fd_Mo_told_33, fd_Mo_told_36, S1.all]
      refine wif ?_ ?_
      · refine am_go [] 2 ?_
        simp only [am_wp, am_stp, am_en, am_as, am_pad, am_nth, am_set, am_st1, am_st2, am_kl, am_kill, am_mem, am_fv, am_tk, am_wt, am_bk, Option.toList, List.cons_append, List.nil_append, Nat.reduceAdd, Nat.reduceEqDiff, Nat.reduceLeDiff, reduceIte, Nat.reduceLT, or_self, true_or, or_true, if_true, if_false, and_self, and_true, true_and, not_false_eq_true, not_true_eq_false, fd_Mo_told_43, fd_Mo_told_44, S1.all]
        refine am_call (l2_Mo_freeCount (d := d) (by have := C.2.1; omega) P1024 S1 C.2.2.2.1 (RR.W P1024)) (fun o g2 z => ?_)
        obtain ⟨rfl, F2, -, -⟩ := z
        have S2 := S1.fi F2
        simp only [am_wp, am_stp, am_en, am_as, am_pad, am_nth, am_set, am_st1, am_st2, am_kl, am_kill, am_mem, am_fv, am_tk, am_wt, am_bk, Option.toList, List.cons_append, List.nil_append, Nat.reduceAdd, Nat.reduceEqDiff, Nat.reduceLeDiff, reduceIte, Nat.reduceLT, or_self, true_or, or_true, if_true, if_false, and_self, and_true, true_and, not_false_eq_true, not_true_eq_false]
        refine am_go [] 1 ?_
        simp only [am_wp, am_stp, am_en, am_as, am_pad, am_nth, am_set, am_st1, am_st2, am_kl, am_kill, am_mem, am_fv, am_tk, am_wt, am_bk, Option.toList, List.cons_append, List.nil_append, Nat.reduceAdd, Nat.reduceEqDiff, Nat.reduceLeDiff, reduceIte, Nat.reduceLT, or_self, true_or, or_true, if_true, if_false, and_self, and_true, true_and, not_false_eq_true, not_true_eq_false, fd_Mo_told_47, S2.all]
        exact ⟨⟨_, rfl⟩, q1.trans (rq.fr q1.1 F2 (by simp [rB]) (fun j _ => by rw [F2.2.2.2.2.2.2.1 72 (by simp)]))⟩
      · refine am_go [] 3 ?_
        simp only [am_wp, am_stp, am_en, am_as, am_pad, am_nth, am_set, am_st1, am_st2, am_kl, am_kill, am_mem, am_fv, am_tk, am_wt, am_bk, Option.toList, List.cons_append, List.nil_append, Nat.reduceAdd, Nat.reduceEqDiff, Nat.reduceLeDiff, reduceIte, Nat.reduceLT, or_self, true_or, or_true, if_true, if_false, and_self, and_true, true_and, not_false_eq_true, not_true_eq_false, fd_Mo_told_39, fd_Mo_told_40, fd_Mo_told_47, S1.all]
        exact ⟨⟨_, rfl⟩, q1⟩
    refine am_go [53, 88] 3 ?_
    simp only [am_wp, am_stp, am_en, am_as, am_pad, am_nth, am_set, am_st1, am_st2, am_kl, am_kill, am_mem, am_fv, am_tk, am_wt, am_bk, Option.toList, List.cons_append, List.nil_append, Nat.reduceAdd, Nat.reduceEqDiff, Nat.reduceLeDiff, reduceIte, Nat.reduceLT, or_self, true_or, or_true, if_true, if_false, and_self, and_true, true_and, not_false_eq_true, not_true_eq_false, fd_Mo_told_48, fd_Mo_told_49, fd_Mo_told_50, S1.all]
    refine wif ?_ ?_
    rotate_left
    rotate_left
    · refine am_go [57] 4 ?_
      simp only [am_wp, am_stp, am_en, am_as, am_pad, am_nth, am_set, am_st1, am_st2, am_kl, am_kill, am_mem, am_fv, am_tk, am_wt, am_bk, Option.toList, List.cons_append, List.nil_append, Nat.reduceAdd, Nat.reduceEqDiff, Nat.reduceLeDiff, reduceIte, Nat.reduceLT, or_self, true_or, or_true, if_true, if_false, and_self, and_true, true_and, not_false_eq_true, not_true_eq_false, fd_Mo_told_53, fd_Mo_told_54, fd_Mo_told_55, fd_Mo_told_56, S1.all]
      exact rx_told_loop q1 8 0 0 rfl
    refine am_go [93, 100] 3 ?_
    simp only [am_wp, am_stp, am_en, am_as, am_pad, am_nth, am_set, am_st1, am_st2, am_kl, am_kill, am_mem, am_fv, am_tk, am_wt, am_bk, Option.toList, List.cons_append, List.nil_append, Nat.reduceAdd, Nat.reduceEqDiff, Nat.reduceLeDiff, reduceIte, Nat.reduceLT, or_self, true_or, or_true, if_true, if_false, and_self, and_true, true_and, not_false_eq_true, not_true_eq_false, fd_Mo_told_88, fd_Mo_told_89, fd_Mo_told_90, S1.all]
    refine wif ?_ ?_
    rotate_left
    rotate_left
    · refine am_go [] 4 ?_
      simp only [am_wp, am_stp, am_en, am_as, am_pad, am_nth, am_set, am_st1, am_st2, am_kl, am_kill, am_mem, am_fv, am_tk, am_wt, am_bk, Option.toList, List.cons_append, List.nil_append, Nat.reduceAdd, Nat.reduceEqDiff, Nat.reduceLeDiff, reduceIte, Nat.reduceLT, or_self, true_or, or_true, if_true, if_false, and_self, and_true, true_and, not_false_eq_true, not_true_eq_false, fd_Mo_told_93, fd_Mo_told_94, fd_Mo_told_97, fd_Mo_told_161, S1.all]
      exact ⟨⟨_, rfl⟩, q1⟩
    refine am_go [105, 112] 3 ?_
    simp only [am_wp, am_stp, am_en, am_as, am_pad, am_nth, am_set, am_st1, am_st2, am_kl, am_kill, am_mem, am_fv, am_tk, am_wt, am_bk, Option.toList, List.cons_append, List.nil_append, Nat.reduceAdd, Nat.reduceEqDiff, Nat.reduceLeDiff, reduceIte, Nat.reduceLT, or_self, true_or, or_true, if_true, if_false, and_self, and_true, true_and, not_false_eq_true, not_true_eq_false, fd_Mo_told_100, fd_Mo_told_101, fd_Mo_told_102, S1.all]
    refine wif ?_ ?_
    rotate_left
    rotate_left
    · refine am_go [] 4 ?_
      simp only [am_wp, am_stp, am_en, am_as, am_pad, am_nth, am_set, am_st1, am_st2, am_kl, am_kill, am_mem, am_fv, am_tk, am_wt, am_bk, Option.toList, List.cons_append, List.nil_append, Nat.reduceAdd, Nat.reduceEqDiff, Nat.reduceLeDiff, reduceIte, Nat.reduceLT, or_self, true_or, or_true, if_true, if_false, and_self, and_true, true_and, not_false_eq_true, not_true_eq_false, fd_Mo_told_105, fd_Mo_told_106, fd_Mo_told_109, fd_Mo_told_161, S1.all]
      exact ⟨⟨_, rfl⟩, q1⟩
    refine am_go [117, 124] 3 ?_
    simp only [am_wp, am_stp, am_en, am_as, am_pad, am_nth, am_set, am_st1, am_st2, am_kl, am_kill, am_mem, am_fv, am_tk, am_wt, am_bk, Option.toList, List.cons_append, List.nil_append, Nat.reduceAdd, Nat.reduceEqDiff, Nat.reduceLeDiff, reduceIte, Nat.reduceLT, or_self, true_or, or_true, if_true, if_false, and_self, and_true, true_and, not_false_eq_true, not_true_eq_false, fd_Mo_told_112, fd_Mo_told_113, fd_Mo_told_114, S1.all]
    refine wif ?_ ?_
    rotate_left
    rotate_left
    · refine am_go [] 4 ?_
      simp only [am_wp, am_stp, am_en, am_as, am_pad, am_nth, am_set, am_st1, am_st2, am_kl, am_kill, am_mem, am_fv, am_tk, am_wt, am_bk, Option.toList, List.cons_append, List.nil_append, Nat.reduceAdd, Nat.reduceEqDiff, Nat.reduceLeDiff, reduceIte, Nat.reduceLT, or_self, true_or, or_true, if_true, if_false, and_self, and_true, true_and, not_false_eq_true, not_true_eq_false, fd_Mo_told_117, fd_Mo_told_118, fd_Mo_told_121, fd_Mo_told_161, S1.all]
      exact ⟨⟨_, rfl⟩, q1⟩
    refine am_go [129, 136] 3 ?_
    simp only [am_wp, am_stp, am_en, am_as, am_pad, am_nth, am_set, am_st1, am_st2, am_kl, am_kill, am_mem, am_fv, am_tk, am_wt, am_bk, Option.toList, List.cons_append, List.nil_append, Nat.reduceAdd, Nat.reduceEqDiff, Nat.reduceLeDiff, reduceIte, Nat.reduceLT, or_self, true_or, or_true, if_true, if_false, and_self, and_true, true_and, not_false_eq_true, not_true_eq_false, fd_Mo_told_124, fd_Mo_told_125, fd_Mo_told_126, S1.all]
    refine wif ?_ ?_
    rotate_left
    rotate_left
    · refine am_go [] 4 ?_
      simp only [am_wp, am_stp, am_en, am_as, am_pad, am_nth, am_set, am_st1, am_st2, am_kl, am_kill, am_mem, am_fv, am_tk, am_wt, am_bk, Option.toList, List.cons_append, List.nil_append, Nat.reduceAdd, Nat.reduceEqDiff, Nat.reduceLeDiff, reduceIte, Nat.reduceLT, or_self, true_or, or_true, if_true, if_false, and_self, and_true, true_and, not_false_eq_true, not_true_eq_false, fd_Mo_told_129, fd_Mo_told_130, fd_Mo_told_133, fd_Mo_told_161, S1.all]
      exact ⟨⟨_, rfl⟩, q1⟩
    refine am_go [142, 149] 3 ?_
    simp only [am_wp, am_stp, am_en, am_as, am_pad, am_nth, am_set, am_st1, am_st2, am_kl, am_kill, am_mem, am_fv, am_tk, am_wt, am_bk, Option.toList, List.cons_append, List.nil_append, Nat.reduceAdd, Nat.reduceEqDiff, Nat.reduceLeDiff, reduceIte, Nat.reduceLT, or_self, true_or, or_true, if_true, if_false, and_self, and_true, true_and, not_false_eq_true, not_true_eq_false, fd_Mo_told_136, fd_Mo_told_137, fd_Mo_told_139, S1.all]
    refine wif ?_ ?_
    rotate_left
    rotate_left
    · refine am_go [] 4 ?_
      simp only [am_wp, am_stp, am_en, am_as, am_pad, am_nth, am_set, am_st1, am_st2, am_kl, am_kill, am_mem, am_fv, am_tk, am_wt, am_bk, Option.toList, List.cons_append, List.nil_append, Nat.reduceAdd, Nat.reduceEqDiff, Nat.reduceLeDiff, reduceIte, Nat.reduceLT, or_self, true_or, or_true, if_true, if_false, and_self, and_true, true_and, not_false_eq_true, not_true_eq_false, fd_Mo_told_142, fd_Mo_told_143, fd_Mo_told_146, fd_Mo_told_161, S1.all]
      exact ⟨⟨_, rfl⟩, q1⟩
    refine am_go [156, 160] 3 ?_
    simp only [am_wp, am_stp, am_en, am_as, am_pad, am_nth, am_set, am_st1, am_st2, am_kl, am_kill, am_mem, am_fv, am_tk, am_wt, am_bk, Option.toList, List.cons_append, List.nil_append, Nat.reduceAdd, Nat.reduceEqDiff, Nat.reduceLeDiff, reduceIte, Nat.reduceLT, or_self, true_or, or_true, if_true, if_false, and_self, and_true, true_and, not_false_eq_true, not_true_eq_false, fd_Mo_told_149, fd_Mo_told_150, fd_Mo_told_153, S1.all]
    refine wif ?_ ?_
    · refine am_go [] 2 ?_
      simp only [am_wp, am_stp, am_en, am_as, am_pad, am_nth, am_set, am_st1, am_st2, am_kl, am_kill, am_mem, am_fv, am_tk, am_wt, am_bk, Option.toList, List.cons_append, List.nil_append, Nat.reduceAdd, Nat.reduceEqDiff, Nat.reduceLeDiff, reduceIte, Nat.reduceLT, or_self, true_or, or_true, if_true, if_false, and_self, and_true, true_and, not_false_eq_true, not_true_eq_false, fd_Mo_told_160, fd_Mo_told_161, S1.all]
      exact ⟨⟨_, rfl⟩, q1⟩
    · refine am_go [] 3 ?_
      simp only [am_wp, am_stp, am_en, am_as, am_pad, am_nth, am_set, am_st1, am_st2, am_kl, am_kill, am_mem, am_fv, am_tk, am_wt, am_bk, Option.toList, List.cons_append, List.nil_append, Nat.reduceAdd, Nat.reduceEqDiff, Nat.reduceLeDiff, reduceIte, Nat.reduceLT, or_self, true_or, or_true, if_true, if_false, and_self, and_true, true_and, not_false_eq_true, not_true_eq_false, fd_Mo_told_156, fd_Mo_told_157, fd_Mo_told_161, S1.all]
      exact ⟨⟨_, rfl⟩, q1⟩
  have bad : am_Ex nm_pr (d + 2) mt_Mo_told (11, [.ref 72, .int v, .retAddr 0, .retAddr 0], [.ref 72], h) (fun o h' => iany o ∧ rq P h h') := by
    refine am_go [16] 2 ?_
    simp only [am_wp, am_stp, am_en, am_as, am_pad, am_nth, am_set, am_st1, am_st2, am_kl, am_kill, am_mem, am_fv, am_tk, am_wt, am_bk, Option.toList, List.cons_append, List.nil_append, Nat.reduceAdd, Nat.reduceEqDiff, Nat.reduceLeDiff, reduceIte, Nat.reduceLT, or_self, true_or, or_true, if_true, if_false, and_self, and_true, true_and, not_false_eq_true, not_true_eq_false, fd_Mo_told_11, fd_Mo_told_12, hS.all]
    exact go 1
  refine am_go [5, 11] 3 ?_
  simp only [am_wp, am_stp, am_en, am_as, am_pad, am_nth, am_set, am_st1, am_st2, am_kl, am_kill, am_mem, am_fv, am_tk, am_wt, am_bk, Option.toList, List.cons_append, List.nil_append, Nat.reduceAdd, Nat.reduceEqDiff, Nat.reduceLeDiff, reduceIte, Nat.reduceLT, or_self, true_or, or_true, if_true, if_false, and_self, and_true, true_and, not_false_eq_true, not_true_eq_false, fd_Mo_told_0, fd_Mo_told_1, fd_Mo_told_2, hS.all]
  refine wif bad ?_
  refine am_go [11, 15] 3 ?_
  simp only [am_wp, am_stp, am_en, am_as, am_pad, am_nth, am_set, am_st1, am_st2, am_kl, am_kill, am_mem, am_fv, am_tk, am_wt, am_bk, Option.toList, List.cons_append, List.nil_append, Nat.reduceAdd, Nat.reduceEqDiff, Nat.reduceLeDiff, reduceIte, Nat.reduceLT, or_self, true_or, or_true, if_true, if_false, and_self, and_true, true_and, not_false_eq_true, not_true_eq_false, fd_Mo_told_5, fd_Mo_told_6, fd_Mo_told_8, hS.all]
  refine wif bad ?_
  refine am_go [16] 1 ?_
  simp only [am_wp, am_stp, am_en, am_as, am_pad, am_nth, am_set, am_st1, am_st2, am_kl, am_kill, am_mem, am_fv, am_tk, am_wt, am_bk, Option.toList, List.cons_append, List.nil_append, Nat.reduceAdd, Nat.reduceEqDiff, Nat.reduceLeDiff, reduceIte, Nat.reduceLT, or_self, true_or, or_true, if_true, if_false, and_self, and_true, true_and, not_false_eq_true, not_true_eq_false, fd_Mo_told_15, hS.all]
  exact go 0
theorem rx_bars_loop {d s : Nat} {z v : Int64} {h : am_H} (hS : mo_Sk h) (hs : s < 100) : ∀ (m w : Nat) (w7 : Value), m + w = 3 →
    am_Ex nm_pr (d + 1) mt_Mo_bars (15, [.ref 72, .int (nI s), .long z, .retAddr 0, .long v, .retAddr 0, .int (nI w), w7], [], h) (fun o h' => b01 o ∧ h' = h)
  | 0, w, w7, hm => by
    have e : w = 3 := by omega
    subst e
    have l1 : ¬ (nI 3 < 3) := by decide
    refine am_go [21, 66] 3 ?_
    simp only [am_wp, am_stp, am_en, am_as, am_pad, am_nth, am_set, am_st1, am_st2, am_kl, am_kill, am_mem, am_fv, am_tk, am_wt, am_bk, Option.toList, List.cons_append, List.nil_append, Nat.reduceAdd, Nat.reduceEqDiff, Nat.reduceLeDiff, reduceIte, Nat.reduceLT, or_self, true_or, or_true, if_true, if_false, and_self, and_true, true_and, not_false_eq_true, not_true_eq_false, fd_Mo_bars_15, fd_Mo_bars_17, fd_Mo_bars_18, hS.all, l1]
    refine am_go [] 2 ?_
    simp only [am_wp, am_stp, am_en, am_as, am_pad, am_nth, am_set, am_st1, am_st2, am_kl, am_kill, am_mem, am_fv, am_tk, am_wt, am_bk, Option.toList, List.cons_append, List.nil_append, Nat.reduceAdd, Nat.reduceEqDiff, Nat.reduceLeDiff, reduceIte, Nat.reduceLT, or_self, true_or, or_true, if_true, if_false, and_self, and_true, true_and, not_false_eq_true, not_true_eq_false, fd_Mo_bars_66, fd_Mo_bars_67, hS.all]
    exact Or.inl rfl
  | m + 1, w, w7, hm => by
    have l1 : nI w < 3 := nI_lt (b := 3) (by omega) (by decide)
    refine am_go [21, 66] 3 ?_
    simp only [am_wp, am_stp, am_en, am_as, am_pad, am_nth, am_set, am_st1, am_st2, am_kl, am_kill, am_mem, am_fv, am_tk, am_wt, am_bk, Option.toList, List.cons_append, List.nil_append, Nat.reduceAdd, Nat.reduceEqDiff, Nat.reduceLeDiff, reduceIte, Nat.reduceLT, or_self, true_or, or_true, if_true, if_false, and_self, and_true, true_and, not_false_eq_true, not_true_eq_false, fd_Mo_bars_15, fd_Mo_bars_17, fd_Mo_bars_18, hS.all, l1]
    refine am_go [] 3 ?_
    simp only [am_wp, am_stp, am_en, am_as, am_pad, am_nth, am_set, am_st1, am_st2, am_kl, am_kill, am_mem, am_fv, am_tk, am_wt, am_bk, Option.toList, List.cons_append, List.nil_append, Nat.reduceAdd, Nat.reduceEqDiff, Nat.reduceLeDiff, reduceIte, Nat.reduceLT, or_self, true_or, or_true, if_true, if_false, and_self, and_true, true_and, not_false_eq_true, not_true_eq_false, fd_Mo_bars_21, fd_Mo_bars_23, fd_Mo_bars_25, hS.all]
    refine am_call (l2_bit (d := d) (show w < 3 by omega)) (fun o g1 q => ?_)
    obtain ⟨⟨x, hx, rfl⟩, rfl⟩ := q
    have e8 : 8 * nI s = nI (8 * s) := (Int32.ofNat_mul 8 s).symm
    have n64 : ¬ (64 : Int32) = 0 := by decide
    have i2 := am_inb (c := 8 * s + x / 64) (N := 800) (by omega) (by omega)
    have q2 : (nI (8 * s + x / 64)).toNatClampNeg = 8 * s + x / 64 := nI_clamp (by omega)
    simp only [am_wp, am_stp, am_en, am_as, am_pad, am_nth, am_set, am_st1, am_st2, am_kl, am_kill, am_mem, am_fv, am_tk, am_wt, am_bk, Option.toList, List.cons_append, List.nil_append, Nat.reduceAdd, Nat.reduceEqDiff, Nat.reduceLeDiff, reduceIte, Nat.reduceLT, or_self, true_or, or_true, if_true, if_false, and_self, and_true, true_and, not_false_eq_true, not_true_eq_false]
    refine am_go [44] 10 ?_
    simp only [am_wp, am_stp, am_en, am_as, am_pad, am_nth, am_set, am_st1, am_st2, am_kl, am_kill, am_mem, am_fv, am_tk, am_wt, am_bk, Option.toList, List.cons_append, List.nil_append, Nat.reduceAdd, Nat.reduceEqDiff, Nat.reduceLeDiff, reduceIte, Nat.reduceLT, or_self, true_or, or_true, if_true, if_false, and_self, and_true, true_and, not_false_eq_true, not_true_eq_false, fd_Mo_bars_28, fd_Mo_bars_30, fd_Mo_bars_31, fd_Mo_bars_34, fd_Mo_bars_36, fd_Mo_bars_37, fd_Mo_bars_38, fd_Mo_bars_40, fd_Mo_bars_42, fd_Mo_bars_43, hS.all, e8, n64, div64 hx, nI_add]
    refine am_go [58, 60] 10 ?_
    simp only [am_wp, am_stp, am_en, am_as, am_pad, am_nth, am_set, am_st1, am_st2, am_kl, am_kill, am_mem, am_fv, am_tk, am_wt, am_bk, Option.toList, List.cons_append, List.nil_append, Nat.reduceAdd, Nat.reduceEqDiff, Nat.reduceLeDiff, reduceIte, Nat.reduceLT, or_self, true_or, or_true, if_true, if_false, and_self, and_true, true_and, not_false_eq_true, not_true_eq_false, fd_Mo_bars_44, fd_Mo_bars_45, fd_Mo_bars_47, fd_Mo_bars_49, fd_Mo_bars_50, fd_Mo_bars_51, fd_Mo_bars_52, fd_Mo_bars_53, fd_Mo_bars_54, fd_Mo_bars_55, hS.all, i2, q2, n64]
    refine wif ?_ ?_
    rotate_left
    · refine am_go [15] 2 ?_
      simp only [am_wp, am_stp, am_en, am_as, am_pad, am_nth, am_set, am_st1, am_st2, am_kl, am_kill, am_mem, am_fv, am_tk, am_wt, am_bk, Option.toList, List.cons_append, List.nil_append, Nat.reduceAdd, Nat.reduceEqDiff, Nat.reduceLeDiff, reduceIte, Nat.reduceLT, or_self, true_or, or_true, if_true, if_false, and_self, and_true, true_and, not_false_eq_true, not_true_eq_false, fd_Mo_bars_60, fd_Mo_bars_63, hS.all, nI_1]
      exact rx_bars_loop hS hs m (w + 1) _ (by omega)
    · refine am_go [] 2 ?_
      simp only [am_wp, am_stp, am_en, am_as, am_pad, am_nth, am_set, am_st1, am_st2, am_kl, am_kill, am_mem, am_fv, am_tk, am_wt, am_bk, Option.toList, List.cons_append, List.nil_append, Nat.reduceAdd, Nat.reduceEqDiff, Nat.reduceLeDiff, reduceIte, Nat.reduceLT, or_self, true_or, or_true, if_true, if_false, and_self, and_true, true_and, not_false_eq_true, not_true_eq_false, fd_Mo_bars_58, fd_Mo_bars_59, hS.all]
      exact Or.inr rfl
theorem rx_bars {d s : Nat} {z : Int64} {h : am_H} (hS : mo_Sk h) (hs : s < 100) : am_Rt nm_pr (d + 2) mi_Mo_bars [.ref 72, .int (nI s), .long z] h (fun o h' => b01 o ∧ h' = h) := by
  have i1 := am_inb (c := s) (N := 100) (by omega) (by omega)
  have q1 : (nI s).toNatClampNeg = s := nI_clamp (by omega)
  refine am_in' (d := d + 1) mt_Mo_bars 8 rfl rfl rfl ?_
  refine am_go [] 6 ?_
  simp only [am_wp, am_stp, am_en, am_as, am_pad, am_nth, am_set, am_st1, am_st2, am_kl, am_kill, am_mem, am_fv, am_tk, am_wt, am_bk, Option.toList, List.cons_append, List.nil_append, Nat.reduceAdd, Nat.reduceEqDiff, Nat.reduceLeDiff, reduceIte, Nat.reduceLT, or_self, true_or, or_true, if_true, if_false, and_self, and_true, true_and, not_false_eq_true, not_true_eq_false, fd_Mo_bars_0, fd_Mo_bars_1, fd_Mo_bars_2, fd_Mo_bars_5, fd_Mo_bars_6, fd_Mo_bars_7, hS.all, i1, q1]
  refine am_call (l2_Mo_hash (d := d)) (fun o g q => ?_)
  obtain ⟨⟨v, rfl⟩, rfl⟩ := q
  simp only [am_wp, am_stp, am_en, am_as, am_pad, am_nth, am_set, am_st1, am_st2, am_kl, am_kill, am_mem, am_fv, am_tk, am_wt, am_bk, Option.toList, List.cons_append, List.nil_append, Nat.reduceAdd, Nat.reduceEqDiff, Nat.reduceLeDiff, reduceIte, Nat.reduceLT, or_self, true_or, or_true, if_true, if_false, and_self, and_true, true_and, not_false_eq_true, not_true_eq_false]
  refine am_go [15] 3 ?_
  simp only [am_wp, am_stp, am_en, am_as, am_pad, am_nth, am_set, am_st1, am_st2, am_kl, am_kill, am_mem, am_fv, am_tk, am_wt, am_bk, Option.toList, List.cons_append, List.nil_append, Nat.reduceAdd, Nat.reduceEqDiff, Nat.reduceLeDiff, reduceIte, Nat.reduceLT, or_self, true_or, or_true, if_true, if_false, and_self, and_true, true_and, not_false_eq_true, not_true_eq_false, fd_Mo_bars_10, fd_Mo_bars_12, fd_Mo_bars_13]
  exact rx_bars_loop hS hs 3 0 _ rfl
theorem rx_hid_loop {d P : Nat} {z : Int64} {E : Nat → List ent} {now : List Nat} {mk : Nat → List Nat} {h g : am_H} (q : rq P h g) (RR : rR P g E now mk) : ∀ (m i : Nat) (w4 : Value), m + i = now.length →
    am_Ex nm_pr (d + 2) mt_Mo_hidden (18, [.ref 72, .long z, .retAddr 0, .int (nI i), w4], [], g) (fun o h' => b01 o ∧ rq P h h')
  | 0, i, w4, hm => by
    have S := q.1.1.1
    have n9 := RR.n9
    have e : i = now.length := by omega
    subst e
    have l1 : ¬ nI now.length < nI now.length := nI_nlt (Nat.le_refl _) (by omega)
    refine am_go [26, 80] 4 ?_
    simp only [am_wp, am_stp, am_en, am_as, am_pad, am_nth, am_set, am_st1, am_st2, am_kl, am_kill, am_mem, am_fv, am_tk, am_wt, am_bk, Option.toList, List.cons_append, List.nil_append, Nat.reduceAdd, Nat.reduceEqDiff, Nat.reduceLeDiff, reduceIte, Nat.reduceLT, or_self, true_or, or_true, if_true, if_false, and_self, and_true, true_and, not_false_eq_true, not_true_eq_false, fd_Mo_hidden_18, fd_Mo_hidden_19, fd_Mo_hidden_20, fd_Mo_hidden_23, S.all, RR.1.1, l1]
    refine am_go [] 2 ?_
    simp only [am_wp, am_stp, am_en, am_as, am_pad, am_nth, am_set, am_st1, am_st2, am_kl, am_kill, am_mem, am_fv, am_tk, am_wt, am_bk, Option.toList, List.cons_append, List.nil_append, Nat.reduceAdd, Nat.reduceEqDiff, Nat.reduceLeDiff, reduceIte, Nat.reduceLT, or_self, true_or, or_true, if_true, if_false, and_self, and_true, true_and, not_false_eq_true, not_true_eq_false, fd_Mo_hidden_80, fd_Mo_hidden_81, S.all]
    exact ⟨Or.inl rfl, q⟩
  | m + 1, i, w4, hm => by
    have S := q.1.1.1
    have n9 := RR.n9
    have l1 : nI i < nI now.length := nI_lt (by omega) (by omega)
    obtain ⟨s, hs⟩ : ∃ s, now[i]? = some s := ⟨now[i]'(by omega), List.getElem?_eq_getElem (by omega)⟩
    obtain ⟨x1, x2⟩ := RR.ns.2.2 i s hs
    have i1 := am_inb (c := i) (N := 9) (by omega) (by omega)
    have q1 : (nI i).toNatClampNeg = i := nI_clamp (by omega)
    have i2 := am_inb (c := s) (N := 100) (by omega) (by omega)
    have q2 : (nI s).toNatClampNeg = s := nI_clamp (by omega)
    have e4 : 1024 * nI s = nI (1024 * s) := (Int32.ofNat_mul 1024 s).symm
    have i3 := am_inb (c := 1024 * s) (N := 102400) (by omega) (by omega)
    have q3 : (nI (1024 * s)).toNatClampNeg = 1024 * s := nI_clamp (by omega)
    have next : am_Ex nm_pr (d + 2) mt_Mo_hidden (74, [.ref 72, .long z, .retAddr 0, .int (nI i), .int (nI s)], [], g) (fun o h' => b01 o ∧ rq P h h') := by
      refine am_go [18] 2 ?_
      simp only [am_wp, am_stp, am_en, am_as, am_pad, am_nth, am_set, am_st1, am_st2, am_kl, am_kill, am_mem, am_fv, am_tk, am_wt, am_bk, Option.toList, List.cons_append, List.nil_append, Nat.reduceAdd, Nat.reduceEqDiff, Nat.reduceLeDiff, reduceIte, Nat.reduceLT, or_self, true_or, or_true, if_true, if_false, and_self, and_true, true_and, not_false_eq_true, not_true_eq_false, fd_Mo_hidden_74, fd_Mo_hidden_77, S.all, nI_1]
      exact rx_hid_loop q RR m (i + 1) _ (by omega)
    refine am_go [26, 80] 4 ?_
    simp only [am_wp, am_stp, am_en, am_as, am_pad, am_nth, am_set, am_st1, am_st2, am_kl, am_kill, am_mem, am_fv, am_tk, am_wt, am_bk, Option.toList, List.cons_append, List.nil_append, Nat.reduceAdd, Nat.reduceEqDiff, Nat.reduceLeDiff, reduceIte, Nat.reduceLT, or_self, true_or, or_true, if_true, if_false, and_self, and_true, true_and, not_false_eq_true, not_true_eq_false, fd_Mo_hidden_18, fd_Mo_hidden_19, fd_Mo_hidden_20, fd_Mo_hidden_23, S.all, RR.1.1, l1]
    refine am_go [34] 5 ?_
    simp only [am_wp, am_stp, am_en, am_as, am_pad, am_nth, am_set, am_st1, am_st2, am_kl, am_kill, am_mem, am_fv, am_tk, am_wt, am_bk, Option.toList, List.cons_append, List.nil_append, Nat.reduceAdd, Nat.reduceEqDiff, Nat.reduceLeDiff, reduceIte, Nat.reduceLT, or_self, true_or, or_true, if_true, if_false, and_self, and_true, true_and, not_false_eq_true, not_true_eq_false, fd_Mo_hidden_26, fd_Mo_hidden_27, fd_Mo_hidden_30, fd_Mo_hidden_31, fd_Mo_hidden_32, S.all, i1, q1, x1]
    refine am_go [50, 74] 9 ?_
    simp only [am_wp, am_stp, am_en, am_as, am_pad, am_nth, am_set, am_st1, am_st2, am_kl, am_kill, am_mem, am_fv, am_tk, am_wt, am_bk, Option.toList, List.cons_append, List.nil_append, Nat.reduceAdd, Nat.reduceEqDiff, Nat.reduceLeDiff, reduceIte, Nat.reduceLT, or_self, true_or, or_true, if_true, if_false, and_self, and_true, true_and, not_false_eq_true, not_true_eq_false, fd_Mo_hidden_34, fd_Mo_hidden_35, fd_Mo_hidden_38, fd_Mo_hidden_41, fd_Mo_hidden_43, fd_Mo_hidden_44, fd_Mo_hidden_45, fd_Mo_hidden_46, fd_Mo_hidden_47, S.all, e4, i3, q3]
    refine wif next ?_
    refine am_go [62, 74] 7 ?_
    simp only [am_wp, am_stp, am_en, am_as, am_pad, am_nth, am_set, am_st1, am_st2, am_kl, am_kill, am_mem, am_fv, am_tk, am_wt, am_bk, Option.toList, List.cons_append, List.nil_append, Nat.reduceAdd, Nat.reduceEqDiff, Nat.reduceLeDiff, reduceIte, Nat.reduceLT, or_self, true_or, or_true, if_true, if_false, and_self, and_true, true_and, not_false_eq_true, not_true_eq_false, fd_Mo_hidden_50, fd_Mo_hidden_51, fd_Mo_hidden_54, fd_Mo_hidden_56, fd_Mo_hidden_57, fd_Mo_hidden_58, fd_Mo_hidden_59, S.all, i2, q2]
    refine wif next ?_
    refine am_go [] 4 ?_
    simp only [am_wp, am_stp, am_en, am_as, am_pad, am_nth, am_set, am_st1, am_st2, am_kl, am_kill, am_mem, am_fv, am_tk, am_wt, am_bk, Option.toList, List.cons_append, List.nil_append, Nat.reduceAdd, Nat.reduceEqDiff, Nat.reduceLeDiff, reduceIte, Nat.reduceLT, or_self, true_or, or_true, if_true, if_false, and_self, and_true, true_and, not_false_eq_true, not_true_eq_false, fd_Mo_hidden_62, fd_Mo_hidden_63, fd_Mo_hidden_65, fd_Mo_hidden_66, S.all]
    refine am_call (rx_bars (d := d) S x2) (fun o g1 w => ?_)
    obtain ⟨b, rfl⟩ := w
    obtain ⟨x, rfl, -⟩ := b01_cases b
    simp only [am_wp, am_stp, am_en, am_as, am_pad, am_nth, am_set, am_st1, am_st2, am_kl, am_kill, am_mem, am_fv, am_tk, am_wt, am_bk, Option.toList, List.cons_append, List.nil_append, Nat.reduceAdd, Nat.reduceEqDiff, Nat.reduceLeDiff, reduceIte, Nat.reduceLT, or_self, true_or, or_true, if_true, if_false, and_self, and_true, true_and, not_false_eq_true, not_true_eq_false]
    refine am_go [72, 74] 1 ?_
    simp only [am_wp, am_stp, am_en, am_as, am_pad, am_nth, am_set, am_st1, am_st2, am_kl, am_kill, am_mem, am_fv, am_tk, am_wt, am_bk, Option.toList, List.cons_append, List.nil_append, Nat.reduceAdd, Nat.reduceEqDiff, Nat.reduceLeDiff, reduceIte, Nat.reduceLT, or_self, true_or, or_true, if_true, if_false, and_self, and_true, true_and, not_false_eq_true, not_true_eq_false, fd_Mo_hidden_69, S.all]
    refine wif next ?_
    refine am_go [] 2 ?_
    simp only [am_wp, am_stp, am_en, am_as, am_pad, am_nth, am_set, am_st1, am_st2, am_kl, am_kill, am_mem, am_fv, am_tk, am_wt, am_bk, Option.toList, List.cons_append, List.nil_append, Nat.reduceAdd, Nat.reduceEqDiff, Nat.reduceLeDiff, reduceIte, Nat.reduceLT, or_self, true_or, or_true, if_true, if_false, and_self, and_true, true_and, not_false_eq_true, not_true_eq_false, fd_Mo_hidden_72, fd_Mo_hidden_73, S.all]
    exact ⟨Or.inr rfl, q⟩
theorem rx_hidden {d P : Nat} {z : Int64} {h : am_H} (R : rI P h) : am_Rt nm_pr (d + 3) mi_Mo_hidden [.ref 72, .long z] h (fun o h' => b01 o ∧ rq P h h') := by
  have hS := R.1.1
  have q0 := rq.refl R
  refine am_in' (d := d + 2) mt_Mo_hidden 5 rfl rfl rfl ?_
  have go : ∀ v : Int32, am_Ex nm_pr (d + 2) mt_Mo_hidden (13, [.ref 72, .long z, .retAddr 0, .retAddr 0, .retAddr 0], [.int v, .ref 72], h) (fun o h' => b01 o ∧ rq P h h') := fun v => by
    refine am_go [16] 1 ?_
    simp only [am_wp, am_stp, am_en, am_as, am_pad, am_nth, am_set, am_st1, am_st2, am_kl, am_kill, am_mem, am_fv, am_tk, am_wt, am_bk, Option.toList, List.cons_append, List.nil_append, Nat.reduceAdd, Nat.reduceEqDiff, Nat.reduceLeDiff, reduceIte, Nat.reduceLT, or_self, true_or, or_true, if_true, if_false, and_self, and_true, true_and, not_false_eq_true, not_true_eq_false, fd_Mo_hidden_13, hS.all]
    have q1 := q0.s (j := 0) (v := v) (by unfold rJ; omega)
    generalize am_sI h 72 0 v = g at *
    obtain ⟨C, E, now, mk, RR⟩ := id q1.1
    refine am_go [18] 2 ?_
    simp only [am_wp, am_stp, am_en, am_as, am_pad, am_nth, am_set, am_st1, am_st2, am_kl, am_kill, am_mem, am_fv, am_tk, am_wt, am_bk, Option.toList, List.cons_append, List.nil_append, Nat.reduceAdd, Nat.reduceEqDiff, Nat.reduceLeDiff, reduceIte, Nat.reduceLT, or_self, true_or, or_true, if_true, if_false, and_self, and_true, true_and, not_false_eq_true, not_true_eq_false, fd_Mo_hidden_16, fd_Mo_hidden_17]
    exact rx_hid_loop q1 RR now.length 0 _ (by omega)
  refine am_go [8, 12] 4 ?_
  simp only [am_wp, am_stp, am_en, am_as, am_pad, am_nth, am_set, am_st1, am_st2, am_kl, am_kill, am_mem, am_fv, am_tk, am_wt, am_bk, Option.toList, List.cons_append, List.nil_append, Nat.reduceAdd, Nat.reduceEqDiff, Nat.reduceLeDiff, reduceIte, Nat.reduceLT, or_self, true_or, or_true, if_true, if_false, and_self, and_true, true_and, not_false_eq_true, not_true_eq_false, fd_Mo_hidden_0, fd_Mo_hidden_1, fd_Mo_hidden_2, fd_Mo_hidden_5, hS.all]
  refine wif ?_ ?_
  · refine am_go [13] 1 ?_
    simp only [am_wp, am_stp, am_en, am_as, am_pad, am_nth, am_set, am_st1, am_st2, am_kl, am_kill, am_mem, am_fv, am_tk, am_wt, am_bk, Option.toList, List.cons_append, List.nil_append, Nat.reduceAdd, Nat.reduceEqDiff, Nat.reduceLeDiff, reduceIte, Nat.reduceLT, or_self, true_or, or_true, if_true, if_false, and_self, and_true, true_and, not_false_eq_true, not_true_eq_false, fd_Mo_hidden_12, hS.all]
    exact go _
  · refine am_go [13] 2 ?_
    simp only [am_wp, am_stp, am_en, am_as, am_pad, am_nth, am_set, am_st1, am_st2, am_kl, am_kill, am_mem, am_fv, am_tk, am_wt, am_bk, Option.toList, List.cons_append, List.nil_append, Nat.reduceAdd, Nat.reduceEqDiff, Nat.reduceLeDiff, reduceIte, Nat.reduceLT, or_self, true_or, or_true, if_true, if_false, and_self, and_true, true_and, not_false_eq_true, not_true_eq_false, fd_Mo_hidden_8, fd_Mo_hidden_9, hS.all]
    exact go _
/-- the runs of a view -/
def vv (h : am_H) (m : Int32) (l : List Nat) : Prop := l.length ≤ 9 ∧ (∀ s ∈ l, s < 100) ∧ ((m = -1 ∧ am_I h 72 24 = nI l.length ∧ ∀ k s, l[k]? = some s → am_I h 86 k = nI s) ∨ ∃ j, j < 8 ∧ m = nI j ∧ am_I h 88 j = nI l.length ∧ ∀ k s, l[k]? = some s → am_I h 89 (9 * j + k) = nI s)
theorem vv.fr {S : List Nat} {h h' : am_H} {m : Int32} {l : List Nat} (c : vv h m l) (f : am_fi S h h') (hS : ∀ q ∈ S, q = 72 ∨ q ∈ rB) (h72 : ∀ j, rJ j → am_I h' 72 j = am_I h 72 j) : vv h' m l := by
  have w := rfr f hS
  unfold vv
  rw [h72 24 (by simp [rJ]), (w 86 (by decide) (by decide)).1, (w 88 (by decide) (by decide)).1, (w 89 (by decide) (by decide)).1]
  exact c
theorem rx_isView {d P : Nat} {v : Int32} {E : Nat → List ent} {now : List Nat} {mk : Nat → List Nat} {h : am_H} (hS : mo_Sk h) (RR : rR P h E now mk) : am_Rt nm_pr (d + 1) mi_Mo_isView [.ref 72, .int v] h (fun o h' => ∃ c : Int32, h' = am_sI h 72 0 c ∧ (o = .inl (some (.int 0)) ∨ (o = .inl (some (.int 1)) ∧ ∃ l, vv h v l ∧ ∀ s ∈ l, s ∈ al now mk))) := by
  have one0 : ¬ (1 : Int32) = 0 := by decide
  have two0 : ¬ (2 : Int32) = 0 := by decide
  refine am_in' (d := d) mt_Mo_isView 2 rfl rfl rfl ?_
  have no : ∀ c : Int32, c ≠ 0 → am_Ex nm_pr d mt_Mo_isView (41, [.ref 72, .int v], [.int c, .ref 72], h) (fun o h' => ∃ c : Int32, h' = am_sI h 72 0 c ∧ (o = .inl (some (.int 0)) ∨ (o = .inl (some (.int 1)) ∧ ∃ l, vv h v l ∧ ∀ s ∈ l, s ∈ al now mk))) := fun c hc => by
    refine am_go [44] 1 ?_
    simp only [am_wp, am_stp, am_en, am_as, am_pad, am_nth, am_set, am_st1, am_st2, am_kl, am_kill, am_mem, am_fv, am_tk, am_wt, am_bk, Option.toList, List.cons_append, List.nil_append, Nat.reduceAdd, Nat.reduceEqDiff, Nat.reduceLeDiff, reduceIte, Nat.reduceLT, or_self, true_or, or_true, if_true, if_false, and_self, and_true, true_and, not_false_eq_true, not_true_eq_false, fd_Mo_isView_41, hS.all]
    have e0 : am_I (am_sI h 72 0 c) 72 0 = c := by rw [hx_I_sI, if_pos rfl, if_pos rfl]
    have S1 : mo_Sk (am_sI h 72 0 c) := hS.sI
    refine am_go [51, 55] 3 ?_
    simp only [am_wp, am_stp, am_en, am_as, am_pad, am_nth, am_set, am_st1, am_st2, am_kl, am_kill, am_mem, am_fv, am_tk, am_wt, am_bk, Option.toList, List.cons_append, List.nil_append, Nat.reduceAdd, Nat.reduceEqDiff, Nat.reduceLeDiff, reduceIte, Nat.reduceLT, or_self, true_or, or_true, if_true, if_false, and_self, and_true, true_and, not_false_eq_true, not_true_eq_false, fd_Mo_isView_44, fd_Mo_isView_45, fd_Mo_isView_48, S1.all, e0, hc]
    refine am_go [] 2 ?_
    simp only [am_wp, am_stp, am_en, am_as, am_pad, am_nth, am_set, am_st1, am_st2, am_kl, am_kill, am_mem, am_fv, am_tk, am_wt, am_bk, Option.toList, List.cons_append, List.nil_append, Nat.reduceAdd, Nat.reduceEqDiff, Nat.reduceLeDiff, reduceIte, Nat.reduceLT, or_self, true_or, or_true, if_true, if_false, and_self, and_true, true_and, not_false_eq_true, not_true_eq_false, fd_Mo_isView_55, fd_Mo_isView_56, S1.all]
    exact ⟨c, rfl⟩
  have yes : (∃ l, vv h v l ∧ ∀ s ∈ l, s ∈ al now mk) → am_Ex nm_pr d mt_Mo_isView (40, [.ref 72, .int v], [.ref 72], h) (fun o h' => ∃ c : Int32, h' = am_sI h 72 0 c ∧ (o = .inl (some (.int 0)) ∨ (o = .inl (some (.int 1)) ∧ ∃ l, vv h v l ∧ ∀ s ∈ l, s ∈ al now mk))) := fun hl => by
    refine am_go [44] 2 ?_
    simp only [am_wp, am_stp, am_en, am_as, am_pad, am_nth, am_set, am_st1, am_st2, am_kl, am_kill, am_mem, am_fv, am_tk, am_wt, am_bk, Option.toList, List.cons_append, List.nil_append, Nat.reduceAdd, Nat.reduceEqDiff, Nat.reduceLeDiff, reduceIte, Nat.reduceLT, or_self, true_or, or_true, if_true, if_false, and_self, and_true, true_and, not_false_eq_true, not_true_eq_false, fd_Mo_isView_40, fd_Mo_isView_41, hS.all]
    have e0 : am_I (am_sI h 72 0 0) 72 0 = 0 := by rw [hx_I_sI, if_pos rfl, if_pos rfl]
    have S1 : mo_Sk (am_sI h 72 0 0) := hS.sI
    refine am_go [51, 55] 3 ?_
    simp only [am_wp, am_stp, am_en, am_as, am_pad, am_nth, am_set, am_st1, am_st2, am_kl, am_kill, am_mem, am_fv, am_tk, am_wt, am_bk, Option.toList, List.cons_append, List.nil_append, Nat.reduceAdd, Nat.reduceEqDiff, Nat.reduceLeDiff, reduceIte, Nat.reduceLT, or_self, true_or, or_true, if_true, if_false, and_self, and_true, true_and, not_false_eq_true, not_true_eq_false, fd_Mo_isView_44, fd_Mo_isView_45, fd_Mo_isView_48, S1.all, e0]
    refine am_go [] 3 ?_
    simp only [am_wp, am_stp, am_en, am_as, am_pad, am_nth, am_set, am_st1, am_st2, am_kl, am_kill, am_mem, am_fv, am_tk, am_wt, am_bk, Option.toList, List.cons_append, List.nil_append, Nat.reduceAdd, Nat.reduceEqDiff, Nat.reduceLeDiff, reduceIte, Nat.reduceLT, or_self, true_or, or_true, if_true, if_false, and_self, and_true, true_and, not_false_eq_true, not_true_eq_false, fd_Mo_isView_51, fd_Mo_isView_52, fd_Mo_isView_56, S1.all]
    exact ⟨0, rfl, Or.inr hl⟩
  have bad : am_Ex nm_pr d mt_Mo_isView (36, [.ref 72, .int v], [.ref 72], h) (fun o h' => ∃ c : Int32, h' = am_sI h 72 0 c ∧ (o = .inl (some (.int 0)) ∨ (o = .inl (some (.int 1)) ∧ ∃ l, vv h v l ∧ ∀ s ∈ l, s ∈ al now mk))) := by
    refine am_go [41] 2 ?_
    simp only [am_wp, am_stp, am_en, am_as, am_pad, am_nth, am_set, am_st1, am_st2, am_kl, am_kill, am_mem, am_fv, am_tk, am_wt, am_bk, Option.toList, List.cons_append, List.nil_append, Nat.reduceAdd, Nat.reduceEqDiff, Nat.reduceLeDiff, reduceIte, Nat.reduceLT, or_self, true_or, or_true, if_true, if_false, and_self, and_true, true_and, not_false_eq_true, not_true_eq_false, fd_Mo_isView_36, fd_Mo_isView_37, hS.all]
    exact no 2 two0
  refine am_go [8, 12] 4 ?_
  simp only [am_wp, am_stp, am_en, am_as, am_pad, am_nth, am_set, am_st1, am_st2, am_kl, am_kill, am_mem, am_fv, am_tk, am_wt, am_bk, Option.toList, List.cons_append, List.nil_append, Nat.reduceAdd, Nat.reduceEqDiff, Nat.reduceLeDiff, reduceIte, Nat.reduceLT, or_self, true_or, or_true, if_true, if_false, and_self, and_true, true_and, not_false_eq_true, not_true_eq_false, fd_Mo_isView_0, fd_Mo_isView_1, fd_Mo_isView_2, fd_Mo_isView_5, hS.all]
  refine wif ?_ ?_
  rotate_left
  · refine am_go [41] 2 ?_
    simp only [am_wp, am_stp, am_en, am_as, am_pad, am_nth, am_set, am_st1, am_st2, am_kl, am_kill, am_mem, am_fv, am_tk, am_wt, am_bk, Option.toList, List.cons_append, List.nil_append, Nat.reduceAdd, Nat.reduceEqDiff, Nat.reduceLeDiff, reduceIte, Nat.reduceLT, or_self, true_or, or_true, if_true, if_false, and_self, and_true, true_and, not_false_eq_true, not_true_eq_false, fd_Mo_isView_8, fd_Mo_isView_9, hS.all]
    exact no 1 one0
  by_cases e1 : v < -1
  · refine am_go [17, 36] 3 ?_
    simp only [am_wp, am_stp, am_en, am_as, am_pad, am_nth, am_set, am_st1, am_st2, am_kl, am_kill, am_mem, am_fv, am_tk, am_wt, am_bk, Option.toList, List.cons_append, List.nil_append, Nat.reduceAdd, Nat.reduceEqDiff, Nat.reduceLeDiff, reduceIte, Nat.reduceLT, or_self, true_or, or_true, if_true, if_false, and_self, and_true, true_and, not_false_eq_true, not_true_eq_false, fd_Mo_isView_12, fd_Mo_isView_13, fd_Mo_isView_14, hS.all, e1]
    exact bad
  refine am_go [17, 36] 3 ?_
  simp only [am_wp, am_stp, am_en, am_as, am_pad, am_nth, am_set, am_st1, am_st2, am_kl, am_kill, am_mem, am_fv, am_tk, am_wt, am_bk, Option.toList, List.cons_append, List.nil_append, Nat.reduceAdd, Nat.reduceEqDiff, Nat.reduceLeDiff, reduceIte, Nat.reduceLT, or_self, true_or, or_true, if_true, if_false, and_self, and_true, true_and, not_false_eq_true, not_true_eq_false, fd_Mo_isView_12, fd_Mo_isView_13, fd_Mo_isView_14, hS.all, e1]
  by_cases e2 : 7 < v
  · refine am_go [23, 36] 3 ?_
    simp only [am_wp, am_stp, am_en, am_as, am_pad, am_nth, am_set, am_st1, am_st2, am_kl, am_kill, am_mem, am_fv, am_tk, am_wt, am_bk, Option.toList, List.cons_append, List.nil_append, Nat.reduceAdd, Nat.reduceEqDiff, Nat.reduceLeDiff, reduceIte, Nat.reduceLT, or_self, true_or, or_true, if_true, if_false, and_self, and_true, true_and, not_false_eq_true, not_true_eq_false, fd_Mo_isView_17, fd_Mo_isView_18, fd_Mo_isView_20, hS.all, e2]
    exact bad
  refine am_go [23, 36] 3 ?_
  simp only [am_wp, am_stp, am_en, am_as, am_pad, am_nth, am_set, am_st1, am_st2, am_kl, am_kill, am_mem, am_fv, am_tk, am_wt, am_bk, Option.toList, List.cons_append, List.nil_append, Nat.reduceAdd, Nat.reduceEqDiff, Nat.reduceLeDiff, reduceIte, Nat.reduceLT, or_self, true_or, or_true, if_true, if_false, and_self, and_true, true_and, not_false_eq_true, not_true_eq_false, fd_Mo_isView_17, fd_Mo_isView_18, fd_Mo_isView_20, hS.all, e2]
  by_cases e3 : v < 0
  · refine am_go [27, 40] 2 ?_
    simp only [am_wp, am_stp, am_en, am_as, am_pad, am_nth, am_set, am_st1, am_st2, am_kl, am_kill, am_mem, am_fv, am_tk, am_wt, am_bk, Option.toList, List.cons_append, List.nil_append, Nat.reduceAdd, Nat.reduceEqDiff, Nat.reduceLeDiff, reduceIte, Nat.reduceLT, or_self, true_or, or_true, if_true, if_false, and_self, and_true, true_and, not_false_eq_true, not_true_eq_false, fd_Mo_isView_23, fd_Mo_isView_24, hS.all, e3]
    have em : v = -1 := by
      have a1 : (-1 : Int32).toInt = -1 := by decide
      have a2 : (0 : Int32).toInt = 0 := by decide
      rw [Int32.lt_iff_toInt_lt, a1] at e1
      rw [Int32.lt_iff_toInt_lt, a2] at e3
      rw [← Int32.toInt_inj, a1]
      omega
    exact yes ⟨now, ⟨RR.n9, fun s hs => (RR.2.2.1.2 s (al_now hs)).1, Or.inl ⟨em, RR.1.1, RR.1.2.1⟩⟩, fun s hs => al_now hs⟩
  refine am_go [27, 40] 2 ?_
  simp only [am_wp, am_stp, am_en, am_as, am_pad, am_nth, am_set, am_st1, am_st2, am_kl, am_kill, am_mem, am_fv, am_tk, am_wt, am_bk, Option.toList, List.cons_append, List.nil_append, Nat.reduceAdd, Nat.reduceEqDiff, Nat.reduceLeDiff, reduceIte, Nat.reduceLT, or_self, true_or, or_true, if_true, if_false, and_self, and_true, true_and, not_false_eq_true, not_true_eq_false, fd_Mo_isView_23, fd_Mo_isView_24, hS.all, e3]
  obtain ⟨m, hm', rfl⟩ := nI_of e3
  have hm : m < 8 := by
    rcases Nat.lt_or_ge 7 m with q | q
    · exact absurd ((nI_ltI (a := 7) (by decide) hm').mpr q) e2
    · omega
  have im := am_inb (c := m) (N := 8) (by omega) (by omega)
  have qm : (nI m).toNatClampNeg = m := nI_clamp (by omega)
  by_cases e87 : am_I h 87 m = 0
  · refine am_go [36, 40] 5 ?_
    simp only [am_wp, am_stp, am_en, am_as, am_pad, am_nth, am_set, am_st1, am_st2, am_kl, am_kill, am_mem, am_fv, am_tk, am_wt, am_bk, Option.toList, List.cons_append, List.nil_append, Nat.reduceAdd, Nat.reduceEqDiff, Nat.reduceLeDiff, reduceIte, Nat.reduceLT, or_self, true_or, or_true, if_true, if_false, and_self, and_true, true_and, not_false_eq_true, not_true_eq_false, fd_Mo_isView_27, fd_Mo_isView_28, fd_Mo_isView_31, fd_Mo_isView_32, fd_Mo_isView_33, hS.all, im, qm, e87]
    exact bad
  refine am_go [36, 40] 5 ?_
  simp only [am_wp, am_stp, am_en, am_as, am_pad, am_nth, am_set, am_st1, am_st2, am_kl, am_kill, am_mem, am_fv, am_tk, am_wt, am_bk, Option.toList, List.cons_append, List.nil_append, Nat.reduceAdd, Nat.reduceEqDiff, Nat.reduceLeDiff, reduceIte, Nat.reduceLT, or_self, true_or, or_true, if_true, if_false, and_self, and_true, true_and, not_false_eq_true, not_true_eq_false, fd_Mo_isView_27, fd_Mo_isView_28, fd_Mo_isView_31, fd_Mo_isView_32, fd_Mo_isView_33, hS.all, im, qm, e87]
  obtain ⟨-, m9, c88, c89⟩ : am_I h 87 m = 1 ∧ (mk m).length ≤ 9 ∧ am_I h 88 m = nI (mk m).length ∧ ∀ k s, (mk m)[k]? = some s → am_I h 89 (9 * m + k) = nI s := by
    rcases RR.2.1 m hm with ⟨z, -⟩ | z
    · exact absurd z e87
    · exact z
  have hal : ∀ s ∈ mk m, s ∈ al now mk := fun s hs => by
    have := al_cnt (now := now) (l := []) (mk := mk) hm s
    have h1 := List.count_pos_iff.mpr hs
    simp only [List.count_nil, Nat.add_zero] at this
    exact List.count_pos_iff.mp (by omega)
  exact yes ⟨mk m, ⟨m9, fun s hs => (RR.2.2.1.2 s (hal s hs)).1, Or.inr ⟨m, hm, rfl, c88, c89⟩⟩, hal⟩
theorem rx_runsOf {d : Nat} {v : Int32} {l : List Nat} {h : am_H} (hS : mo_Sk h) (c : vv h v l) : am_Rt nm_pr (d + 1) mi_Mo_runsOf [.ref 72, .int v] h (fun o h' => o = .inl (some (.int (nI l.length))) ∧ h' = h) := by
  refine am_in' (d := d) mt_Mo_runsOf 2 rfl rfl rfl ?_
  obtain ⟨l9, -, ⟨rfl, c2, -⟩ | ⟨j, hj, rfl, c2, -⟩⟩ := c
  · refine am_go [5, 12] 3 ?_
    simp only [am_wp, am_stp, am_en, am_as, am_pad, am_nth, am_set, am_st1, am_st2, am_kl, am_kill, am_mem, am_fv, am_tk, am_wt, am_bk, Option.toList, List.cons_append, List.nil_append, Nat.reduceAdd, Nat.reduceEqDiff, Nat.reduceLeDiff, reduceIte, Nat.reduceLT, or_self, true_or, or_true, if_true, if_false, and_self, and_true, true_and, not_false_eq_true, not_true_eq_false, fd_Mo_runsOf_0, fd_Mo_runsOf_1, fd_Mo_runsOf_2, hS.all]
    refine am_go [] 4 ?_
    simp only [am_wp, am_stp, am_en, am_as, am_pad, am_nth, am_set, am_st1, am_st2, am_kl, am_kill, am_mem, am_fv, am_tk, am_wt, am_bk, Option.toList, List.cons_append, List.nil_append, Nat.reduceAdd, Nat.reduceEqDiff, Nat.reduceLeDiff, reduceIte, Nat.reduceLT, or_self, true_or, or_true, if_true, if_false, and_self, and_true, true_and, not_false_eq_true, not_true_eq_false, fd_Mo_runsOf_5, fd_Mo_runsOf_6, fd_Mo_runsOf_9, fd_Mo_runsOf_18, hS.all, c2]
  · have n1 := nI_m1 (p := j) (by omega)
    have im := am_inb (c := j) (N := 8) (by omega) (by omega)
    have qm : (nI j).toNatClampNeg = j := nI_clamp (by omega)
    refine am_go [5, 12] 3 ?_
    simp only [am_wp, am_stp, am_en, am_as, am_pad, am_nth, am_set, am_st1, am_st2, am_kl, am_kill, am_mem, am_fv, am_tk, am_wt, am_bk, Option.toList, List.cons_append, List.nil_append, Nat.reduceAdd, Nat.reduceEqDiff, Nat.reduceLeDiff, reduceIte, Nat.reduceLT, or_self, true_or, or_true, if_true, if_false, and_self, and_true, true_and, not_false_eq_true, not_true_eq_false, fd_Mo_runsOf_0, fd_Mo_runsOf_1, fd_Mo_runsOf_2, hS.all, n1]
    refine am_go [] 5 ?_
    simp only [am_wp, am_stp, am_en, am_as, am_pad, am_nth, am_set, am_st1, am_st2, am_kl, am_kill, am_mem, am_fv, am_tk, am_wt, am_bk, Option.toList, List.cons_append, List.nil_append, Nat.reduceAdd, Nat.reduceEqDiff, Nat.reduceLeDiff, reduceIte, Nat.reduceLT, or_self, true_or, or_true, if_true, if_false, and_self, and_true, true_and, not_false_eq_true, not_true_eq_false, fd_Mo_runsOf_12, fd_Mo_runsOf_13, fd_Mo_runsOf_16, fd_Mo_runsOf_17, fd_Mo_runsOf_18, hS.all, im, qm, c2]
theorem rx_runOf {d k s : Nat} {v : Int32} {l : List Nat} {h : am_H} (hS : mo_Sk h) (c : vv h v l) (hk : l[k]? = some s) : am_Rt nm_pr (d + 1) mi_Mo_runOf [.ref 72, .int v, .int (nI k)] h (fun o h' => o = .inl (some (.int (nI s))) ∧ h' = h) := by
  refine am_in' (d := d) mt_Mo_runOf 3 rfl rfl rfl ?_
  have hlt := (List.getElem?_eq_some_iff.mp hk).1
  obtain ⟨l9, -, ⟨rfl, -, c2⟩ | ⟨j, hj, rfl, -, c2⟩⟩ := c
  · have im := am_inb (c := k) (N := 9) (by omega) (by omega)
    have qm : (nI k).toNatClampNeg = k := nI_clamp (by omega)
    refine am_go [5, 14] 3 ?_
    simp only [am_wp, am_stp, am_en, am_as, am_pad, am_nth, am_set, am_st1, am_st2, am_kl, am_kill, am_mem, am_fv, am_tk, am_wt, am_bk, Option.toList, List.cons_append, List.nil_append, Nat.reduceAdd, Nat.reduceEqDiff, Nat.reduceLeDiff, reduceIte, Nat.reduceLT, or_self, true_or, or_true, if_true, if_false, and_self, and_true, true_and, not_false_eq_true, not_true_eq_false, fd_Mo_runOf_0, fd_Mo_runOf_1, fd_Mo_runOf_2, hS.all]
    refine am_go [] 6 ?_
    simp only [am_wp, am_stp, am_en, am_as, am_pad, am_nth, am_set, am_st1, am_st2, am_kl, am_kill, am_mem, am_fv, am_tk, am_wt, am_bk, Option.toList, List.cons_append, List.nil_append, Nat.reduceAdd, Nat.reduceEqDiff, Nat.reduceLeDiff, reduceIte, Nat.reduceLT, or_self, true_or, or_true, if_true, if_false, and_self, and_true, true_and, not_false_eq_true, not_true_eq_false, fd_Mo_runOf_5, fd_Mo_runOf_6, fd_Mo_runOf_9, fd_Mo_runOf_10, fd_Mo_runOf_11, fd_Mo_runOf_25, hS.all, im, qm, c2 k s hk]
  · have n1 := nI_m1 (p := j) (by omega)
    have e9 : 9 * nI j = nI (9 * j) := (Int32.ofNat_mul 9 j).symm
    have im := am_inb (c := 9 * j + k) (N := 72) (by omega) (by omega)
    have qm : (nI (9 * j + k)).toNatClampNeg = 9 * j + k := nI_clamp (by omega)
    refine am_go [5, 14] 3 ?_
    simp only [am_wp, am_stp, am_en, am_as, am_pad, am_nth, am_set, am_st1, am_st2, am_kl, am_kill, am_mem, am_fv, am_tk, am_wt, am_bk, Option.toList, List.cons_append, List.nil_append, Nat.reduceAdd, Nat.reduceEqDiff, Nat.reduceLeDiff, reduceIte, Nat.reduceLT, or_self, true_or, or_true, if_true, if_false, and_self, and_true, true_and, not_false_eq_true, not_true_eq_false, fd_Mo_runOf_0, fd_Mo_runOf_1, fd_Mo_runOf_2, hS.all, n1]
    refine am_go [] 9 ?_
    simp only [am_wp, am_stp, am_en, am_as, am_pad, am_nth, am_set, am_st1, am_st2, am_kl, am_kill, am_mem, am_fv, am_tk, am_wt, am_bk, Option.toList, List.cons_append, List.nil_append, Nat.reduceAdd, Nat.reduceEqDiff, Nat.reduceLeDiff, reduceIte, Nat.reduceLT, or_self, true_or, or_true, if_true, if_false, and_self, and_true, true_and, not_false_eq_true, not_true_eq_false, fd_Mo_runOf_14, fd_Mo_runOf_15, fd_Mo_runOf_18, fd_Mo_runOf_20, fd_Mo_runOf_21, fd_Mo_runOf_22, fd_Mo_runOf_23, fd_Mo_runOf_24, fd_Mo_runOf_25, hS.all, e9, nI_add, im, qm, c2 k s hk]
