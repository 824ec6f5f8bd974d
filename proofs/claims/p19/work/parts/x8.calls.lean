/-! THE REFERENCE'S CALLS -/
def rK : List Nat := [73, 77, 79, 80, 82, 86, 87, 88, 89]
theorem rR.f2 {P : Nat} {S : List Nat} {h h' : am_H} {E : Nat → List ent} {now : List Nat} {mk : Nat → List Nat} (R : rR P h E now mk) (hP : P ≤ 1024) (f : am_fi S h h') (hS : ∀ a ∈ rK, a ∉ S) (h3 : am_I h' 72 3 = am_I h 72 3) (h24 : am_I h' 72 24 = am_I h 72 24) : rR P h' E now mk := by
  obtain ⟨c1, c2, ⟨c3, c4⟩, c5⟩ := R
  have w : ∀ a ∈ rK, am_I h' a = am_I h a := fun a ha => f.2.2.2.2.2.2.1 a (hS a ha)
  refine ⟨?_, ?_, ⟨?_, fun s hs => ?_⟩, ?_⟩
  · unfold rR_n lev
    rw [h24, w 86 (by decide), w 79 (by decide)]; exact c1
  · unfold rR_m
    rw [w 87 (by decide), w 88 (by decide), w 89 (by decide)]; exact c2
  · rw [w 77 (by decide)]; exact c3
  · refine (c4 s hs).eq hP ?_ (fun k _ => ?_) (fun q hq => hq.eq (fun j _ => ?_))
    · rw [w 80 (by decide)]
    · rw [w 82 (by decide)]
    · rw [w 73 (by decide)]
  · rw [h3]; exact c5
theorem rI.tb {P : Nat} {h : am_H} (R : rI P h) : ∃ n, rt_S h n ∧ ta_S n (am_L h 74) (am_I h 75) (am_L h 76) := by
  obtain ⟨⟨c1, -, -, -, -, -, ⟨n, c7, c8⟩, -⟩, -⟩ := R
  exact ⟨n, ⟨c1, c7, c8.1⟩, c8⟩
theorem rx_come {d P n : Nat} {key : Int64} {kd : Int32} {vl : Int64} {h : am_H} (R : rI P h) (T : rt_S h n) (A : ta_S n (am_L h 74) (am_I h 75) (am_L h 76)) (hk : kd = 1 ∨ kd = 2 ∨ kd = 3) (hpl : ∀ p, tb_P (am_L h 74) n key p → n < 64 ∨ tb_H (am_L h 74) n p key = true) : am_Rt nm_pr (d + 2) mi_Mo_come [.ref 72, .long key, .int kd, .long vl] h (fun o h' => o = .inl none ∧ rq P h h' ∧ am_I h' 72 3 = am_I h 72 3) := by
  have k0 : kd ≠ 0 := by rcases hk with e | e | e <;> rw [e] <;> decide
  refine am_call (l2_Mo_come T A.2.1 k0 hpl) (fun o h' q => ?_)
  obtain ⟨p, hp, rfl, f, v, hQ⟩ := q
  have S := (ta_step (vl := vl) A hk hp (hpl p hp)).1
  obtain ⟨C, E, now, mk, RR⟩ := R
  have key2 : am_I h' 72 11 = nI (ta_n n (am_L h 74) p key) ∧ am_L h' 74 = ta_K n (am_L h 74) p key ∧ am_I h' 75 = ta_N n (am_L h 74) (am_I h 75) p key kd ∧ am_L h' 76 = ta_V n (am_L h 74) (am_I h 75) (am_L h 76) p key kd vl := by
    unfold ta_n ta_K ta_N ta_V
    unfold co_Q at hQ
    cases hH : tb_H (am_L h 74) n p key with
    | true => rw [hH] at hQ; exact ⟨hQ.1.2.1, hQ.2.1, hQ.2.2.1, hQ.2.2.2⟩
    | false => rw [hH] at hQ; exact ⟨hQ.1.2.1, hQ.2.1, hQ.2.2.1, hQ.2.2.2⟩
  obtain ⟨y1, y2, y3, y4⟩ := key2
  obtain ⟨c1, c2, c3, c4, c5, c6, -, cB⟩ := C
  refine ⟨rfl, ⟨⟨⟨c1.fi f, c2, c3, ?_, ?_, ?_, ⟨_, y1, ?_⟩, cB.eq (f.2.2.2.2.2.2.1 73 (by decide))⟩, E, now, mk, RR.f2 c3 f (by decide) (v 3 (by decide)) (v 24 (by decide))⟩, f.sub (by decide)⟩, v 3 (by decide)⟩
  · rw [v 1 (by decide)]; exact c4
  · rw [v 8 (by decide), v 9 (by decide)]; exact c5
  · rw [v 45 (by decide)]; exact c6
  · rw [y2, y3, y4]; exact S
theorem rx_enter {d P : Nat} {key vl : Int64} {kd : Int32} {h : am_H} (R : rI P h) (hk : kd = 1 ∨ kd = 2 ∨ kd = 3) : am_Rt nm_pr (d + 3) mi_Mo_enter [.ref 72, .long key, .int kd, .long vl] h (fun o h' => iany o ∧ rq P h h') := by
  obtain ⟨n, T, A⟩ := R.tb
  have hS := T.1
  have q0 := rq.refl R
  have one0 : ¬ (1 : Int32) = 0 := by decide
  refine am_in' (d := d + 2) mt_Mo_enter 6 rfl rfl rfl ?_
  have no : am_Ex nm_pr (d + 2) mt_Mo_enter (15, [.ref 72, .long key, .retAddr 0, .int kd, .long vl, .retAddr 0], [], h) (fun o h' => iany o ∧ rq P h h') := by
    refine am_go [] 5 ?_
    simp only [am_wp, am_stp, am_en, am_as, am_pad, am_nth, am_set, am_st1, am_st2, am_kl, am_kill, am_mem, am_fv, am_tk, am_wt, am_bk, Option.toList, List.cons_append, List.nil_append, Nat.reduceAdd, Nat.reduceEqDiff, Nat.reduceLeDiff, reduceIte, Nat.reduceLT, or_self, true_or, or_true, if_true, if_false, and_self, and_true, true_and, not_false_eq_true, not_true_eq_false, fd_Mo_enter_15, fd_Mo_enter_16, fd_Mo_enter_17, fd_Mo_enter_20, fd_Mo_enter_21, hS.all]
    exact ⟨⟨_, rfl⟩, q0.s (by unfold rJ; omega)⟩
  refine am_go [7, 15] 3 ?_
  simp only [am_wp, am_stp, am_en, am_as, am_pad, am_nth, am_set, am_st1, am_st2, am_kl, am_kill, am_mem, am_fv, am_tk, am_wt, am_bk, Option.toList, List.cons_append, List.nil_append, Nat.reduceAdd, Nat.reduceEqDiff, Nat.reduceLeDiff, reduceIte, Nat.reduceLT, or_self, true_or, or_true, if_true, if_false, and_self, and_true, true_and, not_false_eq_true, not_true_eq_false, fd_Mo_enter_0, fd_Mo_enter_1, fd_Mo_enter_4, hS.all]
  refine wif ?_ no
  refine am_go [] 3 ?_
  simp only [am_wp, am_stp, am_en, am_as, am_pad, am_nth, am_set, am_st1, am_st2, am_kl, am_kill, am_mem, am_fv, am_tk, am_wt, am_bk, Option.toList, List.cons_append, List.nil_append, Nat.reduceAdd, Nat.reduceEqDiff, Nat.reduceLeDiff, reduceIte, Nat.reduceLT, or_self, true_or, or_true, if_true, if_false, and_self, and_true, true_and, not_false_eq_true, not_true_eq_false, fd_Mo_enter_7, fd_Mo_enter_8, fd_Mo_enter_9, hS.all]
  refine am_call (l2_Mo_hasPlace (d := d) T A.2.1) (fun o g2 q => ?_)
  obtain ⟨p, hp, rfl, rfl⟩ := q
  by_cases e : n < 64 ∨ tb_H (am_L g2 74) n p key = true
  · rw [if_pos e]
    simp only [am_wp, am_stp, am_en, am_as, am_pad, am_nth, am_set, am_st1, am_st2, am_kl, am_kill, am_mem, am_fv, am_tk, am_wt, am_bk, Option.toList, List.cons_append, List.nil_append, Nat.reduceAdd, Nat.reduceEqDiff, Nat.reduceLeDiff, reduceIte, Nat.reduceLT, or_self, true_or, or_true, if_true, if_false, and_self, and_true, true_and, not_false_eq_true, not_true_eq_false]
    refine am_go [15, 22] 1 ?_
    simp only [am_wp, am_stp, am_en, am_as, am_pad, am_nth, am_set, am_st1, am_st2, am_kl, am_kill, am_mem, am_fv, am_tk, am_wt, am_bk, Option.toList, List.cons_append, List.nil_append, Nat.reduceAdd, Nat.reduceEqDiff, Nat.reduceLeDiff, reduceIte, Nat.reduceLT, or_self, true_or, or_true, if_true, if_false, and_self, and_true, true_and, not_false_eq_true, not_true_eq_false, fd_Mo_enter_12, hS.all, one0]
    refine am_go [27] 3 ?_
    simp only [am_wp, am_stp, am_en, am_as, am_pad, am_nth, am_set, am_st1, am_st2, am_kl, am_kill, am_mem, am_fv, am_tk, am_wt, am_bk, Option.toList, List.cons_append, List.nil_append, Nat.reduceAdd, Nat.reduceEqDiff, Nat.reduceLeDiff, reduceIte, Nat.reduceLT, or_self, true_or, or_true, if_true, if_false, and_self, and_true, true_and, not_false_eq_true, not_true_eq_false, fd_Mo_enter_22, fd_Mo_enter_23, fd_Mo_enter_24, hS.all]
    have q1 := q0.s (j := 0) (v := 0) (by unfold rJ; omega)
    have f1 : am_fi [72] g2 (am_sI g2 72 0 0) := am_fi.refl.sI (by simp)
    have T1 : rt_S (am_sI g2 72 0 0) n := ⟨hS.sI, by rw [hx_I_sI, if_pos rfl, if_neg (by decide)]; exact T.2.1, T.2.2⟩
    have A1 : ta_S n (am_L (am_sI g2 72 0 0) 74) (am_I (am_sI g2 72 0 0) 75) (am_L (am_sI g2 72 0 0) 76) := by
      rw [f1.2.2.2.2.2.2.2 74 (by decide), f1.2.2.2.2.2.2.1 75 (by decide), f1.2.2.2.2.2.2.2 76 (by decide)]; exact A
    have e1 : ∀ p', tb_P (am_L (am_sI g2 72 0 0) 74) n key p' → n < 64 ∨ tb_H (am_L (am_sI g2 72 0 0) 74) n p' key = true := fun p' hp' => by
      rw [f1.2.2.2.2.2.2.2 74 (by decide)] at hp' ⊢
      rw [hp'.uniq hp]; exact e
    clear f1
    generalize am_sI g2 72 0 0 = g3 at *
    have S1 := T1.1
    refine am_go [] 5 ?_
    simp only [am_wp, am_stp, am_en, am_as, am_pad, am_nth, am_set, am_st1, am_st2, am_kl, am_kill, am_mem, am_fv, am_tk, am_wt, am_bk, Option.toList, List.cons_append, List.nil_append, Nat.reduceAdd, Nat.reduceEqDiff, Nat.reduceLeDiff, reduceIte, Nat.reduceLT, or_self, true_or, or_true, if_true, if_false, and_self, and_true, true_and, not_false_eq_true, not_true_eq_false, fd_Mo_enter_27, fd_Mo_enter_28, fd_Mo_enter_29, fd_Mo_enter_30, fd_Mo_enter_32, S1.all]
    refine am_call (rx_come (d := d) q1.1 T1 A1 hk e1) (fun o g4 q => ?_)
    obtain ⟨rfl, q4, -⟩ := q
    have S4 := q4.1.1.1
    simp only [am_wp, am_stp, am_en, am_as, am_pad, am_nth, am_set, am_st1, am_st2, am_kl, am_kill, am_mem, am_fv, am_tk, am_wt, am_bk, Option.toList, List.cons_append, List.nil_append, Nat.reduceAdd, Nat.reduceEqDiff, Nat.reduceLeDiff, reduceIte, Nat.reduceLT, or_self, true_or, or_true, if_true, if_false, and_self, and_true, true_and, not_false_eq_true, not_true_eq_false]
    refine am_go [] 3 ?_
    simp only [am_wp, am_stp, am_en, am_as, am_pad, am_nth, am_set, am_st1, am_st2, am_kl, am_kill, am_mem, am_fv, am_tk, am_wt, am_bk, Option.toList, List.cons_append, List.nil_append, Nat.reduceAdd, Nat.reduceEqDiff, Nat.reduceLeDiff, reduceIte, Nat.reduceLT, or_self, true_or, or_true, if_true, if_false, and_self, and_true, true_and, not_false_eq_true, not_true_eq_false, fd_Mo_enter_35, fd_Mo_enter_36, fd_Mo_enter_39, S4.all]
    exact ⟨⟨_, rfl⟩, q1.trans q4⟩
  · rw [if_neg e]
    simp only [am_wp, am_stp, am_en, am_as, am_pad, am_nth, am_set, am_st1, am_st2, am_kl, am_kill, am_mem, am_fv, am_tk, am_wt, am_bk, Option.toList, List.cons_append, List.nil_append, Nat.reduceAdd, Nat.reduceEqDiff, Nat.reduceLeDiff, reduceIte, Nat.reduceLT, or_self, true_or, or_true, if_true, if_false, and_self, and_true, true_and, not_false_eq_true, not_true_eq_false]
    refine am_go [15, 22] 1 ?_
    simp only [am_wp, am_stp, am_en, am_as, am_pad, am_nth, am_set, am_st1, am_st2, am_kl, am_kill, am_mem, am_fv, am_tk, am_wt, am_bk, Option.toList, List.cons_append, List.nil_append, Nat.reduceAdd, Nat.reduceEqDiff, Nat.reduceLeDiff, reduceIte, Nat.reduceLT, or_self, true_or, or_true, if_true, if_false, and_self, and_true, true_and, not_false_eq_true, not_true_eq_false, fd_Mo_enter_12, hS.all]
    exact no
theorem rx_put {d P : Nat} {key vl : Int64} {h : am_H} (R : rI P h) : am_Rt nm_pr (d + 4) mi_Mo_put [.ref 72, .long key, .long vl] h (fun o h' => iany o ∧ rq P h h') := by
  have hS := R.1.1
  refine am_in' (d := d + 3) mt_Mo_put 5 rfl rfl rfl ?_
  refine am_go [] 5 ?_
  simp only [am_wp, am_stp, am_en, am_as, am_pad, am_nth, am_set, am_st1, am_st2, am_kl, am_kill, am_mem, am_fv, am_tk, am_wt, am_bk, Option.toList, List.cons_append, List.nil_append, Nat.reduceAdd, Nat.reduceEqDiff, Nat.reduceLeDiff, reduceIte, Nat.reduceLT, or_self, true_or, or_true, if_true, if_false, and_self, and_true, true_and, not_false_eq_true, not_true_eq_false, fd_Mo_put_0, fd_Mo_put_1, fd_Mo_put_2, fd_Mo_put_3, fd_Mo_put_4, hS.all]
  refine am_call (rx_enter R (by decide)) (fun o g q => ?_)
  obtain ⟨⟨x, rfl⟩, q1⟩ := q
  simp only [am_wp, am_stp, am_en, am_as, am_pad, am_nth, am_set, am_st1, am_st2, am_kl, am_kill, am_mem, am_fv, am_tk, am_wt, am_bk, Option.toList, List.cons_append, List.nil_append, Nat.reduceAdd, Nat.reduceEqDiff, Nat.reduceLeDiff, reduceIte, Nat.reduceLT, or_self, true_or, or_true, if_true, if_false, and_self, and_true, true_and, not_false_eq_true, not_true_eq_false]
  refine am_go [] 1 ?_
  simp only [am_wp, am_stp, am_en, am_as, am_pad, am_nth, am_set, am_st1, am_st2, am_kl, am_kill, am_mem, am_fv, am_tk, am_wt, am_bk, Option.toList, List.cons_append, List.nil_append, Nat.reduceAdd, Nat.reduceEqDiff, Nat.reduceLeDiff, reduceIte, Nat.reduceLT, or_self, true_or, or_true, if_true, if_false, and_self, and_true, true_and, not_false_eq_true, not_true_eq_false, fd_Mo_put_7]
  exact ⟨⟨_, rfl⟩, q1⟩
theorem rx_remove {d P : Nat} {key : Int64} {h : am_H} (R : rI P h) : am_Rt nm_pr (d + 4) mi_Mo_remove [.ref 72, .long key] h (fun o h' => iany o ∧ rq P h h') := by
  have hS := R.1.1
  refine am_in' (d := d + 3) mt_Mo_remove 3 rfl rfl rfl ?_
  refine am_go [] 5 ?_
  simp only [am_wp, am_stp, am_en, am_as, am_pad, am_nth, am_set, am_st1, am_st2, am_kl, am_kill, am_mem, am_fv, am_tk, am_wt, am_bk, Option.toList, List.cons_append, List.nil_append, Nat.reduceAdd, Nat.reduceEqDiff, Nat.reduceLeDiff, reduceIte, Nat.reduceLT, or_self, true_or, or_true, if_true, if_false, and_self, and_true, true_and, not_false_eq_true, not_true_eq_false, fd_Mo_remove_0, fd_Mo_remove_1, fd_Mo_remove_2, fd_Mo_remove_3, fd_Mo_remove_4, hS.all]
  refine am_call (rx_enter R (by decide)) (fun o g q => ?_)
  obtain ⟨⟨x, rfl⟩, q1⟩ := q
  simp only [am_wp, am_stp, am_en, am_as, am_pad, am_nth, am_set, am_st1, am_st2, am_kl, am_kill, am_mem, am_fv, am_tk, am_wt, am_bk, Option.toList, List.cons_append, List.nil_append, Nat.reduceAdd, Nat.reduceEqDiff, Nat.reduceLeDiff, reduceIte, Nat.reduceLT, or_self, true_or, or_true, if_true, if_false, and_self, and_true, true_and, not_false_eq_true, not_true_eq_false]
  refine am_go [] 1 ?_
  simp only [am_wp, am_stp, am_en, am_as, am_pad, am_nth, am_set, am_st1, am_st2, am_kl, am_kill, am_mem, am_fv, am_tk, am_wt, am_bk, Option.toList, List.cons_append, List.nil_append, Nat.reduceAdd, Nat.reduceEqDiff, Nat.reduceLeDiff, reduceIte, Nat.reduceLT, or_self, true_or, or_true, if_true, if_false, and_self, and_true, true_and, not_false_eq_true, not_true_eq_false, fd_Mo_remove_7]
  exact ⟨⟨_, rfl⟩, q1⟩
theorem rx_fold {d P : Nat} {key vl : Int64} {h : am_H} (R : rI P h) : am_Rt nm_pr (d + 4) mi_Mo_fold [.ref 72, .long key, .long vl] h (fun o h' => iany o ∧ rq P h h') := by
  have hS := R.1.1
  refine am_in' (d := d + 3) mt_Mo_fold 5 rfl rfl rfl ?_
  refine am_go [] 5 ?_
  simp only [am_wp, am_stp, am_en, am_as, am_pad, am_nth, am_set, am_st1, am_st2, am_kl, am_kill, am_mem, am_fv, am_tk, am_wt, am_bk, Option.toList, List.cons_append, List.nil_append, Nat.reduceAdd, Nat.reduceEqDiff, Nat.reduceLeDiff, reduceIte, Nat.reduceLT, or_self, true_or, or_true, if_true, if_false, and_self, and_true, true_and, not_false_eq_true, not_true_eq_false, fd_Mo_fold_0, fd_Mo_fold_1, fd_Mo_fold_2, fd_Mo_fold_3, fd_Mo_fold_4, hS.all]
  refine am_call (rx_enter R (by decide)) (fun o g q => ?_)
  obtain ⟨⟨x, rfl⟩, q1⟩ := q
  simp only [am_wp, am_stp, am_en, am_as, am_pad, am_nth, am_set, am_st1, am_st2, am_kl, am_kill, am_mem, am_fv, am_tk, am_wt, am_bk, Option.toList, List.cons_append, List.nil_append, Nat.reduceAdd, Nat.reduceEqDiff, Nat.reduceLeDiff, reduceIte, Nat.reduceLT, or_self, true_or, or_true, if_true, if_false, and_self, and_true, true_and, not_false_eq_true, not_true_eq_false]
  refine am_go [] 1 ?_
  simp only [am_wp, am_stp, am_en, am_as, am_pad, am_nth, am_set, am_st1, am_st2, am_kl, am_kill, am_mem, am_fv, am_tk, am_wt, am_bk, Option.toList, List.cons_append, List.nil_append, Nat.reduceAdd, Nat.reduceEqDiff, Nat.reduceLeDiff, reduceIte, Nat.reduceLT, or_self, true_or, or_true, if_true, if_false, and_self, and_true, true_and, not_false_eq_true, not_true_eq_false, fd_Mo_fold_7]
  exact ⟨⟨_, rfl⟩, q1⟩
theorem rx_many_loop {d P N : Nat} {kd : Int32} {fr st : Int64} {h : am_H} (hk : kd = 1 ∨ kd = 2 ∨ kd = 3) (hN : N ≤ 1000) : ∀ (m i : Nat) (key : Int64) (w10 : Value) (g : am_H), m + i = N → rq P h g → am_I g 72 3 = 0 →
    am_Ex nm_pr (d + 6) mt_Mo_many (57, [.ref 72, .int kd, .int (nI N), .long fr, .retAddr 0, .long st, .retAddr 0, .long key, .retAddr 0, .int (nI i), w10], [], g) (fun o h' => iany o ∧ rq P h h')
  | 0, i, key, w10, g, hm, q, h3 => by
    have S := q.1.1.1
    have l1 : ¬ nI i < nI N := nI_nlt (by omega) (by omega)
    refine am_go [63, 142] 3 ?_
    simp only [am_wp, am_stp, am_en, am_as, am_pad, am_nth, am_set, am_st1, am_st2, am_kl, am_kill, am_mem, am_fv, am_tk, am_wt, am_bk, Option.toList, List.cons_append, List.nil_append, Nat.reduceAdd, Nat.reduceEqDiff, Nat.reduceLeDiff, reduceIte, Nat.reduceLT, or_self, true_or, or_true, if_true, if_false, and_self, and_true, true_and, not_false_eq_true, not_true_eq_false, fd_Mo_many_57, fd_Mo_many_59, fd_Mo_many_60, S.all, l1]
    refine am_go [] 2 ?_
    simp only [am_wp, am_stp, am_en, am_as, am_pad, am_nth, am_set, am_st1, am_st2, am_kl, am_kill, am_mem, am_fv, am_tk, am_wt, am_bk, Option.toList, List.cons_append, List.nil_append, Nat.reduceAdd, Nat.reduceEqDiff, Nat.reduceLeDiff, reduceIte, Nat.reduceLT, or_self, true_or, or_true, if_true, if_false, and_self, and_true, true_and, not_false_eq_true, not_true_eq_false, fd_Mo_many_142, fd_Mo_many_143, S.all]
    exact ⟨⟨_, rfl⟩, q⟩
  | m + 1, i, key, w10, g, hm, q, h3 => by
    have S := q.1.1.1
    have l1 : nI i < nI N := nI_lt (by omega) (by omega)
    have one0 : ¬ (1 : Int32) = 0 := by decide
    have ent : ∀ (n : Nat) (w10 : Value) (g : am_H), rq P h g → am_I g 72 3 = 0 → rt_S g n → ta_S n (am_L g 74) (am_I g 75) (am_L g 76) → (∀ p, tb_P (am_L g 74) n key p → n < 64 ∨ tb_H (am_L g 74) n p key = true) →
        am_Ex nm_pr (d + 6) mt_Mo_many (119, [.ref 72, .int kd, .int (nI N), .long fr, .retAddr 0, .long st, .retAddr 0, .long key, .retAddr 0, .int (nI i), w10], [], g) (fun o h' => iany o ∧ rq P h h') := by
      intro n w10 g q h3 T A hpl
      have S := T.1
      refine am_go [] 6 ?_
      simp only [am_wp, am_stp, am_en, am_as, am_pad, am_nth, am_set, am_st1, am_st2, am_kl, am_kill, am_mem, am_fv, am_tk, am_wt, am_bk, Option.toList, List.cons_append, List.nil_append, Nat.reduceAdd, Nat.reduceEqDiff, Nat.reduceLeDiff, reduceIte, Nat.reduceLT, or_self, true_or, or_true, if_true, if_false, and_self, and_true, true_and, not_false_eq_true, not_true_eq_false, fd_Mo_many_119, fd_Mo_many_120, fd_Mo_many_122, fd_Mo_many_123, fd_Mo_many_125, fd_Mo_many_126, S.all]
      refine am_call (rx_come (d := d + 4) q.1 T A hk hpl) (fun o g4 z => ?_)
      obtain ⟨rfl, q4, e3⟩ := z
      have S4 := q4.1.1.1
      simp only [am_wp, am_stp, am_en, am_as, am_pad, am_nth, am_set, am_st1, am_st2, am_kl, am_kill, am_mem, am_fv, am_tk, am_wt, am_bk, Option.toList, List.cons_append, List.nil_append, Nat.reduceAdd, Nat.reduceEqDiff, Nat.reduceLeDiff, reduceIte, Nat.reduceLT, or_self, true_or, or_true, if_true, if_false, and_self, and_true, true_and, not_false_eq_true, not_true_eq_false]
      refine am_go [57] 6 ?_
      simp only [am_wp, am_stp, am_en, am_as, am_pad, am_nth, am_set, am_st1, am_st2, am_kl, am_kill, am_mem, am_fv, am_tk, am_wt, am_bk, Option.toList, List.cons_append, List.nil_append, Nat.reduceAdd, Nat.reduceEqDiff, Nat.reduceLeDiff, reduceIte, Nat.reduceLT, or_self, true_or, or_true, if_true, if_false, and_self, and_true, true_and, not_false_eq_true, not_true_eq_false, fd_Mo_many_129, fd_Mo_many_131, fd_Mo_many_133, fd_Mo_many_134, fd_Mo_many_136, fd_Mo_many_139, nI_1]
      exact rx_many_loop hk hN m (i + 1) (key + st) _ g4 (by omega) (q.trans q4) (e3.trans h3)
    have out : ∀ (w10 : Value) g, rq P h g → am_Ex nm_pr (d + 6) mt_Mo_many (116, [.ref 72, .int kd, .int (nI N), .long fr, .retAddr 0, .long st, .retAddr 0, .long key, .retAddr 0, .int (nI i), w10], [], g) (fun o h' => iany o ∧ rq P h h') := by
      intro w10 g q
      have S := q.1.1.1
      refine am_go [] 2 ?_
      simp only [am_wp, am_stp, am_en, am_as, am_pad, am_nth, am_set, am_st1, am_st2, am_kl, am_kill, am_mem, am_fv, am_tk, am_wt, am_bk, Option.toList, List.cons_append, List.nil_append, Nat.reduceAdd, Nat.reduceEqDiff, Nat.reduceLeDiff, reduceIte, Nat.reduceLT, or_self, true_or, or_true, if_true, if_false, and_self, and_true, true_and, not_false_eq_true, not_true_eq_false, fd_Mo_many_116, fd_Mo_many_118, S.all]
      exact ⟨⟨_, rfl⟩, q⟩
    have chk : ∀ (w10 : Value) g, rq P h g → am_Ex nm_pr (d + 6) mt_Mo_many (100, [.ref 72, .int kd, .int (nI N), .long fr, .retAddr 0, .long st, .retAddr 0, .long key, .retAddr 0, .int (nI i), w10], [], g) (fun o h' => iany o ∧ rq P h h') := by
      intro w10 g q
      have S := q.1.1.1
      by_cases e3 : am_I g 72 3 = 0
      · refine am_go [107, 116] 3 ?_
        simp only [am_wp, am_stp, am_en, am_as, am_pad, am_nth, am_set, am_st1, am_st2, am_kl, am_kill, am_mem, am_fv, am_tk, am_wt, am_bk, Option.toList, List.cons_append, List.nil_append, Nat.reduceAdd, Nat.reduceEqDiff, Nat.reduceLeDiff, reduceIte, Nat.reduceLT, or_self, true_or, or_true, if_true, if_false, and_self, and_true, true_and, not_false_eq_true, not_true_eq_false, fd_Mo_many_100, fd_Mo_many_101, fd_Mo_many_104, S.all, e3]
        obtain ⟨n, T, A⟩ := q.1.tb
        refine am_go [] 3 ?_
        simp only [am_wp, am_stp, am_en, am_as, am_pad, am_nth, am_set, am_st1, am_st2, am_kl, am_kill, am_mem, am_fv, am_tk, am_wt, am_bk, Option.toList, List.cons_append, List.nil_append, Nat.reduceAdd, Nat.reduceEqDiff, Nat.reduceLeDiff, reduceIte, Nat.reduceLT, or_self, true_or, or_true, if_true, if_false, and_self, and_true, true_and, not_false_eq_true, not_true_eq_false, fd_Mo_many_107, fd_Mo_many_108, fd_Mo_many_110, S.all]
        refine am_call (l2_Mo_hasPlace (d := d + 4) T A.2.1) (fun o g2 z => ?_)
        obtain ⟨p, hp, rfl, rfl⟩ := z
        by_cases e : n < 64 ∨ tb_H (am_L g2 74) n p key = true
        · rw [if_pos e]
          simp only [am_wp, am_stp, am_en, am_as, am_pad, am_nth, am_set, am_st1, am_st2, am_kl, am_kill, am_mem, am_fv, am_tk, am_wt, am_bk, Option.toList, List.cons_append, List.nil_append, Nat.reduceAdd, Nat.reduceEqDiff, Nat.reduceLeDiff, reduceIte, Nat.reduceLT, or_self, true_or, or_true, if_true, if_false, and_self, and_true, true_and, not_false_eq_true, not_true_eq_false]
          refine am_go [116, 119] 1 ?_
          simp only [am_wp, am_stp, am_en, am_as, am_pad, am_nth, am_set, am_st1, am_st2, am_kl, am_kill, am_mem, am_fv, am_tk, am_wt, am_bk, Option.toList, List.cons_append, List.nil_append, Nat.reduceAdd, Nat.reduceEqDiff, Nat.reduceLeDiff, reduceIte, Nat.reduceLT, or_self, true_or, or_true, if_true, if_false, and_self, and_true, true_and, not_false_eq_true, not_true_eq_false, fd_Mo_many_113, S.all, one0]
          exact ent n _ _ q e3 T A (fun p' hp' => by rw [hp'.uniq hp]; exact e)
        · rw [if_neg e]
          simp only [am_wp, am_stp, am_en, am_as, am_pad, am_nth, am_set, am_st1, am_st2, am_kl, am_kill, am_mem, am_fv, am_tk, am_wt, am_bk, Option.toList, List.cons_append, List.nil_append, Nat.reduceAdd, Nat.reduceEqDiff, Nat.reduceLeDiff, reduceIte, Nat.reduceLT, or_self, true_or, or_true, if_true, if_false, and_self, and_true, true_and, not_false_eq_true, not_true_eq_false]
          refine am_go [116, 119] 1 ?_
          simp only [am_wp, am_stp, am_en, am_as, am_pad, am_nth, am_set, am_st1, am_st2, am_kl, am_kill, am_mem, am_fv, am_tk, am_wt, am_bk, Option.toList, List.cons_append, List.nil_append, Nat.reduceAdd, Nat.reduceEqDiff, Nat.reduceLeDiff, reduceIte, Nat.reduceLT, or_self, true_or, or_true, if_true, if_false, and_self, and_true, true_and, not_false_eq_true, not_true_eq_false, fd_Mo_many_113, S.all]
          exact out _ _ q
      · refine am_go [107, 116] 3 ?_
        simp only [am_wp, am_stp, am_en, am_as, am_pad, am_nth, am_set, am_st1, am_st2, am_kl, am_kill, am_mem, am_fv, am_tk, am_wt, am_bk, Option.toList, List.cons_append, List.nil_append, Nat.reduceAdd, Nat.reduceEqDiff, Nat.reduceLeDiff, reduceIte, Nat.reduceLT, or_self, true_or, or_true, if_true, if_false, and_self, and_true, true_and, not_false_eq_true, not_true_eq_false, fd_Mo_many_100, fd_Mo_many_101, fd_Mo_many_104, S.all, e3]
        exact out _ _ q
    have fl : ∀ (w10 : Value) g, rq P h g → am_Ex nm_pr (d + 6) mt_Mo_many (87, [.ref 72, .int kd, .int (nI N), .long fr, .retAddr 0, .long st, .retAddr 0, .long key, .retAddr 0, .int (nI i), w10], [], g) (fun o h' => iany o ∧ rq P h h') := by
      intro w10 g q
      have S := q.1.1.1
      by_cases e3 : am_I g 72 3 = 0
      · refine am_go [94, 100] 3 ?_
        simp only [am_wp, am_stp, am_en, am_as, am_pad, am_nth, am_set, am_st1, am_st2, am_kl, am_kill, am_mem, am_fv, am_tk, am_wt, am_bk, Option.toList, List.cons_append, List.nil_append, Nat.reduceAdd, Nat.reduceEqDiff, Nat.reduceLeDiff, reduceIte, Nat.reduceLT, or_self, true_or, or_true, if_true, if_false, and_self, and_true, true_and, not_false_eq_true, not_true_eq_false, fd_Mo_many_87, fd_Mo_many_88, fd_Mo_many_91, S.all, e3]
        refine am_go [] 2 ?_
        simp only [am_wp, am_stp, am_en, am_as, am_pad, am_nth, am_set, am_st1, am_st2, am_kl, am_kill, am_mem, am_fv, am_tk, am_wt, am_bk, Option.toList, List.cons_append, List.nil_append, Nat.reduceAdd, Nat.reduceEqDiff, Nat.reduceLeDiff, reduceIte, Nat.reduceLT, or_self, true_or, or_true, if_true, if_false, and_self, and_true, true_and, not_false_eq_true, not_true_eq_false, fd_Mo_many_94, fd_Mo_many_95, S.all]
        refine am_call (rx_flushNow (d := d) q.1 e3) (fun o g2 z => ?_)
        obtain ⟨⟨x, rfl⟩, q2⟩ := z
        have S2 := q2.1.1.1
        simp only [am_wp, am_stp, am_en, am_as, am_pad, am_nth, am_set, am_st1, am_st2, am_kl, am_kill, am_mem, am_fv, am_tk, am_wt, am_bk, Option.toList, List.cons_append, List.nil_append, Nat.reduceAdd, Nat.reduceEqDiff, Nat.reduceLeDiff, reduceIte, Nat.reduceLT, or_self, true_or, or_true, if_true, if_false, and_self, and_true, true_and, not_false_eq_true, not_true_eq_false]
        refine am_go [100] 1 ?_
        simp only [am_wp, am_stp, am_en, am_as, am_pad, am_nth, am_set, am_st1, am_st2, am_kl, am_kill, am_mem, am_fv, am_tk, am_wt, am_bk, Option.toList, List.cons_append, List.nil_append, Nat.reduceAdd, Nat.reduceEqDiff, Nat.reduceLeDiff, reduceIte, Nat.reduceLT, or_self, true_or, or_true, if_true, if_false, and_self, and_true, true_and, not_false_eq_true, not_true_eq_false, fd_Mo_many_98, S2.all]
        exact chk _ _ (q.trans q2)
      · refine am_go [94, 100] 3 ?_
        simp only [am_wp, am_stp, am_en, am_as, am_pad, am_nth, am_set, am_st1, am_st2, am_kl, am_kill, am_mem, am_fv, am_tk, am_wt, am_bk, Option.toList, List.cons_append, List.nil_append, Nat.reduceAdd, Nat.reduceEqDiff, Nat.reduceLeDiff, reduceIte, Nat.reduceLT, or_self, true_or, or_true, if_true, if_false, and_self, and_true, true_and, not_false_eq_true, not_true_eq_false, fd_Mo_many_87, fd_Mo_many_88, fd_Mo_many_91, S.all, e3]
        exact chk _ _ q
    obtain ⟨n, T, A⟩ := q.1.tb
    refine am_go [63, 142] 3 ?_
    simp only [am_wp, am_stp, am_en, am_as, am_pad, am_nth, am_set, am_st1, am_st2, am_kl, am_kill, am_mem, am_fv, am_tk, am_wt, am_bk, Option.toList, List.cons_append, List.nil_append, Nat.reduceAdd, Nat.reduceEqDiff, Nat.reduceLeDiff, reduceIte, Nat.reduceLT, or_self, true_or, or_true, if_true, if_false, and_self, and_true, true_and, not_false_eq_true, not_true_eq_false, fd_Mo_many_57, fd_Mo_many_59, fd_Mo_many_60, S.all, l1]
    refine am_go [] 3 ?_
    simp only [am_wp, am_stp, am_en, am_as, am_pad, am_nth, am_set, am_st1, am_st2, am_kl, am_kill, am_mem, am_fv, am_tk, am_wt, am_bk, Option.toList, List.cons_append, List.nil_append, Nat.reduceAdd, Nat.reduceEqDiff, Nat.reduceLeDiff, reduceIte, Nat.reduceLT, or_self, true_or, or_true, if_true, if_false, and_self, and_true, true_and, not_false_eq_true, not_true_eq_false, fd_Mo_many_63, fd_Mo_many_64, fd_Mo_many_66, S.all]
    refine am_call (l2_Mo_hasPlace (d := d + 4) T A.2.1) (fun o g2 z => ?_)
    obtain ⟨p, hp, rfl, rfl⟩ := z
    by_cases e : n < 64 ∨ tb_H (am_L g2 74) n p key = true
    · rw [if_pos e]
      simp only [am_wp, am_stp, am_en, am_as, am_pad, am_nth, am_set, am_st1, am_st2, am_kl, am_kill, am_mem, am_fv, am_tk, am_wt, am_bk, Option.toList, List.cons_append, List.nil_append, Nat.reduceAdd, Nat.reduceEqDiff, Nat.reduceLeDiff, reduceIte, Nat.reduceLT, or_self, true_or, or_true, if_true, if_false, and_self, and_true, true_and, not_false_eq_true, not_true_eq_false]
      refine am_go [72, 119] 1 ?_
      simp only [am_wp, am_stp, am_en, am_as, am_pad, am_nth, am_set, am_st1, am_st2, am_kl, am_kill, am_mem, am_fv, am_tk, am_wt, am_bk, Option.toList, List.cons_append, List.nil_append, Nat.reduceAdd, Nat.reduceEqDiff, Nat.reduceLeDiff, reduceIte, Nat.reduceLT, or_self, true_or, or_true, if_true, if_false, and_self, and_true, true_and, not_false_eq_true, not_true_eq_false, fd_Mo_many_69, S.all, one0]
      exact ent n _ _ q h3 T A (fun p' hp' => by rw [hp'.uniq hp]; exact e)
    · rw [if_neg e]
      simp only [am_wp, am_stp, am_en, am_as, am_pad, am_nth, am_set, am_st1, am_st2, am_kl, am_kill, am_mem, am_fv, am_tk, am_wt, am_bk, Option.toList, List.cons_append, List.nil_append, Nat.reduceAdd, Nat.reduceEqDiff, Nat.reduceLeDiff, reduceIte, Nat.reduceLT, or_self, true_or, or_true, if_true, if_false, and_self, and_true, true_and, not_false_eq_true, not_true_eq_false]
      refine am_go [72, 119] 1 ?_
      simp only [am_wp, am_stp, am_en, am_as, am_pad, am_nth, am_set, am_st1, am_st2, am_kl, am_kill, am_mem, am_fv, am_tk, am_wt, am_bk, Option.toList, List.cons_append, List.nil_append, Nat.reduceAdd, Nat.reduceEqDiff, Nat.reduceLeDiff, reduceIte, Nat.reduceLT, or_self, true_or, or_true, if_true, if_false, and_self, and_true, true_and, not_false_eq_true, not_true_eq_false, fd_Mo_many_69, S.all]
      obtain ⟨C, E, now, mk, RR⟩ := id q.1
      refine am_go [] 2 ?_
      simp only [am_wp, am_stp, am_en, am_as, am_pad, am_nth, am_set, am_st1, am_st2, am_kl, am_kill, am_mem, am_fv, am_tk, am_wt, am_bk, Option.toList, List.cons_append, List.nil_append, Nat.reduceAdd, Nat.reduceEqDiff, Nat.reduceLeDiff, reduceIte, Nat.reduceLT, or_self, true_or, or_true, if_true, if_false, and_self, and_true, true_and, not_false_eq_true, not_true_eq_false, fd_Mo_many_72, fd_Mo_many_73, S.all]
      refine am_call (rx_level0 (d := d + 5) S RR.ns RR.nl) (fun o g3 z => ?_)
      obtain ⟨rfl, rfl⟩ := z
      simp only [am_wp, am_stp, am_en, am_as, am_pad, am_nth, am_set, am_st1, am_st2, am_kl, am_kill, am_mem, am_fv, am_tk, am_wt, am_bk, Option.toList, List.cons_append, List.nil_append, Nat.reduceAdd, Nat.reduceEqDiff, Nat.reduceLeDiff, reduceIte, Nat.reduceLT, or_self, true_or, or_true, if_true, if_false, and_self, and_true, true_and, not_false_eq_true, not_true_eq_false]
      refine am_go [81, 87] 2 ?_
      simp only [am_wp, am_stp, am_en, am_as, am_pad, am_nth, am_set, am_st1, am_st2, am_kl, am_kill, am_mem, am_fv, am_tk, am_wt, am_bk, Option.toList, List.cons_append, List.nil_append, Nat.reduceAdd, Nat.reduceEqDiff, Nat.reduceLeDiff, reduceIte, Nat.reduceLT, or_self, true_or, or_true, if_true, if_false, and_self, and_true, true_and, not_false_eq_true, not_true_eq_false, fd_Mo_many_76, fd_Mo_many_78, S.all]
      refine wif ?_ (fl _ _ q)
      refine am_go [] 2 ?_
      simp only [am_wp, am_stp, am_en, am_as, am_pad, am_nth, am_set, am_st1, am_st2, am_kl, am_kill, am_mem, am_fv, am_tk, am_wt, am_bk, Option.toList, List.cons_append, List.nil_append, Nat.reduceAdd, Nat.reduceEqDiff, Nat.reduceLeDiff, reduceIte, Nat.reduceLT, or_self, true_or, or_true, if_true, if_false, and_self, and_true, true_and, not_false_eq_true, not_true_eq_false, fd_Mo_many_81, fd_Mo_many_82, S.all]
      refine am_call (rx_mergeNow (d := d) q.1 h3) (fun o g4 z => ?_)
      obtain ⟨⟨x, rfl⟩, q4⟩ := z
      have S4 := q4.1.1.1
      simp only [am_wp, am_stp, am_en, am_as, am_pad, am_nth, am_set, am_st1, am_st2, am_kl, am_kill, am_mem, am_fv, am_tk, am_wt, am_bk, Option.toList, List.cons_append, List.nil_append, Nat.reduceAdd, Nat.reduceEqDiff, Nat.reduceLeDiff, reduceIte, Nat.reduceLT, or_self, true_or, or_true, if_true, if_false, and_self, and_true, true_and, not_false_eq_true, not_true_eq_false]
      refine am_go [87] 1 ?_
      simp only [am_wp, am_stp, am_en, am_as, am_pad, am_nth, am_set, am_st1, am_st2, am_kl, am_kill, am_mem, am_fv, am_tk, am_wt, am_bk, Option.toList, List.cons_append, List.nil_append, Nat.reduceAdd, Nat.reduceEqDiff, Nat.reduceLeDiff, reduceIte, Nat.reduceLT, or_self, true_or, or_true, if_true, if_false, and_self, and_true, true_and, not_false_eq_true, not_true_eq_false, fd_Mo_many_85, S4.all]
      exact fl _ _ (q.trans q4)
theorem rx_many {d P : Nat} {kd n : Int32} {fr st : Int64} {h : am_H} (R : rI P h) : am_Rt nm_pr (d + 7) mi_Mo_many [.ref 72, .int kd, .int n, .long fr, .long st] h (fun o h' => iany o ∧ rq P h h') := by
  have hS := R.1.1
  have q0 := rq.refl R
  refine am_in' (d := d + 6) mt_Mo_many 11 rfl rfl rfl ?_
  have no : ∀ v : Int32, v ≠ 0 → am_Ex nm_pr (d + 6) mt_Mo_many (39, [.ref 72, .int kd, .int n, .long fr, .retAddr 0, .long st, .retAddr 0, .retAddr 0, .retAddr 0, .retAddr 0, .retAddr 0], [.int v, .ref 72], h) (fun o h' => iany o ∧ rq P h h') := fun v hv => by
    refine am_go [42] 1 ?_
    simp only [am_wp, am_stp, am_en, am_as, am_pad, am_nth, am_set, am_st1, am_st2, am_kl, am_kill, am_mem, am_fv, am_tk, am_wt, am_bk, Option.toList, List.cons_append, List.nil_append, Nat.reduceAdd, Nat.reduceEqDiff, Nat.reduceLeDiff, reduceIte, Nat.reduceLT, or_self, true_or, or_true, if_true, if_false, and_self, and_true, true_and, not_false_eq_true, not_true_eq_false, fd_Mo_many_39, hS.all]
    have q1 := q0.s (j := 0) (v := v) (by unfold rJ; omega)
    have e0 : am_I (am_sI h 72 0 v) 72 0 = v := by rw [hx_I_sI, if_pos rfl, if_pos rfl]
    generalize am_sI h 72 0 v = g at *
    have S1 := q1.1.1.1
    refine am_go [49, 51] 3 ?_
    simp only [am_wp, am_stp, am_en, am_as, am_pad, am_nth, am_set, am_st1, am_st2, am_kl, am_kill, am_mem, am_fv, am_tk, am_wt, am_bk, Option.toList, List.cons_append, List.nil_append, Nat.reduceAdd, Nat.reduceEqDiff, Nat.reduceLeDiff, reduceIte, Nat.reduceLT, or_self, true_or, or_true, if_true, if_false, and_self, and_true, true_and, not_false_eq_true, not_true_eq_false, fd_Mo_many_42, fd_Mo_many_43, fd_Mo_many_46, S1.all, e0, hv]
    refine am_go [] 2 ?_
    simp only [am_wp, am_stp, am_en, am_as, am_pad, am_nth, am_set, am_st1, am_st2, am_kl, am_kill, am_mem, am_fv, am_tk, am_wt, am_bk, Option.toList, List.cons_append, List.nil_append, Nat.reduceAdd, Nat.reduceEqDiff, Nat.reduceLeDiff, reduceIte, Nat.reduceLT, or_self, true_or, or_true, if_true, if_false, and_self, and_true, true_and, not_false_eq_true, not_true_eq_false, fd_Mo_many_49, fd_Mo_many_50, S1.all]
    exact ⟨⟨_, rfl⟩, q1⟩
  have bad : am_Ex nm_pr (d + 6) mt_Mo_many (34, [.ref 72, .int kd, .int n, .long fr, .retAddr 0, .long st, .retAddr 0, .retAddr 0, .retAddr 0, .retAddr 0, .retAddr 0], [.ref 72], h) (fun o h' => iany o ∧ rq P h h') := by
    refine am_go [39] 2 ?_
    simp only [am_wp, am_stp, am_en, am_as, am_pad, am_nth, am_set, am_st1, am_st2, am_kl, am_kill, am_mem, am_fv, am_tk, am_wt, am_bk, Option.toList, List.cons_append, List.nil_append, Nat.reduceAdd, Nat.reduceEqDiff, Nat.reduceLeDiff, reduceIte, Nat.reduceLT, or_self, true_or, or_true, if_true, if_false, and_self, and_true, true_and, not_false_eq_true, not_true_eq_false, fd_Mo_many_34, fd_Mo_many_35, hS.all]
    exact no 2 (by decide)
  by_cases e3 : am_I h 72 3 = 0
  · refine am_go [8, 12] 4 ?_
    simp only [am_wp, am_stp, am_en, am_as, am_pad, am_nth, am_set, am_st1, am_st2, am_kl, am_kill, am_mem, am_fv, am_tk, am_wt, am_bk, Option.toList, List.cons_append, List.nil_append, Nat.reduceAdd, Nat.reduceEqDiff, Nat.reduceLeDiff, reduceIte, Nat.reduceLT, or_self, true_or, or_true, if_true, if_false, and_self, and_true, true_and, not_false_eq_true, not_true_eq_false, fd_Mo_many_0, fd_Mo_many_1, fd_Mo_many_2, fd_Mo_many_5, hS.all, e3]
    by_cases a1 : kd < 1
    · refine am_go [17, 34] 3 ?_
      simp only [am_wp, am_stp, am_en, am_as, am_pad, am_nth, am_set, am_st1, am_st2, am_kl, am_kill, am_mem, am_fv, am_tk, am_wt, am_bk, Option.toList, List.cons_append, List.nil_append, Nat.reduceAdd, Nat.reduceEqDiff, Nat.reduceLeDiff, reduceIte, Nat.reduceLT, or_self, true_or, or_true, if_true, if_false, and_self, and_true, true_and, not_false_eq_true, not_true_eq_false, fd_Mo_many_12, fd_Mo_many_13, fd_Mo_many_14, hS.all, a1]
      exact bad
    refine am_go [17, 34] 3 ?_
    simp only [am_wp, am_stp, am_en, am_as, am_pad, am_nth, am_set, am_st1, am_st2, am_kl, am_kill, am_mem, am_fv, am_tk, am_wt, am_bk, Option.toList, List.cons_append, List.nil_append, Nat.reduceAdd, Nat.reduceEqDiff, Nat.reduceLeDiff, reduceIte, Nat.reduceLT, or_self, true_or, or_true, if_true, if_false, and_self, and_true, true_and, not_false_eq_true, not_true_eq_false, fd_Mo_many_12, fd_Mo_many_13, fd_Mo_many_14, hS.all, a1]
    by_cases a2 : 3 < kd
    · refine am_go [22, 34] 3 ?_
      simp only [am_wp, am_stp, am_en, am_as, am_pad, am_nth, am_set, am_st1, am_st2, am_kl, am_kill, am_mem, am_fv, am_tk, am_wt, am_bk, Option.toList, List.cons_append, List.nil_append, Nat.reduceAdd, Nat.reduceEqDiff, Nat.reduceLeDiff, reduceIte, Nat.reduceLT, or_self, true_or, or_true, if_true, if_false, and_self, and_true, true_and, not_false_eq_true, not_true_eq_false, fd_Mo_many_17, fd_Mo_many_18, fd_Mo_many_19, hS.all, a2]
      exact bad
    refine am_go [22, 34] 3 ?_
    simp only [am_wp, am_stp, am_en, am_as, am_pad, am_nth, am_set, am_st1, am_st2, am_kl, am_kill, am_mem, am_fv, am_tk, am_wt, am_bk, Option.toList, List.cons_append, List.nil_append, Nat.reduceAdd, Nat.reduceEqDiff, Nat.reduceLeDiff, reduceIte, Nat.reduceLT, or_self, true_or, or_true, if_true, if_false, and_self, and_true, true_and, not_false_eq_true, not_true_eq_false, fd_Mo_many_17, fd_Mo_many_18, fd_Mo_many_19, hS.all, a2]
    by_cases a3 : n < 1
    · refine am_go [27, 34] 3 ?_
      simp only [am_wp, am_stp, am_en, am_as, am_pad, am_nth, am_set, am_st1, am_st2, am_kl, am_kill, am_mem, am_fv, am_tk, am_wt, am_bk, Option.toList, List.cons_append, List.nil_append, Nat.reduceAdd, Nat.reduceEqDiff, Nat.reduceLeDiff, reduceIte, Nat.reduceLT, or_self, true_or, or_true, if_true, if_false, and_self, and_true, true_and, not_false_eq_true, not_true_eq_false, fd_Mo_many_22, fd_Mo_many_23, fd_Mo_many_24, hS.all, a3]
      exact bad
    refine am_go [27, 34] 3 ?_
    simp only [am_wp, am_stp, am_en, am_as, am_pad, am_nth, am_set, am_st1, am_st2, am_kl, am_kill, am_mem, am_fv, am_tk, am_wt, am_bk, Option.toList, List.cons_append, List.nil_append, Nat.reduceAdd, Nat.reduceEqDiff, Nat.reduceLeDiff, reduceIte, Nat.reduceLT, or_self, true_or, or_true, if_true, if_false, and_self, and_true, true_and, not_false_eq_true, not_true_eq_false, fd_Mo_many_22, fd_Mo_many_23, fd_Mo_many_24, hS.all, a3]
    by_cases a4 : 1000 < n
    · refine am_go [34, 38] 3 ?_
      simp only [am_wp, am_stp, am_en, am_as, am_pad, am_nth, am_set, am_st1, am_st2, am_kl, am_kill, am_mem, am_fv, am_tk, am_wt, am_bk, Option.toList, List.cons_append, List.nil_append, Nat.reduceAdd, Nat.reduceEqDiff, Nat.reduceLeDiff, reduceIte, Nat.reduceLT, or_self, true_or, or_true, if_true, if_false, and_self, and_true, true_and, not_false_eq_true, not_true_eq_false, fd_Mo_many_27, fd_Mo_many_28, fd_Mo_many_31, hS.all, a4]
      exact bad
    refine am_go [34, 38] 3 ?_
    simp only [am_wp, am_stp, am_en, am_as, am_pad, am_nth, am_set, am_st1, am_st2, am_kl, am_kill, am_mem, am_fv, am_tk, am_wt, am_bk, Option.toList, List.cons_append, List.nil_append, Nat.reduceAdd, Nat.reduceEqDiff, Nat.reduceLeDiff, reduceIte, Nat.reduceLT, or_self, true_or, or_true, if_true, if_false, and_self, and_true, true_and, not_false_eq_true, not_true_eq_false, fd_Mo_many_27, fd_Mo_many_28, fd_Mo_many_31, hS.all, a4]
    obtain ⟨N, rfl, n1, n2⟩ := nn_1000 a3 a4
    refine am_go [42] 2 ?_
    simp only [am_wp, am_stp, am_en, am_as, am_pad, am_nth, am_set, am_st1, am_st2, am_kl, am_kill, am_mem, am_fv, am_tk, am_wt, am_bk, Option.toList, List.cons_append, List.nil_append, Nat.reduceAdd, Nat.reduceEqDiff, Nat.reduceLeDiff, reduceIte, Nat.reduceLT, or_self, true_or, or_true, if_true, if_false, and_self, and_true, true_and, not_false_eq_true, not_true_eq_false, fd_Mo_many_38, fd_Mo_many_39, hS.all]
    have q1 := q0.s (j := 0) (v := 0) (by unfold rJ; omega)
    have e0 : am_I (am_sI h 72 0 0) 72 0 = 0 := by rw [hx_I_sI, if_pos rfl, if_pos rfl]
    have e3' : am_I (am_sI h 72 0 0) 72 3 = 0 := by rw [hx_I_sI, if_pos rfl, if_neg (by decide)]; exact e3
    generalize am_sI h 72 0 0 = g at *
    have S1 := q1.1.1.1
    refine am_go [49, 51] 3 ?_
    simp only [am_wp, am_stp, am_en, am_as, am_pad, am_nth, am_set, am_st1, am_st2, am_kl, am_kill, am_mem, am_fv, am_tk, am_wt, am_bk, Option.toList, List.cons_append, List.nil_append, Nat.reduceAdd, Nat.reduceEqDiff, Nat.reduceLeDiff, reduceIte, Nat.reduceLT, or_self, true_or, or_true, if_true, if_false, and_self, and_true, true_and, not_false_eq_true, not_true_eq_false, fd_Mo_many_42, fd_Mo_many_43, fd_Mo_many_46, S1.all, e0]
    refine am_go [57] 4 ?_
    simp only [am_wp, am_stp, am_en, am_as, am_pad, am_nth, am_set, am_st1, am_st2, am_kl, am_kill, am_mem, am_fv, am_tk, am_wt, am_bk, Option.toList, List.cons_append, List.nil_append, Nat.reduceAdd, Nat.reduceEqDiff, Nat.reduceLeDiff, reduceIte, Nat.reduceLT, or_self, true_or, or_true, if_true, if_false, and_self, and_true, true_and, not_false_eq_true, not_true_eq_false, fd_Mo_many_51, fd_Mo_many_52, fd_Mo_many_54, fd_Mo_many_55]
    exact rx_many_loop ((kd_123 kd).mp ⟨a1, a2⟩) n2 N 0 fr _ g (by omega) q1 e3'
  · refine am_go [8, 12] 4 ?_
    simp only [am_wp, am_stp, am_en, am_as, am_pad, am_nth, am_set, am_st1, am_st2, am_kl, am_kill, am_mem, am_fv, am_tk, am_wt, am_bk, Option.toList, List.cons_append, List.nil_append, Nat.reduceAdd, Nat.reduceEqDiff, Nat.reduceLeDiff, reduceIte, Nat.reduceLT, or_self, true_or, or_true, if_true, if_false, and_self, and_true, true_and, not_false_eq_true, not_true_eq_false, fd_Mo_many_0, fd_Mo_many_1, fd_Mo_many_2, fd_Mo_many_5, hS.all, e3]
    refine am_go [39] 2 ?_
    simp only [am_wp, am_stp, am_en, am_as, am_pad, am_nth, am_set, am_st1, am_st2, am_kl, am_kill, am_mem, am_fv, am_tk, am_wt, am_bk, Option.toList, List.cons_append, List.nil_append, Nat.reduceAdd, Nat.reduceEqDiff, Nat.reduceLeDiff, reduceIte, Nat.reduceLT, or_self, true_or, or_true, if_true, if_false, and_self, and_true, true_and, not_false_eq_true, not_true_eq_false, fd_Mo_many_8, fd_Mo_many_9, hS.all]
    exact no 1 (by decide)
theorem rx_flush {d P : Nat} {h : am_H} (R : rI P h) : am_Rt nm_pr (d + 7) mi_Mo_flush [.ref 72] h (fun o h' => iany o ∧ rq P h h') := by
  have hS := R.1.1
  have q0 := rq.refl R
  refine am_in' (d := d + 6) mt_Mo_flush 1 rfl rfl rfl ?_
  have go : ∀ v : Int32, am_Ex nm_pr (d + 6) mt_Mo_flush (13, [.ref 72], [.int v, .ref 72], h) (fun o h' => iany o ∧ rq P h h') := fun v => by
    refine am_go [16] 1 ?_
    simp only [am_wp, am_stp, am_en, am_as, am_pad, am_nth, am_set, am_st1, am_st2, am_kl, am_kill, am_mem, am_fv, am_tk, am_wt, am_bk, Option.toList, List.cons_append, List.nil_append, Nat.reduceAdd, Nat.reduceEqDiff, Nat.reduceLeDiff, reduceIte, Nat.reduceLT, or_self, true_or, or_true, if_true, if_false, and_self, and_true, true_and, not_false_eq_true, not_true_eq_false, fd_Mo_flush_13, hS.all]
    have q1 := q0.s (j := 0) (v := v) (by unfold rJ; omega)
    generalize am_sI h 72 0 v = g at *
    have S1 := q1.1.1.1
    by_cases e3 : am_I g 72 3 = 0
    · refine am_go [23, 27] 3 ?_
      simp only [am_wp, am_stp, am_en, am_as, am_pad, am_nth, am_set, am_st1, am_st2, am_kl, am_kill, am_mem, am_fv, am_tk, am_wt, am_bk, Option.toList, List.cons_append, List.nil_append, Nat.reduceAdd, Nat.reduceEqDiff, Nat.reduceLeDiff, reduceIte, Nat.reduceLT, or_self, true_or, or_true, if_true, if_false, and_self, and_true, true_and, not_false_eq_true, not_true_eq_false, fd_Mo_flush_16, fd_Mo_flush_17, fd_Mo_flush_20, S1.all, e3]
      refine am_go [] 2 ?_
      simp only [am_wp, am_stp, am_en, am_as, am_pad, am_nth, am_set, am_st1, am_st2, am_kl, am_kill, am_mem, am_fv, am_tk, am_wt, am_bk, Option.toList, List.cons_append, List.nil_append, Nat.reduceAdd, Nat.reduceEqDiff, Nat.reduceLeDiff, reduceIte, Nat.reduceLT, or_self, true_or, or_true, if_true, if_false, and_self, and_true, true_and, not_false_eq_true, not_true_eq_false, fd_Mo_flush_27, fd_Mo_flush_28, S1.all]
      refine am_call (rx_flushNow (d := d) q1.1 e3) (fun o g2 z => ?_)
      obtain ⟨⟨x, rfl⟩, q2⟩ := z
      simp only [am_wp, am_stp, am_en, am_as, am_pad, am_nth, am_set, am_st1, am_st2, am_kl, am_kill, am_mem, am_fv, am_tk, am_wt, am_bk, Option.toList, List.cons_append, List.nil_append, Nat.reduceAdd, Nat.reduceEqDiff, Nat.reduceLeDiff, reduceIte, Nat.reduceLT, or_self, true_or, or_true, if_true, if_false, and_self, and_true, true_and, not_false_eq_true, not_true_eq_false]
      refine am_go [] 1 ?_
      simp only [am_wp, am_stp, am_en, am_as, am_pad, am_nth, am_set, am_st1, am_st2, am_kl, am_kill, am_mem, am_fv, am_tk, am_wt, am_bk, Option.toList, List.cons_append, List.nil_append, Nat.reduceAdd, Nat.reduceEqDiff, Nat.reduceLeDiff, reduceIte, Nat.reduceLT, or_self, true_or, or_true, if_true, if_false, and_self, and_true, true_and, not_false_eq_true, not_true_eq_false, fd_Mo_flush_31]
      exact ⟨⟨_, rfl⟩, q1.trans q2⟩
    · refine am_go [23, 27] 3 ?_
      simp only [am_wp, am_stp, am_en, am_as, am_pad, am_nth, am_set, am_st1, am_st2, am_kl, am_kill, am_mem, am_fv, am_tk, am_wt, am_bk, Option.toList, List.cons_append, List.nil_append, Nat.reduceAdd, Nat.reduceEqDiff, Nat.reduceLeDiff, reduceIte, Nat.reduceLT, or_self, true_or, or_true, if_true, if_false, and_self, and_true, true_and, not_false_eq_true, not_true_eq_false, fd_Mo_flush_16, fd_Mo_flush_17, fd_Mo_flush_20, S1.all, e3]
      refine am_go [] 3 ?_
      simp only [am_wp, am_stp, am_en, am_as, am_pad, am_nth, am_set, am_st1, am_st2, am_kl, am_kill, am_mem, am_fv, am_tk, am_wt, am_bk, Option.toList, List.cons_append, List.nil_append, Nat.reduceAdd, Nat.reduceEqDiff, Nat.reduceLeDiff, reduceIte, Nat.reduceLT, or_self, true_or, or_true, if_true, if_false, and_self, and_true, true_and, not_false_eq_true, not_true_eq_false, fd_Mo_flush_23, fd_Mo_flush_24, fd_Mo_flush_31, S1.all]
      exact ⟨⟨_, rfl⟩, q1⟩
  refine am_go [8, 12] 4 ?_
  simp only [am_wp, am_stp, am_en, am_as, am_pad, am_nth, am_set, am_st1, am_st2, am_kl, am_kill, am_mem, am_fv, am_tk, am_wt, am_bk, Option.toList, List.cons_append, List.nil_append, Nat.reduceAdd, Nat.reduceEqDiff, Nat.reduceLeDiff, reduceIte, Nat.reduceLT, or_self, true_or, or_true, if_true, if_false, and_self, and_true, true_and, not_false_eq_true, not_true_eq_false, fd_Mo_flush_0, fd_Mo_flush_1, fd_Mo_flush_2, fd_Mo_flush_5, hS.all]
  refine wif ?_ ?_
  · refine am_go [13] 1 ?_
    simp only [am_wp, am_stp, am_en, am_as, am_pad, am_nth, am_set, am_st1, am_st2, am_kl, am_kill, am_mem, am_fv, am_tk, am_wt, am_bk, Option.toList, List.cons_append, List.nil_append, Nat.reduceAdd, Nat.reduceEqDiff, Nat.reduceLeDiff, reduceIte, Nat.reduceLT, or_self, true_or, or_true, if_true, if_false, and_self, and_true, true_and, not_false_eq_true, not_true_eq_false, fd_Mo_flush_12, hS.all]
    exact go _
  · refine am_go [13] 2 ?_
    simp only [am_wp, am_stp, am_en, am_as, am_pad, am_nth, am_set, am_st1, am_st2, am_kl, am_kill, am_mem, am_fv, am_tk, am_wt, am_bk, Option.toList, List.cons_append, List.nil_append, Nat.reduceAdd, Nat.reduceEqDiff, Nat.reduceLeDiff, reduceIte, Nat.reduceLT, or_self, true_or, or_true, if_true, if_false, and_self, and_true, true_and, not_false_eq_true, not_true_eq_false, fd_Mo_flush_8, fd_Mo_flush_9, hS.all]
    exact go _
theorem rx_merge {d P : Nat} {h : am_H} (R : rI P h) : am_Rt nm_pr (d + 7) mi_Mo_merge [.ref 72] h (fun o h' => iany o ∧ rq P h h') := by
  have hS := R.1.1
  have q0 := rq.refl R
  refine am_in' (d := d + 6) mt_Mo_merge 1 rfl rfl rfl ?_
  have go : ∀ v : Int32, am_Ex nm_pr (d + 6) mt_Mo_merge (13, [.ref 72], [.int v, .ref 72], h) (fun o h' => iany o ∧ rq P h h') := fun v => by
    refine am_go [16] 1 ?_
    simp only [am_wp, am_stp, am_en, am_as, am_pad, am_nth, am_set, am_st1, am_st2, am_kl, am_kill, am_mem, am_fv, am_tk, am_wt, am_bk, Option.toList, List.cons_append, List.nil_append, Nat.reduceAdd, Nat.reduceEqDiff, Nat.reduceLeDiff, reduceIte, Nat.reduceLT, or_self, true_or, or_true, if_true, if_false, and_self, and_true, true_and, not_false_eq_true, not_true_eq_false, fd_Mo_merge_13, hS.all]
    have q1 := q0.s (j := 0) (v := v) (by unfold rJ; omega)
    generalize am_sI h 72 0 v = g at *
    have S1 := q1.1.1.1
    by_cases e3 : am_I g 72 3 = 0
    · refine am_go [23, 27] 3 ?_
      simp only [am_wp, am_stp, am_en, am_as, am_pad, am_nth, am_set, am_st1, am_st2, am_kl, am_kill, am_mem, am_fv, am_tk, am_wt, am_bk, Option.toList, List.cons_append, List.nil_append, Nat.reduceAdd, Nat.reduceEqDiff, Nat.reduceLeDiff, reduceIte, Nat.reduceLT, or_self, true_or, or_true, if_true, if_false, and_self, and_true, true_and, not_false_eq_true, not_true_eq_false, fd_Mo_merge_16, fd_Mo_merge_17, fd_Mo_merge_20, S1.all, e3]
      refine am_go [] 2 ?_
      simp only [am_wp, am_stp, am_en, am_as, am_pad, am_nth, am_set, am_st1, am_st2, am_kl, am_kill, am_mem, am_fv, am_tk, am_wt, am_bk, Option.toList, List.cons_append, List.nil_append, Nat.reduceAdd, Nat.reduceEqDiff, Nat.reduceLeDiff, reduceIte, Nat.reduceLT, or_self, true_or, or_true, if_true, if_false, and_self, and_true, true_and, not_false_eq_true, not_true_eq_false, fd_Mo_merge_27, fd_Mo_merge_28, S1.all]
      refine am_call (rx_mergeNow (d := d) q1.1 e3) (fun o g2 z => ?_)
      obtain ⟨⟨x, rfl⟩, q2⟩ := z
      simp only [am_wp, am_stp, am_en, am_as, am_pad, am_nth, am_set, am_st1, am_st2, am_kl, am_kill, am_mem, am_fv, am_tk, am_wt, am_bk, Option.toList, List.cons_append, List.nil_append, Nat.reduceAdd, Nat.reduceEqDiff, Nat.reduceLeDiff, reduceIte, Nat.reduceLT, or_self, true_or, or_true, if_true, if_false, and_self, and_true, true_and, not_false_eq_true, not_true_eq_false]
      refine am_go [] 1 ?_
      simp only [am_wp, am_stp, am_en, am_as, am_pad, am_nth, am_set, am_st1, am_st2, am_kl, am_kill, am_mem, am_fv, am_tk, am_wt, am_bk, Option.toList, List.cons_append, List.nil_append, Nat.reduceAdd, Nat.reduceEqDiff, Nat.reduceLeDiff, reduceIte, Nat.reduceLT, or_self, true_or, or_true, if_true, if_false, and_self, and_true, true_and, not_false_eq_true, not_true_eq_false, fd_Mo_merge_31]
      exact ⟨⟨_, rfl⟩, q1.trans q2⟩
    · refine am_go [23, 27] 3 ?_
      simp only [am_wp, am_stp, am_en, am_as, am_pad, am_nth, am_set, am_st1, am_st2, am_kl, am_kill, am_mem, am_fv, am_tk, am_wt, am_bk, Option.toList, List.cons_append, List.nil_append, Nat.reduceAdd, Nat.reduceEqDiff, Nat.reduceLeDiff, reduceIte, Nat.reduceLT, or_self, true_or, or_true, if_true, if_false, and_self, and_true, true_and, not_false_eq_true, not_true_eq_false, fd_Mo_merge_16, fd_Mo_merge_17, fd_Mo_merge_20, S1.all, e3]
      refine am_go [] 3 ?_
      simp only [am_wp, am_stp, am_en, am_as, am_pad, am_nth, am_set, am_st1, am_st2, am_kl, am_kill, am_mem, am_fv, am_tk, am_wt, am_bk, Option.toList, List.cons_append, List.nil_append, Nat.reduceAdd, Nat.reduceEqDiff, Nat.reduceLeDiff, reduceIte, Nat.reduceLT, or_self, true_or, or_true, if_true, if_false, and_self, and_true, true_and, not_false_eq_true, not_true_eq_false, fd_Mo_merge_23, fd_Mo_merge_24, fd_Mo_merge_31, S1.all]
      exact ⟨⟨_, rfl⟩, q1⟩
  refine am_go [8, 12] 4 ?_
  simp only [am_wp, am_stp, am_en, am_as, am_pad, am_nth, am_set, am_st1, am_st2, am_kl, am_kill, am_mem, am_fv, am_tk, am_wt, am_bk, Option.toList, List.cons_append, List.nil_append, Nat.reduceAdd, Nat.reduceEqDiff, Nat.reduceLeDiff, reduceIte, Nat.reduceLT, or_self, true_or, or_true, if_true, if_false, and_self, and_true, true_and, not_false_eq_true, not_true_eq_false, fd_Mo_merge_0, fd_Mo_merge_1, fd_Mo_merge_2, fd_Mo_merge_5, hS.all]
  refine wif ?_ ?_
  · refine am_go [13] 1 ?_
    simp only [am_wp, am_stp, am_en, am_as, am_pad, am_nth, am_set, am_st1, am_st2, am_kl, am_kill, am_mem, am_fv, am_tk, am_wt, am_bk, Option.toList, List.cons_append, List.nil_append, Nat.reduceAdd, Nat.reduceEqDiff, Nat.reduceLeDiff, reduceIte, Nat.reduceLT, or_self, true_or, or_true, if_true, if_false, and_self, and_true, true_and, not_false_eq_true, not_true_eq_false, fd_Mo_merge_12, hS.all]
    exact go _
  · refine am_go [13] 2 ?_
    simp only [am_wp, am_stp, am_en, am_as, am_pad, am_nth, am_set, am_st1, am_st2, am_kl, am_kill, am_mem, am_fv, am_tk, am_wt, am_bk, Option.toList, List.cons_append, List.nil_append, Nat.reduceAdd, Nat.reduceEqDiff, Nat.reduceLeDiff, reduceIte, Nat.reduceLT, or_self, true_or, or_true, if_true, if_false, and_self, and_true, true_and, not_false_eq_true, not_true_eq_false, fd_Mo_merge_8, fd_Mo_merge_9, hS.all]
    exact go _
