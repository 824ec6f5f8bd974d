/-! THE REFERENCE: its constructor -/
def mo_mk (t : Nat) : am_H → List (Nat × Nat × Nat) → am_H
  | h, [] => h
  | h, q :: l => mo_mk t (am_mk h q.1 q.2.1 q.2.1 t q.2.2) l
def mo_l : List (Nat × Nat × Nat) := [(102, 131072, 2), (101, 64, 12), (100, 64, 13), (101, 64, 14), (100, 100, 15), (100, 100, 16), (100, 100, 17), (100, 100, 18), (100, 100, 19), (100, 102400, 20), (101, 102400, 21), (101, 100, 22), (101, 800, 23), (100, 9, 25), (103, 8, 26), (100, 8, 27), (100, 72, 28), (103, 1024, 29), (102, 128, 30), (101, 45000, 32), (100, 45000, 33), (101, 45000, 34), (101, 60, 36), (100, 60, 37), (101, 60, 38), (101, 45000, 39), (100, 45000, 40), (101, 45000, 41), (101, 45000, 42), (100, 45000, 43), (101, 45000, 44), (101, 200, 46), (101, 200, 47), (100, 8, 48), (100, 8, 49)]
section MO
variable {t : Nat}
theorem mo_nx : ∀ (l : List (Nat × Nat × Nat)) (h : am_H), am_nx (mo_mk t h l) = am_nx h + l.length
  | [], h => rfl
  | q :: l, h => by
    have ih := mo_nx l (am_mk h q.1 q.2.1 q.2.1 t q.2.2)
    show am_nx (mo_mk t (am_mk h q.1 q.2.1 q.2.1 t q.2.2) l) = _
    rw [ih, hx_nx_mk, List.length_cons]; omega
theorem mo_ce : ∀ (l : List (Nat × Nat × Nat)) (h : am_H), am_ce (mo_mk t h l) = am_ce h + l.length
  | [], h => rfl
  | q :: l, h => by
    have ih := mo_ce l (am_mk h q.1 q.2.1 q.2.1 t q.2.2)
    show am_ce (mo_mk t (am_mk h q.1 q.2.1 q.2.1 t q.2.2) l) = _
    rw [ih, List.length_cons]
    show am_ce h + 1 + l.length = _
    omega
theorem mo_sl : ∀ (l : List (Nat × Nat × Nat)) (h : am_H), am_sl (mo_mk t h l) = am_sl h + (l.map fun q => q.2.1).sum
  | [], h => rfl
  | q :: l, h => by
    have ih := mo_sl l (am_mk h q.1 q.2.1 q.2.1 t q.2.2)
    show am_sl (mo_mk t (am_mk h q.1 q.2.1 q.2.1 t q.2.2) l) = _
    rw [ih, List.map_cons, List.sum_cons]
    show am_sl h + q.2.1 + _ = _
    omega
theorem mo_xt : ∀ (l : List (Nat × Nat × Nat)) (h : am_H), am_xt [t] (am_nx h) h (mo_mk t h l)
  | [], h => am_xt.refl
  | q :: l, h => by
    have ih := mo_xt l (am_mk h q.1 q.2.1 q.2.1 t q.2.2)
    exact (am_xt.refl.mk (Nat.le_refl _) (Or.inl (by simp))).trans ih (by rw [hx_nx_mk]; omega)
theorem mo_own : ∀ (l : List (Nat × Nat × Nat)) (h : am_H), t < am_nx h → am_kd (mo_mk t h l) t = am_kd h t ∧ am_I (mo_mk t h l) t = am_I h t ∧ am_L (mo_mk t h l) t = am_L h t
  | [], h, _ => ⟨rfl, rfl, rfl⟩
  | q :: l, h, ht => by
    have ih := mo_own l (am_mk h q.1 q.2.1 q.2.1 t q.2.2) (by rw [hx_nx_mk]; omega)
    have hne : t ≠ am_nx h := by omega
    refine ⟨ih.1.trans (by rw [hx_kd_mk, if_neg hne]), ih.2.1.trans ?_, ih.2.2.trans ?_⟩
    · funext j; rw [hx_I_mk, if_neg hne]
    · funext j; rw [hx_L_mk, if_neg hne]
theorem mo_new : ∀ (l : List (Nat × Nat × Nat)) (h : am_H) (i : Nat) (q : Nat × Nat × Nat), t < am_nx h → l[i]? = some q → fr_C (mo_mk t h l) (am_nx h + i) q.1 q.2.1 (fun _ => 0)
  | [], h, i, q, _, hi => by simp at hi
  | a :: l, h, 0, q, ht, hi => by
    have e : a = q := by simpa using hi
    subst e
    have hx := mo_xt (t := t) l (am_mk h a.1 a.2.1 a.2.1 t a.2.2) (am_nx h) (by rw [hx_nx_mk]; omega) (by simp; omega)
    obtain ⟨x1, x2, x3, x4, x5⟩ := hx
    have hne : am_nx h ≠ t := by omega
    refine ⟨x1.trans (by rw [hx_kd_mk, if_pos rfl]), x2.trans (by rw [hx_ln_mk, if_pos rfl]), ⟨fun j => ?_, fun j => ?_⟩, ?_⟩
    · rw [Nat.add_zero]; show am_I (mo_mk t (am_mk h a.1 a.2.1 a.2.1 t a.2.2) l) (am_nx h) j = 0; rw [x3, hx_I_mk, if_pos rfl]
    · rw [Nat.add_zero]; show am_L (mo_mk t (am_mk h a.1 a.2.1 a.2.1 t a.2.2) l) (am_nx h) j = 0; rw [x4, hx_L_mk, if_pos rfl]
    · rw [Nat.add_zero]; show am_R (mo_mk t (am_mk h a.1 a.2.1 a.2.1 t a.2.2) l) (am_nx h) = _; rw [x5]; funext j; rw [hx_R_mk, if_neg hne, if_pos rfl]
  | a :: l, h, i + 1, q, ht, hi => by
    have ih := mo_new l (am_mk h a.1 a.2.1 a.2.1 t a.2.2) i q (by rw [hx_nx_mk]; omega) (by simpa using hi)
    rw [hx_nx_mk, show am_nx h + 1 + i = am_nx h + (i + 1) by omega] at ih
    exact ih
/-- which cell field j comes to hold -/
def mo_fd (j : Nat) : Nat → Nat → List (Nat × Nat × Nat) → Nat
  | r, _, [] => r
  | r, p, q :: l => mo_fd j (if j = q.2.2 then p else r) (p + 1) l
theorem mo_R {j : Nat} : ∀ (l : List (Nat × Nat × Nat)) (h : am_H), t < am_nx h → am_R (mo_mk t h l) t j = mo_fd j (am_R h t j) (am_nx h) l
  | [], h, _ => rfl
  | q :: l, h, ht => by
    have ih := mo_R (j := j) l (am_mk h q.1 q.2.1 q.2.1 t q.2.2) (by rw [hx_nx_mk]; omega)
    have hne : t ≠ am_nx h := by omega
    show am_R (mo_mk t (am_mk h q.1 q.2.1 q.2.1 t q.2.2) l) t j = _
    rw [ih, hx_R_mk, if_pos rfl, if_neg hne, hx_nx_mk]
    rfl
end MO
theorem mo_s0 {d : Nat} {x : Int32} {Q : am_O → am_H → Prop} {g : am_H} (hk : am_kd g 72 = 12) (hn : 72 < am_nx g) (hx : am_Ex nm_pr d mt_Mo_init (12, [.ref 72, .int x, .retAddr 0], [], am_mk g 102 131072 131072 72 2) Q) : am_Ex nm_pr d mt_Mo_init (4, [.ref 72, .int x, .retAddr 0], [], g) Q := by
  refine am_go [12] 4 ?_
  have c1 : ¬ ((131072 : Int32) < 0) := by decide
  have c2 : (131072 : Int32).toNatClampNeg = 131072 := by decide
  have hne : 72 ≠ am_nx g := by omega
  simp only [am_wp, am_stp, am_en, am_as, am_pad, am_nth, am_set, am_st1, am_st2, am_kl, am_kill, am_mem, am_fv, am_tk, am_wt, am_bk, Option.toList, List.cons_append, List.nil_append, Nat.reduceAdd, Nat.reduceEqDiff, Nat.reduceLeDiff, reduceIte, Nat.reduceLT, or_self, true_or, or_true, if_true, if_false, and_self, and_true, true_and, not_false_eq_true, not_true_eq_false, fd_Mo_init_4, fd_Mo_init_5, fd_Mo_init_7, fd_Mo_init_9, hx_nx_sI, hx_ce_sI, hx_sl_sI, hx_kd_sI, hx_ln_sI, hx_I_sI, hx_L_sI, hx_R_sI, hx_nx_sL, hx_ce_sL, hx_sl_sL, hx_kd_sL, hx_ln_sL, hx_I_sL, hx_L_sL, hx_R_sL, hx_nx_sR, hx_ce_sR, hx_sl_sR, hx_kd_sR, hx_ln_sR, hx_I_sR, hx_L_sR, hx_R_sR, hx_nx_al, hx_ce_al, hx_sl_al, hx_kd_al, hx_ln_al, hx_I_al, hx_L_al, hx_R_al, hx_nx_row, hx_ce_row, hx_sl_row, hx_kd_row, hx_ln_row, hx_I_row, hx_L_row, hx_R_row, hx_nx_mk, hx_kd_mk, hx_ln_mk, hx_I_mk, hx_L_mk, hx_R_mk, hk, c1, c2, hne]
  exact hx
theorem mo_s1 {d : Nat} {x : Int32} {Q : am_O → am_H → Prop} {g : am_H} (hk : am_kd g 72 = 12) (hn : 72 < am_nx g) (hx : am_Ex nm_pr d mt_Mo_init (20, [.ref 72, .int x, .retAddr 0], [], am_mk g 101 64 64 72 12) Q) : am_Ex nm_pr d mt_Mo_init (12, [.ref 72, .int x, .retAddr 0], [], g) Q := by
  refine am_go [20] 4 ?_
  have c1 : ¬ ((64 : Int32) < 0) := by decide
  have c2 : (64 : Int32).toNatClampNeg = 64 := by decide
  have hne : 72 ≠ am_nx g := by omega
  simp only [am_wp, am_stp, am_en, am_as, am_pad, am_nth, am_set, am_st1, am_st2, am_kl, am_kill, am_mem, am_fv, am_tk, am_wt, am_bk, Option.toList, List.cons_append, List.nil_append, Nat.reduceAdd, Nat.reduceEqDiff, Nat.reduceLeDiff, reduceIte, Nat.reduceLT, or_self, true_or, or_true, if_true, if_false, and_self, and_true, true_and, not_false_eq_true, not_true_eq_false, fd_Mo_init_12, fd_Mo_init_13, fd_Mo_init_15, fd_Mo_init_17, hx_nx_sI, hx_ce_sI, hx_sl_sI, hx_kd_sI, hx_ln_sI, hx_I_sI, hx_L_sI, hx_R_sI, hx_nx_sL, hx_ce_sL, hx_sl_sL, hx_kd_sL, hx_ln_sL, hx_I_sL, hx_L_sL, hx_R_sL, hx_nx_sR, hx_ce_sR, hx_sl_sR, hx_kd_sR, hx_ln_sR, hx_I_sR, hx_L_sR, hx_R_sR, hx_nx_al, hx_ce_al, hx_sl_al, hx_kd_al, hx_ln_al, hx_I_al, hx_L_al, hx_R_al, hx_nx_row, hx_ce_row, hx_sl_row, hx_kd_row, hx_ln_row, hx_I_row, hx_L_row, hx_R_row, hx_nx_mk, hx_kd_mk, hx_ln_mk, hx_I_mk, hx_L_mk, hx_R_mk, hk, c1, c2, hne]
  exact hx
theorem mo_s2 {d : Nat} {x : Int32} {Q : am_O → am_H → Prop} {g : am_H} (hk : am_kd g 72 = 12) (hn : 72 < am_nx g) (hx : am_Ex nm_pr d mt_Mo_init (28, [.ref 72, .int x, .retAddr 0], [], am_mk g 100 64 64 72 13) Q) : am_Ex nm_pr d mt_Mo_init (20, [.ref 72, .int x, .retAddr 0], [], g) Q := by
  refine am_go [28] 4 ?_
  have c1 : ¬ ((64 : Int32) < 0) := by decide
  have c2 : (64 : Int32).toNatClampNeg = 64 := by decide
  have hne : 72 ≠ am_nx g := by omega
  simp only [am_wp, am_stp, am_en, am_as, am_pad, am_nth, am_set, am_st1, am_st2, am_kl, am_kill, am_mem, am_fv, am_tk, am_wt, am_bk, Option.toList, List.cons_append, List.nil_append, Nat.reduceAdd, Nat.reduceEqDiff, Nat.reduceLeDiff, reduceIte, Nat.reduceLT, or_self, true_or, or_true, if_true, if_false, and_self, and_true, true_and, not_false_eq_true, not_true_eq_false, fd_Mo_init_20, fd_Mo_init_21, fd_Mo_init_23, fd_Mo_init_25, hx_nx_sI, hx_ce_sI, hx_sl_sI, hx_kd_sI, hx_ln_sI, hx_I_sI, hx_L_sI, hx_R_sI, hx_nx_sL, hx_ce_sL, hx_sl_sL, hx_kd_sL, hx_ln_sL, hx_I_sL, hx_L_sL, hx_R_sL, hx_nx_sR, hx_ce_sR, hx_sl_sR, hx_kd_sR, hx_ln_sR, hx_I_sR, hx_L_sR, hx_R_sR, hx_nx_al, hx_ce_al, hx_sl_al, hx_kd_al, hx_ln_al, hx_I_al, hx_L_al, hx_R_al, hx_nx_row, hx_ce_row, hx_sl_row, hx_kd_row, hx_ln_row, hx_I_row, hx_L_row, hx_R_row, hx_nx_mk, hx_kd_mk, hx_ln_mk, hx_I_mk, hx_L_mk, hx_R_mk, hk, c1, c2, hne]
  exact hx
theorem mo_s3 {d : Nat} {x : Int32} {Q : am_O → am_H → Prop} {g : am_H} (hk : am_kd g 72 = 12) (hn : 72 < am_nx g) (hx : am_Ex nm_pr d mt_Mo_init (36, [.ref 72, .int x, .retAddr 0], [], am_mk g 101 64 64 72 14) Q) : am_Ex nm_pr d mt_Mo_init (28, [.ref 72, .int x, .retAddr 0], [], g) Q := by
  refine am_go [36] 4 ?_
  have c1 : ¬ ((64 : Int32) < 0) := by decide
  have c2 : (64 : Int32).toNatClampNeg = 64 := by decide
  have hne : 72 ≠ am_nx g := by omega
  simp only [am_wp, am_stp, am_en, am_as, am_pad, am_nth, am_set, am_st1, am_st2, am_kl, am_kill, am_mem, am_fv, am_tk, am_wt, am_bk, Option.toList, List.cons_append, List.nil_append, Nat.reduceAdd, Nat.reduceEqDiff, Nat.reduceLeDiff, reduceIte, Nat.reduceLT, or_self, true_or, or_true, if_true, if_false, and_self, and_true, true_and, not_false_eq_true, not_true_eq_false, fd_Mo_init_28, fd_Mo_init_29, fd_Mo_init_31, fd_Mo_init_33, hx_nx_sI, hx_ce_sI, hx_sl_sI, hx_kd_sI, hx_ln_sI, hx_I_sI, hx_L_sI, hx_R_sI, hx_nx_sL, hx_ce_sL, hx_sl_sL, hx_kd_sL, hx_ln_sL, hx_I_sL, hx_L_sL, hx_R_sL, hx_nx_sR, hx_ce_sR, hx_sl_sR, hx_kd_sR, hx_ln_sR, hx_I_sR, hx_L_sR, hx_R_sR, hx_nx_al, hx_ce_al, hx_sl_al, hx_kd_al, hx_ln_al, hx_I_al, hx_L_al, hx_R_al, hx_nx_row, hx_ce_row, hx_sl_row, hx_kd_row, hx_ln_row, hx_I_row, hx_L_row, hx_R_row, hx_nx_mk, hx_kd_mk, hx_ln_mk, hx_I_mk, hx_L_mk, hx_R_mk, hk, c1, c2, hne]
  exact hx
theorem mo_s4 {d : Nat} {x : Int32} {Q : am_O → am_H → Prop} {g : am_H} (hk : am_kd g 72 = 12) (hn : 72 < am_nx g) (hx : am_Ex nm_pr d mt_Mo_init (44, [.ref 72, .int x, .retAddr 0], [], am_mk g 100 100 100 72 15) Q) : am_Ex nm_pr d mt_Mo_init (36, [.ref 72, .int x, .retAddr 0], [], g) Q := by
  refine am_go [44] 4 ?_
  have c1 : ¬ ((100 : Int32) < 0) := by decide
  have c2 : (100 : Int32).toNatClampNeg = 100 := by decide
  have hne : 72 ≠ am_nx g := by omega
  simp only [am_wp, am_stp, am_en, am_as, am_pad, am_nth, am_set, am_st1, am_st2, am_kl, am_kill, am_mem, am_fv, am_tk, am_wt, am_bk, Option.toList, List.cons_append, List.nil_append, Nat.reduceAdd, Nat.reduceEqDiff, Nat.reduceLeDiff, reduceIte, Nat.reduceLT, or_self, true_or, or_true, if_true, if_false, and_self, and_true, true_and, not_false_eq_true, not_true_eq_false, fd_Mo_init_36, fd_Mo_init_37, fd_Mo_init_39, fd_Mo_init_41, hx_nx_sI, hx_ce_sI, hx_sl_sI, hx_kd_sI, hx_ln_sI, hx_I_sI, hx_L_sI, hx_R_sI, hx_nx_sL, hx_ce_sL, hx_sl_sL, hx_kd_sL, hx_ln_sL, hx_I_sL, hx_L_sL, hx_R_sL, hx_nx_sR, hx_ce_sR, hx_sl_sR, hx_kd_sR, hx_ln_sR, hx_I_sR, hx_L_sR, hx_R_sR, hx_nx_al, hx_ce_al, hx_sl_al, hx_kd_al, hx_ln_al, hx_I_al, hx_L_al, hx_R_al, hx_nx_row, hx_ce_row, hx_sl_row, hx_kd_row, hx_ln_row, hx_I_row, hx_L_row, hx_R_row, hx_nx_mk, hx_kd_mk, hx_ln_mk, hx_I_mk, hx_L_mk, hx_R_mk, hk, c1, c2, hne]
  exact hx
theorem mo_s5 {d : Nat} {x : Int32} {Q : am_O → am_H → Prop} {g : am_H} (hk : am_kd g 72 = 12) (hn : 72 < am_nx g) (hx : am_Ex nm_pr d mt_Mo_init (52, [.ref 72, .int x, .retAddr 0], [], am_mk g 100 100 100 72 16) Q) : am_Ex nm_pr d mt_Mo_init (44, [.ref 72, .int x, .retAddr 0], [], g) Q := by
  refine am_go [52] 4 ?_
  have c1 : ¬ ((100 : Int32) < 0) := by decide
  have c2 : (100 : Int32).toNatClampNeg = 100 := by decide
  have hne : 72 ≠ am_nx g := by omega
  simp only [am_wp, am_stp, am_en, am_as, am_pad, am_nth, am_set, am_st1, am_st2, am_kl, am_kill, am_mem, am_fv, am_tk, am_wt, am_bk, Option.toList, List.cons_append, List.nil_append, Nat.reduceAdd, Nat.reduceEqDiff, Nat.reduceLeDiff, reduceIte, Nat.reduceLT, or_self, true_or, or_true, if_true, if_false, and_self, and_true, true_and, not_false_eq_true, not_true_eq_false, fd_Mo_init_44, fd_Mo_init_45, fd_Mo_init_47, fd_Mo_init_49, hx_nx_sI, hx_ce_sI, hx_sl_sI, hx_kd_sI, hx_ln_sI, hx_I_sI, hx_L_sI, hx_R_sI, hx_nx_sL, hx_ce_sL, hx_sl_sL, hx_kd_sL, hx_ln_sL, hx_I_sL, hx_L_sL, hx_R_sL, hx_nx_sR, hx_ce_sR, hx_sl_sR, hx_kd_sR, hx_ln_sR, hx_I_sR, hx_L_sR, hx_R_sR, hx_nx_al, hx_ce_al, hx_sl_al, hx_kd_al, hx_ln_al, hx_I_al, hx_L_al, hx_R_al, hx_nx_row, hx_ce_row, hx_sl_row, hx_kd_row, hx_ln_row, hx_I_row, hx_L_row, hx_R_row, hx_nx_mk, hx_kd_mk, hx_ln_mk, hx_I_mk, hx_L_mk, hx_R_mk, hk, c1, c2, hne]
  exact hx
theorem mo_s6 {d : Nat} {x : Int32} {Q : am_O → am_H → Prop} {g : am_H} (hk : am_kd g 72 = 12) (hn : 72 < am_nx g) (hx : am_Ex nm_pr d mt_Mo_init (60, [.ref 72, .int x, .retAddr 0], [], am_mk g 100 100 100 72 17) Q) : am_Ex nm_pr d mt_Mo_init (52, [.ref 72, .int x, .retAddr 0], [], g) Q := by
  refine am_go [60] 4 ?_
  have c1 : ¬ ((100 : Int32) < 0) := by decide
  have c2 : (100 : Int32).toNatClampNeg = 100 := by decide
  have hne : 72 ≠ am_nx g := by omega
  simp only [am_wp, am_stp, am_en, am_as, am_pad, am_nth, am_set, am_st1, am_st2, am_kl, am_kill, am_mem, am_fv, am_tk, am_wt, am_bk, Option.toList, List.cons_append, List.nil_append, Nat.reduceAdd, Nat.reduceEqDiff, Nat.reduceLeDiff, reduceIte, Nat.reduceLT, or_self, true_or, or_true, if_true, if_false, and_self, and_true, true_and, not_false_eq_true, not_true_eq_false, fd_Mo_init_52, fd_Mo_init_53, fd_Mo_init_55, fd_Mo_init_57, hx_nx_sI, hx_ce_sI, hx_sl_sI, hx_kd_sI, hx_ln_sI, hx_I_sI, hx_L_sI, hx_R_sI, hx_nx_sL, hx_ce_sL, hx_sl_sL, hx_kd_sL, hx_ln_sL, hx_I_sL, hx_L_sL, hx_R_sL, hx_nx_sR, hx_ce_sR, hx_sl_sR, hx_kd_sR, hx_ln_sR, hx_I_sR, hx_L_sR, hx_R_sR, hx_nx_al, hx_ce_al, hx_sl_al, hx_kd_al, hx_ln_al, hx_I_al, hx_L_al, hx_R_al, hx_nx_row, hx_ce_row, hx_sl_row, hx_kd_row, hx_ln_row, hx_I_row, hx_L_row, hx_R_row, hx_nx_mk, hx_kd_mk, hx_ln_mk, hx_I_mk, hx_L_mk, hx_R_mk, hk, c1, c2, hne]
  exact hx
theorem mo_s7 {d : Nat} {x : Int32} {Q : am_O → am_H → Prop} {g : am_H} (hk : am_kd g 72 = 12) (hn : 72 < am_nx g) (hx : am_Ex nm_pr d mt_Mo_init (68, [.ref 72, .int x, .retAddr 0], [], am_mk g 100 100 100 72 18) Q) : am_Ex nm_pr d mt_Mo_init (60, [.ref 72, .int x, .retAddr 0], [], g) Q := by
  refine am_go [68] 4 ?_
  have c1 : ¬ ((100 : Int32) < 0) := by decide
  have c2 : (100 : Int32).toNatClampNeg = 100 := by decide
  have hne : 72 ≠ am_nx g := by omega
  simp only [am_wp, am_stp, am_en, am_as, am_pad, am_nth, am_set, am_st1, am_st2, am_kl, am_kill, am_mem, am_fv, am_tk, am_wt, am_bk, Option.toList, List.cons_append, List.nil_append, Nat.reduceAdd, Nat.reduceEqDiff, Nat.reduceLeDiff, reduceIte, Nat.reduceLT, or_self, true_or, or_true, if_true, if_false, and_self, and_true, true_and, not_false_eq_true, not_true_eq_false, fd_Mo_init_60, fd_Mo_init_61, fd_Mo_init_63, fd_Mo_init_65, hx_nx_sI, hx_ce_sI, hx_sl_sI, hx_kd_sI, hx_ln_sI, hx_I_sI, hx_L_sI, hx_R_sI, hx_nx_sL, hx_ce_sL, hx_sl_sL, hx_kd_sL, hx_ln_sL, hx_I_sL, hx_L_sL, hx_R_sL, hx_nx_sR, hx_ce_sR, hx_sl_sR, hx_kd_sR, hx_ln_sR, hx_I_sR, hx_L_sR, hx_R_sR, hx_nx_al, hx_ce_al, hx_sl_al, hx_kd_al, hx_ln_al, hx_I_al, hx_L_al, hx_R_al, hx_nx_row, hx_ce_row, hx_sl_row, hx_kd_row, hx_ln_row, hx_I_row, hx_L_row, hx_R_row, hx_nx_mk, hx_kd_mk, hx_ln_mk, hx_I_mk, hx_L_mk, hx_R_mk, hk, c1, c2, hne]
  exact hx
theorem mo_s8 {d : Nat} {x : Int32} {Q : am_O → am_H → Prop} {g : am_H} (hk : am_kd g 72 = 12) (hn : 72 < am_nx g) (hx : am_Ex nm_pr d mt_Mo_init (76, [.ref 72, .int x, .retAddr 0], [], am_mk g 100 100 100 72 19) Q) : am_Ex nm_pr d mt_Mo_init (68, [.ref 72, .int x, .retAddr 0], [], g) Q := by
  refine am_go [76] 4 ?_
  have c1 : ¬ ((100 : Int32) < 0) := by decide
  have c2 : (100 : Int32).toNatClampNeg = 100 := by decide
  have hne : 72 ≠ am_nx g := by omega
  simp only [am_wp, am_stp, am_en, am_as, am_pad, am_nth, am_set, am_st1, am_st2, am_kl, am_kill, am_mem, am_fv, am_tk, am_wt, am_bk, Option.toList, List.cons_append, List.nil_append, Nat.reduceAdd, Nat.reduceEqDiff, Nat.reduceLeDiff, reduceIte, Nat.reduceLT, or_self, true_or, or_true, if_true, if_false, and_self, and_true, true_and, not_false_eq_true, not_true_eq_false, fd_Mo_init_68, fd_Mo_init_69, fd_Mo_init_71, fd_Mo_init_73, hx_nx_sI, hx_ce_sI, hx_sl_sI, hx_kd_sI, hx_ln_sI, hx_I_sI, hx_L_sI, hx_R_sI, hx_nx_sL, hx_ce_sL, hx_sl_sL, hx_kd_sL, hx_ln_sL, hx_I_sL, hx_L_sL, hx_R_sL, hx_nx_sR, hx_ce_sR, hx_sl_sR, hx_kd_sR, hx_ln_sR, hx_I_sR, hx_L_sR, hx_R_sR, hx_nx_al, hx_ce_al, hx_sl_al, hx_kd_al, hx_ln_al, hx_I_al, hx_L_al, hx_R_al, hx_nx_row, hx_ce_row, hx_sl_row, hx_kd_row, hx_ln_row, hx_I_row, hx_L_row, hx_R_row, hx_nx_mk, hx_kd_mk, hx_ln_mk, hx_I_mk, hx_L_mk, hx_R_mk, hk, c1, c2, hne]
  exact hx
theorem mo_s9 {d : Nat} {x : Int32} {Q : am_O → am_H → Prop} {g : am_H} (hk : am_kd g 72 = 12) (hn : 72 < am_nx g) (hx : am_Ex nm_pr d mt_Mo_init (84, [.ref 72, .int x, .retAddr 0], [], am_mk g 100 102400 102400 72 20) Q) : am_Ex nm_pr d mt_Mo_init (76, [.ref 72, .int x, .retAddr 0], [], g) Q := by
  refine am_go [84] 4 ?_
  have c1 : ¬ ((102400 : Int32) < 0) := by decide
  have c2 : (102400 : Int32).toNatClampNeg = 102400 := by decide
  have hne : 72 ≠ am_nx g := by omega
  simp only [am_wp, am_stp, am_en, am_as, am_pad, am_nth, am_set, am_st1, am_st2, am_kl, am_kill, am_mem, am_fv, am_tk, am_wt, am_bk, Option.toList, List.cons_append, List.nil_append, Nat.reduceAdd, Nat.reduceEqDiff, Nat.reduceLeDiff, reduceIte, Nat.reduceLT, or_self, true_or, or_true, if_true, if_false, and_self, and_true, true_and, not_false_eq_true, not_true_eq_false, fd_Mo_init_76, fd_Mo_init_77, fd_Mo_init_79, fd_Mo_init_81, hx_nx_sI, hx_ce_sI, hx_sl_sI, hx_kd_sI, hx_ln_sI, hx_I_sI, hx_L_sI, hx_R_sI, hx_nx_sL, hx_ce_sL, hx_sl_sL, hx_kd_sL, hx_ln_sL, hx_I_sL, hx_L_sL, hx_R_sL, hx_nx_sR, hx_ce_sR, hx_sl_sR, hx_kd_sR, hx_ln_sR, hx_I_sR, hx_L_sR, hx_R_sR, hx_nx_al, hx_ce_al, hx_sl_al, hx_kd_al, hx_ln_al, hx_I_al, hx_L_al, hx_R_al, hx_nx_row, hx_ce_row, hx_sl_row, hx_kd_row, hx_ln_row, hx_I_row, hx_L_row, hx_R_row, hx_nx_mk, hx_kd_mk, hx_ln_mk, hx_I_mk, hx_L_mk, hx_R_mk, hk, c1, c2, hne]
  exact hx
theorem mo_s10 {d : Nat} {x : Int32} {Q : am_O → am_H → Prop} {g : am_H} (hk : am_kd g 72 = 12) (hn : 72 < am_nx g) (hx : am_Ex nm_pr d mt_Mo_init (92, [.ref 72, .int x, .retAddr 0], [], am_mk g 101 102400 102400 72 21) Q) : am_Ex nm_pr d mt_Mo_init (84, [.ref 72, .int x, .retAddr 0], [], g) Q := by
  refine am_go [92] 4 ?_
  have c1 : ¬ ((102400 : Int32) < 0) := by decide
  have c2 : (102400 : Int32).toNatClampNeg = 102400 := by decide
  have hne : 72 ≠ am_nx g := by omega
  simp only [am_wp, am_stp, am_en, am_as, am_pad, am_nth, am_set, am_st1, am_st2, am_kl, am_kill, am_mem, am_fv, am_tk, am_wt, am_bk, Option.toList, List.cons_append, List.nil_append, Nat.reduceAdd, Nat.reduceEqDiff, Nat.reduceLeDiff, reduceIte, Nat.reduceLT, or_self, true_or, or_true, if_true, if_false, and_self, and_true, true_and, not_false_eq_true, not_true_eq_false, fd_Mo_init_84, fd_Mo_init_85, fd_Mo_init_87, fd_Mo_init_89, hx_nx_sI, hx_ce_sI, hx_sl_sI, hx_kd_sI, hx_ln_sI, hx_I_sI, hx_L_sI, hx_R_sI, hx_nx_sL, hx_ce_sL, hx_sl_sL, hx_kd_sL, hx_ln_sL, hx_I_sL, hx_L_sL, hx_R_sL, hx_nx_sR, hx_ce_sR, hx_sl_sR, hx_kd_sR, hx_ln_sR, hx_I_sR, hx_L_sR, hx_R_sR, hx_nx_al, hx_ce_al, hx_sl_al, hx_kd_al, hx_ln_al, hx_I_al, hx_L_al, hx_R_al, hx_nx_row, hx_ce_row, hx_sl_row, hx_kd_row, hx_ln_row, hx_I_row, hx_L_row, hx_R_row, hx_nx_mk, hx_kd_mk, hx_ln_mk, hx_I_mk, hx_L_mk, hx_R_mk, hk, c1, c2, hne]
  exact hx
theorem mo_s11 {d : Nat} {x : Int32} {Q : am_O → am_H → Prop} {g : am_H} (hk : am_kd g 72 = 12) (hn : 72 < am_nx g) (hx : am_Ex nm_pr d mt_Mo_init (100, [.ref 72, .int x, .retAddr 0], [], am_mk g 101 100 100 72 22) Q) : am_Ex nm_pr d mt_Mo_init (92, [.ref 72, .int x, .retAddr 0], [], g) Q := by
  refine am_go [100] 4 ?_
  have c1 : ¬ ((100 : Int32) < 0) := by decide
  have c2 : (100 : Int32).toNatClampNeg = 100 := by decide
  have hne : 72 ≠ am_nx g := by omega
  simp only [am_wp, am_stp, am_en, am_as, am_pad, am_nth, am_set, am_st1, am_st2, am_kl, am_kill, am_mem, am_fv, am_tk, am_wt, am_bk, Option.toList, List.cons_append, List.nil_append, Nat.reduceAdd, Nat.reduceEqDiff, Nat.reduceLeDiff, reduceIte, Nat.reduceLT, or_self, true_or, or_true, if_true, if_false, and_self, and_true, true_and, not_false_eq_true, not_true_eq_false, fd_Mo_init_92, fd_Mo_init_93, fd_Mo_init_95, fd_Mo_init_97, hx_nx_sI, hx_ce_sI, hx_sl_sI, hx_kd_sI, hx_ln_sI, hx_I_sI, hx_L_sI, hx_R_sI, hx_nx_sL, hx_ce_sL, hx_sl_sL, hx_kd_sL, hx_ln_sL, hx_I_sL, hx_L_sL, hx_R_sL, hx_nx_sR, hx_ce_sR, hx_sl_sR, hx_kd_sR, hx_ln_sR, hx_I_sR, hx_L_sR, hx_R_sR, hx_nx_al, hx_ce_al, hx_sl_al, hx_kd_al, hx_ln_al, hx_I_al, hx_L_al, hx_R_al, hx_nx_row, hx_ce_row, hx_sl_row, hx_kd_row, hx_ln_row, hx_I_row, hx_L_row, hx_R_row, hx_nx_mk, hx_kd_mk, hx_ln_mk, hx_I_mk, hx_L_mk, hx_R_mk, hk, c1, c2, hne]
  exact hx
theorem mo_s12 {d : Nat} {x : Int32} {Q : am_O → am_H → Prop} {g : am_H} (hk : am_kd g 72 = 12) (hn : 72 < am_nx g) (hx : am_Ex nm_pr d mt_Mo_init (109, [.ref 72, .int x, .retAddr 0], [], am_mk g 101 800 800 72 23) Q) : am_Ex nm_pr d mt_Mo_init (100, [.ref 72, .int x, .retAddr 0], [], g) Q := by
  refine am_go [109] 4 ?_
  have c1 : ¬ ((800 : Int32) < 0) := by decide
  have c2 : (800 : Int32).toNatClampNeg = 800 := by decide
  have hne : 72 ≠ am_nx g := by omega
  simp only [am_wp, am_stp, am_en, am_as, am_pad, am_nth, am_set, am_st1, am_st2, am_kl, am_kill, am_mem, am_fv, am_tk, am_wt, am_bk, Option.toList, List.cons_append, List.nil_append, Nat.reduceAdd, Nat.reduceEqDiff, Nat.reduceLeDiff, reduceIte, Nat.reduceLT, or_self, true_or, or_true, if_true, if_false, and_self, and_true, true_and, not_false_eq_true, not_true_eq_false, fd_Mo_init_100, fd_Mo_init_101, fd_Mo_init_104, fd_Mo_init_106, hx_nx_sI, hx_ce_sI, hx_sl_sI, hx_kd_sI, hx_ln_sI, hx_I_sI, hx_L_sI, hx_R_sI, hx_nx_sL, hx_ce_sL, hx_sl_sL, hx_kd_sL, hx_ln_sL, hx_I_sL, hx_L_sL, hx_R_sL, hx_nx_sR, hx_ce_sR, hx_sl_sR, hx_kd_sR, hx_ln_sR, hx_I_sR, hx_L_sR, hx_R_sR, hx_nx_al, hx_ce_al, hx_sl_al, hx_kd_al, hx_ln_al, hx_I_al, hx_L_al, hx_R_al, hx_nx_row, hx_ce_row, hx_sl_row, hx_kd_row, hx_ln_row, hx_I_row, hx_L_row, hx_R_row, hx_nx_mk, hx_kd_mk, hx_ln_mk, hx_I_mk, hx_L_mk, hx_R_mk, hk, c1, c2, hne]
  exact hx
theorem mo_s13 {d : Nat} {x : Int32} {Q : am_O → am_H → Prop} {g : am_H} (hk : am_kd g 72 = 12) (hn : 72 < am_nx g) (hx : am_Ex nm_pr d mt_Mo_init (117, [.ref 72, .int x, .retAddr 0], [], am_mk g 100 9 9 72 25) Q) : am_Ex nm_pr d mt_Mo_init (109, [.ref 72, .int x, .retAddr 0], [], g) Q := by
  refine am_go [117] 4 ?_
  have c1 : ¬ ((9 : Int32) < 0) := by decide
  have c2 : (9 : Int32).toNatClampNeg = 9 := by decide
  have hne : 72 ≠ am_nx g := by omega
  simp only [am_wp, am_stp, am_en, am_as, am_pad, am_nth, am_set, am_st1, am_st2, am_kl, am_kill, am_mem, am_fv, am_tk, am_wt, am_bk, Option.toList, List.cons_append, List.nil_append, Nat.reduceAdd, Nat.reduceEqDiff, Nat.reduceLeDiff, reduceIte, Nat.reduceLT, or_self, true_or, or_true, if_true, if_false, and_self, and_true, true_and, not_false_eq_true, not_true_eq_false, fd_Mo_init_109, fd_Mo_init_110, fd_Mo_init_112, fd_Mo_init_114, hx_nx_sI, hx_ce_sI, hx_sl_sI, hx_kd_sI, hx_ln_sI, hx_I_sI, hx_L_sI, hx_R_sI, hx_nx_sL, hx_ce_sL, hx_sl_sL, hx_kd_sL, hx_ln_sL, hx_I_sL, hx_L_sL, hx_R_sL, hx_nx_sR, hx_ce_sR, hx_sl_sR, hx_kd_sR, hx_ln_sR, hx_I_sR, hx_L_sR, hx_R_sR, hx_nx_al, hx_ce_al, hx_sl_al, hx_kd_al, hx_ln_al, hx_I_al, hx_L_al, hx_R_al, hx_nx_row, hx_ce_row, hx_sl_row, hx_kd_row, hx_ln_row, hx_I_row, hx_L_row, hx_R_row, hx_nx_mk, hx_kd_mk, hx_ln_mk, hx_I_mk, hx_L_mk, hx_R_mk, hk, c1, c2, hne]
  exact hx
theorem mo_s14 {d : Nat} {x : Int32} {Q : am_O → am_H → Prop} {g : am_H} (hk : am_kd g 72 = 12) (hn : 72 < am_nx g) (hx : am_Ex nm_pr d mt_Mo_init (125, [.ref 72, .int x, .retAddr 0], [], am_mk g 103 8 8 72 26) Q) : am_Ex nm_pr d mt_Mo_init (117, [.ref 72, .int x, .retAddr 0], [], g) Q := by
  refine am_go [125] 4 ?_
  have c1 : ¬ ((8 : Int32) < 0) := by decide
  have c2 : (8 : Int32).toNatClampNeg = 8 := by decide
  have hne : 72 ≠ am_nx g := by omega
  simp only [am_wp, am_stp, am_en, am_as, am_pad, am_nth, am_set, am_st1, am_st2, am_kl, am_kill, am_mem, am_fv, am_tk, am_wt, am_bk, Option.toList, List.cons_append, List.nil_append, Nat.reduceAdd, Nat.reduceEqDiff, Nat.reduceLeDiff, reduceIte, Nat.reduceLT, or_self, true_or, or_true, if_true, if_false, and_self, and_true, true_and, not_false_eq_true, not_true_eq_false, fd_Mo_init_117, fd_Mo_init_118, fd_Mo_init_120, fd_Mo_init_122, hx_nx_sI, hx_ce_sI, hx_sl_sI, hx_kd_sI, hx_ln_sI, hx_I_sI, hx_L_sI, hx_R_sI, hx_nx_sL, hx_ce_sL, hx_sl_sL, hx_kd_sL, hx_ln_sL, hx_I_sL, hx_L_sL, hx_R_sL, hx_nx_sR, hx_ce_sR, hx_sl_sR, hx_kd_sR, hx_ln_sR, hx_I_sR, hx_L_sR, hx_R_sR, hx_nx_al, hx_ce_al, hx_sl_al, hx_kd_al, hx_ln_al, hx_I_al, hx_L_al, hx_R_al, hx_nx_row, hx_ce_row, hx_sl_row, hx_kd_row, hx_ln_row, hx_I_row, hx_L_row, hx_R_row, hx_nx_mk, hx_kd_mk, hx_ln_mk, hx_I_mk, hx_L_mk, hx_R_mk, hk, c1, c2, hne]
  exact hx
theorem mo_s15 {d : Nat} {x : Int32} {Q : am_O → am_H → Prop} {g : am_H} (hk : am_kd g 72 = 12) (hn : 72 < am_nx g) (hx : am_Ex nm_pr d mt_Mo_init (133, [.ref 72, .int x, .retAddr 0], [], am_mk g 100 8 8 72 27) Q) : am_Ex nm_pr d mt_Mo_init (125, [.ref 72, .int x, .retAddr 0], [], g) Q := by
  refine am_go [133] 4 ?_
  have c1 : ¬ ((8 : Int32) < 0) := by decide
  have c2 : (8 : Int32).toNatClampNeg = 8 := by decide
  have hne : 72 ≠ am_nx g := by omega
  simp only [am_wp, am_stp, am_en, am_as, am_pad, am_nth, am_set, am_st1, am_st2, am_kl, am_kill, am_mem, am_fv, am_tk, am_wt, am_bk, Option.toList, List.cons_append, List.nil_append, Nat.reduceAdd, Nat.reduceEqDiff, Nat.reduceLeDiff, reduceIte, Nat.reduceLT, or_self, true_or, or_true, if_true, if_false, and_self, and_true, true_and, not_false_eq_true, not_true_eq_false, fd_Mo_init_125, fd_Mo_init_126, fd_Mo_init_128, fd_Mo_init_130, hx_nx_sI, hx_ce_sI, hx_sl_sI, hx_kd_sI, hx_ln_sI, hx_I_sI, hx_L_sI, hx_R_sI, hx_nx_sL, hx_ce_sL, hx_sl_sL, hx_kd_sL, hx_ln_sL, hx_I_sL, hx_L_sL, hx_R_sL, hx_nx_sR, hx_ce_sR, hx_sl_sR, hx_kd_sR, hx_ln_sR, hx_I_sR, hx_L_sR, hx_R_sR, hx_nx_al, hx_ce_al, hx_sl_al, hx_kd_al, hx_ln_al, hx_I_al, hx_L_al, hx_R_al, hx_nx_row, hx_ce_row, hx_sl_row, hx_kd_row, hx_ln_row, hx_I_row, hx_L_row, hx_R_row, hx_nx_mk, hx_kd_mk, hx_ln_mk, hx_I_mk, hx_L_mk, hx_R_mk, hk, c1, c2, hne]
  exact hx
theorem mo_s16 {d : Nat} {x : Int32} {Q : am_O → am_H → Prop} {g : am_H} (hk : am_kd g 72 = 12) (hn : 72 < am_nx g) (hx : am_Ex nm_pr d mt_Mo_init (141, [.ref 72, .int x, .retAddr 0], [], am_mk g 100 72 72 72 28) Q) : am_Ex nm_pr d mt_Mo_init (133, [.ref 72, .int x, .retAddr 0], [], g) Q := by
  refine am_go [141] 4 ?_
  have c1 : ¬ ((72 : Int32) < 0) := by decide
  have c2 : (72 : Int32).toNatClampNeg = 72 := by decide
  have hne : 72 ≠ am_nx g := by omega
  simp only [am_wp, am_stp, am_en, am_as, am_pad, am_nth, am_set, am_st1, am_st2, am_kl, am_kill, am_mem, am_fv, am_tk, am_wt, am_bk, Option.toList, List.cons_append, List.nil_append, Nat.reduceAdd, Nat.reduceEqDiff, Nat.reduceLeDiff, reduceIte, Nat.reduceLT, or_self, true_or, or_true, if_true, if_false, and_self, and_true, true_and, not_false_eq_true, not_true_eq_false, fd_Mo_init_133, fd_Mo_init_134, fd_Mo_init_136, fd_Mo_init_138, hx_nx_sI, hx_ce_sI, hx_sl_sI, hx_kd_sI, hx_ln_sI, hx_I_sI, hx_L_sI, hx_R_sI, hx_nx_sL, hx_ce_sL, hx_sl_sL, hx_kd_sL, hx_ln_sL, hx_I_sL, hx_L_sL, hx_R_sL, hx_nx_sR, hx_ce_sR, hx_sl_sR, hx_kd_sR, hx_ln_sR, hx_I_sR, hx_L_sR, hx_R_sR, hx_nx_al, hx_ce_al, hx_sl_al, hx_kd_al, hx_ln_al, hx_I_al, hx_L_al, hx_R_al, hx_nx_row, hx_ce_row, hx_sl_row, hx_kd_row, hx_ln_row, hx_I_row, hx_L_row, hx_R_row, hx_nx_mk, hx_kd_mk, hx_ln_mk, hx_I_mk, hx_L_mk, hx_R_mk, hk, c1, c2, hne]
  exact hx
theorem mo_s17 {d : Nat} {x : Int32} {Q : am_O → am_H → Prop} {g : am_H} (hk : am_kd g 72 = 12) (hn : 72 < am_nx g) (hx : am_Ex nm_pr d mt_Mo_init (150, [.ref 72, .int x, .retAddr 0], [], am_mk g 103 1024 1024 72 29) Q) : am_Ex nm_pr d mt_Mo_init (141, [.ref 72, .int x, .retAddr 0], [], g) Q := by
  refine am_go [150] 4 ?_
  have c1 : ¬ ((1024 : Int32) < 0) := by decide
  have c2 : (1024 : Int32).toNatClampNeg = 1024 := by decide
  have hne : 72 ≠ am_nx g := by omega
  simp only [am_wp, am_stp, am_en, am_as, am_pad, am_nth, am_set, am_st1, am_st2, am_kl, am_kill, am_mem, am_fv, am_tk, am_wt, am_bk, Option.toList, List.cons_append, List.nil_append, Nat.reduceAdd, Nat.reduceEqDiff, Nat.reduceLeDiff, reduceIte, Nat.reduceLT, or_self, true_or, or_true, if_true, if_false, and_self, and_true, true_and, not_false_eq_true, not_true_eq_false, fd_Mo_init_141, fd_Mo_init_142, fd_Mo_init_145, fd_Mo_init_147, hx_nx_sI, hx_ce_sI, hx_sl_sI, hx_kd_sI, hx_ln_sI, hx_I_sI, hx_L_sI, hx_R_sI, hx_nx_sL, hx_ce_sL, hx_sl_sL, hx_kd_sL, hx_ln_sL, hx_I_sL, hx_L_sL, hx_R_sL, hx_nx_sR, hx_ce_sR, hx_sl_sR, hx_kd_sR, hx_ln_sR, hx_I_sR, hx_L_sR, hx_R_sR, hx_nx_al, hx_ce_al, hx_sl_al, hx_kd_al, hx_ln_al, hx_I_al, hx_L_al, hx_R_al, hx_nx_row, hx_ce_row, hx_sl_row, hx_kd_row, hx_ln_row, hx_I_row, hx_L_row, hx_R_row, hx_nx_mk, hx_kd_mk, hx_ln_mk, hx_I_mk, hx_L_mk, hx_R_mk, hk, c1, c2, hne]
  exact hx
theorem mo_s18 {d : Nat} {x : Int32} {Q : am_O → am_H → Prop} {g : am_H} (hk : am_kd g 72 = 12) (hn : 72 < am_nx g) (hx : am_Ex nm_pr d mt_Mo_init (159, [.ref 72, .int x, .retAddr 0], [], am_mk g 102 128 128 72 30) Q) : am_Ex nm_pr d mt_Mo_init (150, [.ref 72, .int x, .retAddr 0], [], g) Q := by
  refine am_go [159] 4 ?_
  have c1 : ¬ ((128 : Int32) < 0) := by decide
  have c2 : (128 : Int32).toNatClampNeg = 128 := by decide
  have hne : 72 ≠ am_nx g := by omega
  simp only [am_wp, am_stp, am_en, am_as, am_pad, am_nth, am_set, am_st1, am_st2, am_kl, am_kill, am_mem, am_fv, am_tk, am_wt, am_bk, Option.toList, List.cons_append, List.nil_append, Nat.reduceAdd, Nat.reduceEqDiff, Nat.reduceLeDiff, reduceIte, Nat.reduceLT, or_self, true_or, or_true, if_true, if_false, and_self, and_true, true_and, not_false_eq_true, not_true_eq_false, fd_Mo_init_150, fd_Mo_init_151, fd_Mo_init_154, fd_Mo_init_156, hx_nx_sI, hx_ce_sI, hx_sl_sI, hx_kd_sI, hx_ln_sI, hx_I_sI, hx_L_sI, hx_R_sI, hx_nx_sL, hx_ce_sL, hx_sl_sL, hx_kd_sL, hx_ln_sL, hx_I_sL, hx_L_sL, hx_R_sL, hx_nx_sR, hx_ce_sR, hx_sl_sR, hx_kd_sR, hx_ln_sR, hx_I_sR, hx_L_sR, hx_R_sR, hx_nx_al, hx_ce_al, hx_sl_al, hx_kd_al, hx_ln_al, hx_I_al, hx_L_al, hx_R_al, hx_nx_row, hx_ce_row, hx_sl_row, hx_kd_row, hx_ln_row, hx_I_row, hx_L_row, hx_R_row, hx_nx_mk, hx_kd_mk, hx_ln_mk, hx_I_mk, hx_L_mk, hx_R_mk, hk, c1, c2, hne]
  exact hx
theorem mo_s19 {d : Nat} {x : Int32} {Q : am_O → am_H → Prop} {g : am_H} (hk : am_kd g 72 = 12) (hn : 72 < am_nx g) (hx : am_Ex nm_pr d mt_Mo_init (167, [.ref 72, .int x, .retAddr 0], [], am_mk g 101 45000 45000 72 32) Q) : am_Ex nm_pr d mt_Mo_init (159, [.ref 72, .int x, .retAddr 0], [], g) Q := by
  refine am_go [167] 4 ?_
  have c1 : ¬ ((45000 : Int32) < 0) := by decide
  have c2 : (45000 : Int32).toNatClampNeg = 45000 := by decide
  have hne : 72 ≠ am_nx g := by omega
  simp only [am_wp, am_stp, am_en, am_as, am_pad, am_nth, am_set, am_st1, am_st2, am_kl, am_kill, am_mem, am_fv, am_tk, am_wt, am_bk, Option.toList, List.cons_append, List.nil_append, Nat.reduceAdd, Nat.reduceEqDiff, Nat.reduceLeDiff, reduceIte, Nat.reduceLT, or_self, true_or, or_true, if_true, if_false, and_self, and_true, true_and, not_false_eq_true, not_true_eq_false, fd_Mo_init_159, fd_Mo_init_160, fd_Mo_init_162, fd_Mo_init_164, hx_nx_sI, hx_ce_sI, hx_sl_sI, hx_kd_sI, hx_ln_sI, hx_I_sI, hx_L_sI, hx_R_sI, hx_nx_sL, hx_ce_sL, hx_sl_sL, hx_kd_sL, hx_ln_sL, hx_I_sL, hx_L_sL, hx_R_sL, hx_nx_sR, hx_ce_sR, hx_sl_sR, hx_kd_sR, hx_ln_sR, hx_I_sR, hx_L_sR, hx_R_sR, hx_nx_al, hx_ce_al, hx_sl_al, hx_kd_al, hx_ln_al, hx_I_al, hx_L_al, hx_R_al, hx_nx_row, hx_ce_row, hx_sl_row, hx_kd_row, hx_ln_row, hx_I_row, hx_L_row, hx_R_row, hx_nx_mk, hx_kd_mk, hx_ln_mk, hx_I_mk, hx_L_mk, hx_R_mk, hk, c1, c2, hne]
  exact hx
theorem mo_s20 {d : Nat} {x : Int32} {Q : am_O → am_H → Prop} {g : am_H} (hk : am_kd g 72 = 12) (hn : 72 < am_nx g) (hx : am_Ex nm_pr d mt_Mo_init (175, [.ref 72, .int x, .retAddr 0], [], am_mk g 100 45000 45000 72 33) Q) : am_Ex nm_pr d mt_Mo_init (167, [.ref 72, .int x, .retAddr 0], [], g) Q := by
  refine am_go [175] 4 ?_
  have c1 : ¬ ((45000 : Int32) < 0) := by decide
  have c2 : (45000 : Int32).toNatClampNeg = 45000 := by decide
  have hne : 72 ≠ am_nx g := by omega
  simp only [am_wp, am_stp, am_en, am_as, am_pad, am_nth, am_set, am_st1, am_st2, am_kl, am_kill, am_mem, am_fv, am_tk, am_wt, am_bk, Option.toList, List.cons_append, List.nil_append, Nat.reduceAdd, Nat.reduceEqDiff, Nat.reduceLeDiff, reduceIte, Nat.reduceLT, or_self, true_or, or_true, if_true, if_false, and_self, and_true, true_and, not_false_eq_true, not_true_eq_false, fd_Mo_init_167, fd_Mo_init_168, fd_Mo_init_170, fd_Mo_init_172, hx_nx_sI, hx_ce_sI, hx_sl_sI, hx_kd_sI, hx_ln_sI, hx_I_sI, hx_L_sI, hx_R_sI, hx_nx_sL, hx_ce_sL, hx_sl_sL, hx_kd_sL, hx_ln_sL, hx_I_sL, hx_L_sL, hx_R_sL, hx_nx_sR, hx_ce_sR, hx_sl_sR, hx_kd_sR, hx_ln_sR, hx_I_sR, hx_L_sR, hx_R_sR, hx_nx_al, hx_ce_al, hx_sl_al, hx_kd_al, hx_ln_al, hx_I_al, hx_L_al, hx_R_al, hx_nx_row, hx_ce_row, hx_sl_row, hx_kd_row, hx_ln_row, hx_I_row, hx_L_row, hx_R_row, hx_nx_mk, hx_kd_mk, hx_ln_mk, hx_I_mk, hx_L_mk, hx_R_mk, hk, c1, c2, hne]
  exact hx
theorem mo_s21 {d : Nat} {x : Int32} {Q : am_O → am_H → Prop} {g : am_H} (hk : am_kd g 72 = 12) (hn : 72 < am_nx g) (hx : am_Ex nm_pr d mt_Mo_init (183, [.ref 72, .int x, .retAddr 0], [], am_mk g 101 45000 45000 72 34) Q) : am_Ex nm_pr d mt_Mo_init (175, [.ref 72, .int x, .retAddr 0], [], g) Q := by
  refine am_go [183] 4 ?_
  have c1 : ¬ ((45000 : Int32) < 0) := by decide
  have c2 : (45000 : Int32).toNatClampNeg = 45000 := by decide
  have hne : 72 ≠ am_nx g := by omega
  simp only [am_wp, am_stp, am_en, am_as, am_pad, am_nth, am_set, am_st1, am_st2, am_kl, am_kill, am_mem, am_fv, am_tk, am_wt, am_bk, Option.toList, List.cons_append, List.nil_append, Nat.reduceAdd, Nat.reduceEqDiff, Nat.reduceLeDiff, reduceIte, Nat.reduceLT, or_self, true_or, or_true, if_true, if_false, and_self, and_true, true_and, not_false_eq_true, not_true_eq_false, fd_Mo_init_175, fd_Mo_init_176, fd_Mo_init_178, fd_Mo_init_180, hx_nx_sI, hx_ce_sI, hx_sl_sI, hx_kd_sI, hx_ln_sI, hx_I_sI, hx_L_sI, hx_R_sI, hx_nx_sL, hx_ce_sL, hx_sl_sL, hx_kd_sL, hx_ln_sL, hx_I_sL, hx_L_sL, hx_R_sL, hx_nx_sR, hx_ce_sR, hx_sl_sR, hx_kd_sR, hx_ln_sR, hx_I_sR, hx_L_sR, hx_R_sR, hx_nx_al, hx_ce_al, hx_sl_al, hx_kd_al, hx_ln_al, hx_I_al, hx_L_al, hx_R_al, hx_nx_row, hx_ce_row, hx_sl_row, hx_kd_row, hx_ln_row, hx_I_row, hx_L_row, hx_R_row, hx_nx_mk, hx_kd_mk, hx_ln_mk, hx_I_mk, hx_L_mk, hx_R_mk, hk, c1, c2, hne]
  exact hx
theorem mo_s22 {d : Nat} {x : Int32} {Q : am_O → am_H → Prop} {g : am_H} (hk : am_kd g 72 = 12) (hn : 72 < am_nx g) (hx : am_Ex nm_pr d mt_Mo_init (191, [.ref 72, .int x, .retAddr 0], [], am_mk g 101 60 60 72 36) Q) : am_Ex nm_pr d mt_Mo_init (183, [.ref 72, .int x, .retAddr 0], [], g) Q := by
  refine am_go [191] 4 ?_
  have c1 : ¬ ((60 : Int32) < 0) := by decide
  have c2 : (60 : Int32).toNatClampNeg = 60 := by decide
  have hne : 72 ≠ am_nx g := by omega
  simp only [am_wp, am_stp, am_en, am_as, am_pad, am_nth, am_set, am_st1, am_st2, am_kl, am_kill, am_mem, am_fv, am_tk, am_wt, am_bk, Option.toList, List.cons_append, List.nil_append, Nat.reduceAdd, Nat.reduceEqDiff, Nat.reduceLeDiff, reduceIte, Nat.reduceLT, or_self, true_or, or_true, if_true, if_false, and_self, and_true, true_and, not_false_eq_true, not_true_eq_false, fd_Mo_init_183, fd_Mo_init_184, fd_Mo_init_186, fd_Mo_init_188, hx_nx_sI, hx_ce_sI, hx_sl_sI, hx_kd_sI, hx_ln_sI, hx_I_sI, hx_L_sI, hx_R_sI, hx_nx_sL, hx_ce_sL, hx_sl_sL, hx_kd_sL, hx_ln_sL, hx_I_sL, hx_L_sL, hx_R_sL, hx_nx_sR, hx_ce_sR, hx_sl_sR, hx_kd_sR, hx_ln_sR, hx_I_sR, hx_L_sR, hx_R_sR, hx_nx_al, hx_ce_al, hx_sl_al, hx_kd_al, hx_ln_al, hx_I_al, hx_L_al, hx_R_al, hx_nx_row, hx_ce_row, hx_sl_row, hx_kd_row, hx_ln_row, hx_I_row, hx_L_row, hx_R_row, hx_nx_mk, hx_kd_mk, hx_ln_mk, hx_I_mk, hx_L_mk, hx_R_mk, hk, c1, c2, hne]
  exact hx
theorem mo_s23 {d : Nat} {x : Int32} {Q : am_O → am_H → Prop} {g : am_H} (hk : am_kd g 72 = 12) (hn : 72 < am_nx g) (hx : am_Ex nm_pr d mt_Mo_init (199, [.ref 72, .int x, .retAddr 0], [], am_mk g 100 60 60 72 37) Q) : am_Ex nm_pr d mt_Mo_init (191, [.ref 72, .int x, .retAddr 0], [], g) Q := by
  refine am_go [199] 4 ?_
  have c1 : ¬ ((60 : Int32) < 0) := by decide
  have c2 : (60 : Int32).toNatClampNeg = 60 := by decide
  have hne : 72 ≠ am_nx g := by omega
  simp only [am_wp, am_stp, am_en, am_as, am_pad, am_nth, am_set, am_st1, am_st2, am_kl, am_kill, am_mem, am_fv, am_tk, am_wt, am_bk, Option.toList, List.cons_append, List.nil_append, Nat.reduceAdd, Nat.reduceEqDiff, Nat.reduceLeDiff, reduceIte, Nat.reduceLT, or_self, true_or, or_true, if_true, if_false, and_self, and_true, true_and, not_false_eq_true, not_true_eq_false, fd_Mo_init_191, fd_Mo_init_192, fd_Mo_init_194, fd_Mo_init_196, hx_nx_sI, hx_ce_sI, hx_sl_sI, hx_kd_sI, hx_ln_sI, hx_I_sI, hx_L_sI, hx_R_sI, hx_nx_sL, hx_ce_sL, hx_sl_sL, hx_kd_sL, hx_ln_sL, hx_I_sL, hx_L_sL, hx_R_sL, hx_nx_sR, hx_ce_sR, hx_sl_sR, hx_kd_sR, hx_ln_sR, hx_I_sR, hx_L_sR, hx_R_sR, hx_nx_al, hx_ce_al, hx_sl_al, hx_kd_al, hx_ln_al, hx_I_al, hx_L_al, hx_R_al, hx_nx_row, hx_ce_row, hx_sl_row, hx_kd_row, hx_ln_row, hx_I_row, hx_L_row, hx_R_row, hx_nx_mk, hx_kd_mk, hx_ln_mk, hx_I_mk, hx_L_mk, hx_R_mk, hk, c1, c2, hne]
  exact hx
theorem mo_s24 {d : Nat} {x : Int32} {Q : am_O → am_H → Prop} {g : am_H} (hk : am_kd g 72 = 12) (hn : 72 < am_nx g) (hx : am_Ex nm_pr d mt_Mo_init (207, [.ref 72, .int x, .retAddr 0], [], am_mk g 101 60 60 72 38) Q) : am_Ex nm_pr d mt_Mo_init (199, [.ref 72, .int x, .retAddr 0], [], g) Q := by
  refine am_go [207] 4 ?_
  have c1 : ¬ ((60 : Int32) < 0) := by decide
  have c2 : (60 : Int32).toNatClampNeg = 60 := by decide
  have hne : 72 ≠ am_nx g := by omega
  simp only [am_wp, am_stp, am_en, am_as, am_pad, am_nth, am_set, am_st1, am_st2, am_kl, am_kill, am_mem, am_fv, am_tk, am_wt, am_bk, Option.toList, List.cons_append, List.nil_append, Nat.reduceAdd, Nat.reduceEqDiff, Nat.reduceLeDiff, reduceIte, Nat.reduceLT, or_self, true_or, or_true, if_true, if_false, and_self, and_true, true_and, not_false_eq_true, not_true_eq_false, fd_Mo_init_199, fd_Mo_init_200, fd_Mo_init_202, fd_Mo_init_204, hx_nx_sI, hx_ce_sI, hx_sl_sI, hx_kd_sI, hx_ln_sI, hx_I_sI, hx_L_sI, hx_R_sI, hx_nx_sL, hx_ce_sL, hx_sl_sL, hx_kd_sL, hx_ln_sL, hx_I_sL, hx_L_sL, hx_R_sL, hx_nx_sR, hx_ce_sR, hx_sl_sR, hx_kd_sR, hx_ln_sR, hx_I_sR, hx_L_sR, hx_R_sR, hx_nx_al, hx_ce_al, hx_sl_al, hx_kd_al, hx_ln_al, hx_I_al, hx_L_al, hx_R_al, hx_nx_row, hx_ce_row, hx_sl_row, hx_kd_row, hx_ln_row, hx_I_row, hx_L_row, hx_R_row, hx_nx_mk, hx_kd_mk, hx_ln_mk, hx_I_mk, hx_L_mk, hx_R_mk, hk, c1, c2, hne]
  exact hx
theorem mo_s25 {d : Nat} {x : Int32} {Q : am_O → am_H → Prop} {g : am_H} (hk : am_kd g 72 = 12) (hn : 72 < am_nx g) (hx : am_Ex nm_pr d mt_Mo_init (215, [.ref 72, .int x, .retAddr 0], [], am_mk g 101 45000 45000 72 39) Q) : am_Ex nm_pr d mt_Mo_init (207, [.ref 72, .int x, .retAddr 0], [], g) Q := by
  refine am_go [215] 4 ?_
  have c1 : ¬ ((45000 : Int32) < 0) := by decide
  have c2 : (45000 : Int32).toNatClampNeg = 45000 := by decide
  have hne : 72 ≠ am_nx g := by omega
  simp only [am_wp, am_stp, am_en, am_as, am_pad, am_nth, am_set, am_st1, am_st2, am_kl, am_kill, am_mem, am_fv, am_tk, am_wt, am_bk, Option.toList, List.cons_append, List.nil_append, Nat.reduceAdd, Nat.reduceEqDiff, Nat.reduceLeDiff, reduceIte, Nat.reduceLT, or_self, true_or, or_true, if_true, if_false, and_self, and_true, true_and, not_false_eq_true, not_true_eq_false, fd_Mo_init_207, fd_Mo_init_208, fd_Mo_init_210, fd_Mo_init_212, hx_nx_sI, hx_ce_sI, hx_sl_sI, hx_kd_sI, hx_ln_sI, hx_I_sI, hx_L_sI, hx_R_sI, hx_nx_sL, hx_ce_sL, hx_sl_sL, hx_kd_sL, hx_ln_sL, hx_I_sL, hx_L_sL, hx_R_sL, hx_nx_sR, hx_ce_sR, hx_sl_sR, hx_kd_sR, hx_ln_sR, hx_I_sR, hx_L_sR, hx_R_sR, hx_nx_al, hx_ce_al, hx_sl_al, hx_kd_al, hx_ln_al, hx_I_al, hx_L_al, hx_R_al, hx_nx_row, hx_ce_row, hx_sl_row, hx_kd_row, hx_ln_row, hx_I_row, hx_L_row, hx_R_row, hx_nx_mk, hx_kd_mk, hx_ln_mk, hx_I_mk, hx_L_mk, hx_R_mk, hk, c1, c2, hne]
  exact hx
theorem mo_s26 {d : Nat} {x : Int32} {Q : am_O → am_H → Prop} {g : am_H} (hk : am_kd g 72 = 12) (hn : 72 < am_nx g) (hx : am_Ex nm_pr d mt_Mo_init (223, [.ref 72, .int x, .retAddr 0], [], am_mk g 100 45000 45000 72 40) Q) : am_Ex nm_pr d mt_Mo_init (215, [.ref 72, .int x, .retAddr 0], [], g) Q := by
  refine am_go [223] 4 ?_
  have c1 : ¬ ((45000 : Int32) < 0) := by decide
  have c2 : (45000 : Int32).toNatClampNeg = 45000 := by decide
  have hne : 72 ≠ am_nx g := by omega
  simp only [am_wp, am_stp, am_en, am_as, am_pad, am_nth, am_set, am_st1, am_st2, am_kl, am_kill, am_mem, am_fv, am_tk, am_wt, am_bk, Option.toList, List.cons_append, List.nil_append, Nat.reduceAdd, Nat.reduceEqDiff, Nat.reduceLeDiff, reduceIte, Nat.reduceLT, or_self, true_or, or_true, if_true, if_false, and_self, and_true, true_and, not_false_eq_true, not_true_eq_false, fd_Mo_init_215, fd_Mo_init_216, fd_Mo_init_218, fd_Mo_init_220, hx_nx_sI, hx_ce_sI, hx_sl_sI, hx_kd_sI, hx_ln_sI, hx_I_sI, hx_L_sI, hx_R_sI, hx_nx_sL, hx_ce_sL, hx_sl_sL, hx_kd_sL, hx_ln_sL, hx_I_sL, hx_L_sL, hx_R_sL, hx_nx_sR, hx_ce_sR, hx_sl_sR, hx_kd_sR, hx_ln_sR, hx_I_sR, hx_L_sR, hx_R_sR, hx_nx_al, hx_ce_al, hx_sl_al, hx_kd_al, hx_ln_al, hx_I_al, hx_L_al, hx_R_al, hx_nx_row, hx_ce_row, hx_sl_row, hx_kd_row, hx_ln_row, hx_I_row, hx_L_row, hx_R_row, hx_nx_mk, hx_kd_mk, hx_ln_mk, hx_I_mk, hx_L_mk, hx_R_mk, hk, c1, c2, hne]
  exact hx
theorem mo_s27 {d : Nat} {x : Int32} {Q : am_O → am_H → Prop} {g : am_H} (hk : am_kd g 72 = 12) (hn : 72 < am_nx g) (hx : am_Ex nm_pr d mt_Mo_init (231, [.ref 72, .int x, .retAddr 0], [], am_mk g 101 45000 45000 72 41) Q) : am_Ex nm_pr d mt_Mo_init (223, [.ref 72, .int x, .retAddr 0], [], g) Q := by
  refine am_go [231] 4 ?_
  have c1 : ¬ ((45000 : Int32) < 0) := by decide
  have c2 : (45000 : Int32).toNatClampNeg = 45000 := by decide
  have hne : 72 ≠ am_nx g := by omega
  simp only [am_wp, am_stp, am_en, am_as, am_pad, am_nth, am_set, am_st1, am_st2, am_kl, am_kill, am_mem, am_fv, am_tk, am_wt, am_bk, Option.toList, List.cons_append, List.nil_append, Nat.reduceAdd, Nat.reduceEqDiff, Nat.reduceLeDiff, reduceIte, Nat.reduceLT, or_self, true_or, or_true, if_true, if_false, and_self, and_true, true_and, not_false_eq_true, not_true_eq_false, fd_Mo_init_223, fd_Mo_init_224, fd_Mo_init_226, fd_Mo_init_228, hx_nx_sI, hx_ce_sI, hx_sl_sI, hx_kd_sI, hx_ln_sI, hx_I_sI, hx_L_sI, hx_R_sI, hx_nx_sL, hx_ce_sL, hx_sl_sL, hx_kd_sL, hx_ln_sL, hx_I_sL, hx_L_sL, hx_R_sL, hx_nx_sR, hx_ce_sR, hx_sl_sR, hx_kd_sR, hx_ln_sR, hx_I_sR, hx_L_sR, hx_R_sR, hx_nx_al, hx_ce_al, hx_sl_al, hx_kd_al, hx_ln_al, hx_I_al, hx_L_al, hx_R_al, hx_nx_row, hx_ce_row, hx_sl_row, hx_kd_row, hx_ln_row, hx_I_row, hx_L_row, hx_R_row, hx_nx_mk, hx_kd_mk, hx_ln_mk, hx_I_mk, hx_L_mk, hx_R_mk, hk, c1, c2, hne]
  exact hx
theorem mo_s28 {d : Nat} {x : Int32} {Q : am_O → am_H → Prop} {g : am_H} (hk : am_kd g 72 = 12) (hn : 72 < am_nx g) (hx : am_Ex nm_pr d mt_Mo_init (239, [.ref 72, .int x, .retAddr 0], [], am_mk g 101 45000 45000 72 42) Q) : am_Ex nm_pr d mt_Mo_init (231, [.ref 72, .int x, .retAddr 0], [], g) Q := by
  refine am_go [239] 4 ?_
  have c1 : ¬ ((45000 : Int32) < 0) := by decide
  have c2 : (45000 : Int32).toNatClampNeg = 45000 := by decide
  have hne : 72 ≠ am_nx g := by omega
  simp only [am_wp, am_stp, am_en, am_as, am_pad, am_nth, am_set, am_st1, am_st2, am_kl, am_kill, am_mem, am_fv, am_tk, am_wt, am_bk, Option.toList, List.cons_append, List.nil_append, Nat.reduceAdd, Nat.reduceEqDiff, Nat.reduceLeDiff, reduceIte, Nat.reduceLT, or_self, true_or, or_true, if_true, if_false, and_self, and_true, true_and, not_false_eq_true, not_true_eq_false, fd_Mo_init_231, fd_Mo_init_232, fd_Mo_init_234, fd_Mo_init_236, hx_nx_sI, hx_ce_sI, hx_sl_sI, hx_kd_sI, hx_ln_sI, hx_I_sI, hx_L_sI, hx_R_sI, hx_nx_sL, hx_ce_sL, hx_sl_sL, hx_kd_sL, hx_ln_sL, hx_I_sL, hx_L_sL, hx_R_sL, hx_nx_sR, hx_ce_sR, hx_sl_sR, hx_kd_sR, hx_ln_sR, hx_I_sR, hx_L_sR, hx_R_sR, hx_nx_al, hx_ce_al, hx_sl_al, hx_kd_al, hx_ln_al, hx_I_al, hx_L_al, hx_R_al, hx_nx_row, hx_ce_row, hx_sl_row, hx_kd_row, hx_ln_row, hx_I_row, hx_L_row, hx_R_row, hx_nx_mk, hx_kd_mk, hx_ln_mk, hx_I_mk, hx_L_mk, hx_R_mk, hk, c1, c2, hne]
  exact hx
theorem mo_s29 {d : Nat} {x : Int32} {Q : am_O → am_H → Prop} {g : am_H} (hk : am_kd g 72 = 12) (hn : 72 < am_nx g) (hx : am_Ex nm_pr d mt_Mo_init (247, [.ref 72, .int x, .retAddr 0], [], am_mk g 100 45000 45000 72 43) Q) : am_Ex nm_pr d mt_Mo_init (239, [.ref 72, .int x, .retAddr 0], [], g) Q := by
  refine am_go [247] 4 ?_
  have c1 : ¬ ((45000 : Int32) < 0) := by decide
  have c2 : (45000 : Int32).toNatClampNeg = 45000 := by decide
  have hne : 72 ≠ am_nx g := by omega
  simp only [am_wp, am_stp, am_en, am_as, am_pad, am_nth, am_set, am_st1, am_st2, am_kl, am_kill, am_mem, am_fv, am_tk, am_wt, am_bk, Option.toList, List.cons_append, List.nil_append, Nat.reduceAdd, Nat.reduceEqDiff, Nat.reduceLeDiff, reduceIte, Nat.reduceLT, or_self, true_or, or_true, if_true, if_false, and_self, and_true, true_and, not_false_eq_true, not_true_eq_false, fd_Mo_init_239, fd_Mo_init_240, fd_Mo_init_242, fd_Mo_init_244, hx_nx_sI, hx_ce_sI, hx_sl_sI, hx_kd_sI, hx_ln_sI, hx_I_sI, hx_L_sI, hx_R_sI, hx_nx_sL, hx_ce_sL, hx_sl_sL, hx_kd_sL, hx_ln_sL, hx_I_sL, hx_L_sL, hx_R_sL, hx_nx_sR, hx_ce_sR, hx_sl_sR, hx_kd_sR, hx_ln_sR, hx_I_sR, hx_L_sR, hx_R_sR, hx_nx_al, hx_ce_al, hx_sl_al, hx_kd_al, hx_ln_al, hx_I_al, hx_L_al, hx_R_al, hx_nx_row, hx_ce_row, hx_sl_row, hx_kd_row, hx_ln_row, hx_I_row, hx_L_row, hx_R_row, hx_nx_mk, hx_kd_mk, hx_ln_mk, hx_I_mk, hx_L_mk, hx_R_mk, hk, c1, c2, hne]
  exact hx
theorem mo_s30 {d : Nat} {x : Int32} {Q : am_O → am_H → Prop} {g : am_H} (hk : am_kd g 72 = 12) (hn : 72 < am_nx g) (hx : am_Ex nm_pr d mt_Mo_init (255, [.ref 72, .int x, .retAddr 0], [], am_mk g 101 45000 45000 72 44) Q) : am_Ex nm_pr d mt_Mo_init (247, [.ref 72, .int x, .retAddr 0], [], g) Q := by
  refine am_go [255] 4 ?_
  have c1 : ¬ ((45000 : Int32) < 0) := by decide
  have c2 : (45000 : Int32).toNatClampNeg = 45000 := by decide
  have hne : 72 ≠ am_nx g := by omega
  simp only [am_wp, am_stp, am_en, am_as, am_pad, am_nth, am_set, am_st1, am_st2, am_kl, am_kill, am_mem, am_fv, am_tk, am_wt, am_bk, Option.toList, List.cons_append, List.nil_append, Nat.reduceAdd, Nat.reduceEqDiff, Nat.reduceLeDiff, reduceIte, Nat.reduceLT, or_self, true_or, or_true, if_true, if_false, and_self, and_true, true_and, not_false_eq_true, not_true_eq_false, fd_Mo_init_247, fd_Mo_init_248, fd_Mo_init_250, fd_Mo_init_252, hx_nx_sI, hx_ce_sI, hx_sl_sI, hx_kd_sI, hx_ln_sI, hx_I_sI, hx_L_sI, hx_R_sI, hx_nx_sL, hx_ce_sL, hx_sl_sL, hx_kd_sL, hx_ln_sL, hx_I_sL, hx_L_sL, hx_R_sL, hx_nx_sR, hx_ce_sR, hx_sl_sR, hx_kd_sR, hx_ln_sR, hx_I_sR, hx_L_sR, hx_R_sR, hx_nx_al, hx_ce_al, hx_sl_al, hx_kd_al, hx_ln_al, hx_I_al, hx_L_al, hx_R_al, hx_nx_row, hx_ce_row, hx_sl_row, hx_kd_row, hx_ln_row, hx_I_row, hx_L_row, hx_R_row, hx_nx_mk, hx_kd_mk, hx_ln_mk, hx_I_mk, hx_L_mk, hx_R_mk, hk, c1, c2, hne]
  exact hx
theorem mo_s31 {d : Nat} {x : Int32} {Q : am_O → am_H → Prop} {g : am_H} (hk : am_kd g 72 = 12) (hn : 72 < am_nx g) (hx : am_Ex nm_pr d mt_Mo_init (264, [.ref 72, .int x, .retAddr 0], [], am_mk g 101 200 200 72 46) Q) : am_Ex nm_pr d mt_Mo_init (255, [.ref 72, .int x, .retAddr 0], [], g) Q := by
  refine am_go [264] 4 ?_
  have c1 : ¬ ((200 : Int32) < 0) := by decide
  have c2 : (200 : Int32).toNatClampNeg = 200 := by decide
  have hne : 72 ≠ am_nx g := by omega
  simp only [am_wp, am_stp, am_en, am_as, am_pad, am_nth, am_set, am_st1, am_st2, am_kl, am_kill, am_mem, am_fv, am_tk, am_wt, am_bk, Option.toList, List.cons_append, List.nil_append, Nat.reduceAdd, Nat.reduceEqDiff, Nat.reduceLeDiff, reduceIte, Nat.reduceLT, or_self, true_or, or_true, if_true, if_false, and_self, and_true, true_and, not_false_eq_true, not_true_eq_false, fd_Mo_init_255, fd_Mo_init_256, fd_Mo_init_259, fd_Mo_init_261, hx_nx_sI, hx_ce_sI, hx_sl_sI, hx_kd_sI, hx_ln_sI, hx_I_sI, hx_L_sI, hx_R_sI, hx_nx_sL, hx_ce_sL, hx_sl_sL, hx_kd_sL, hx_ln_sL, hx_I_sL, hx_L_sL, hx_R_sL, hx_nx_sR, hx_ce_sR, hx_sl_sR, hx_kd_sR, hx_ln_sR, hx_I_sR, hx_L_sR, hx_R_sR, hx_nx_al, hx_ce_al, hx_sl_al, hx_kd_al, hx_ln_al, hx_I_al, hx_L_al, hx_R_al, hx_nx_row, hx_ce_row, hx_sl_row, hx_kd_row, hx_ln_row, hx_I_row, hx_L_row, hx_R_row, hx_nx_mk, hx_kd_mk, hx_ln_mk, hx_I_mk, hx_L_mk, hx_R_mk, hk, c1, c2, hne]
  exact hx
theorem mo_s32 {d : Nat} {x : Int32} {Q : am_O → am_H → Prop} {g : am_H} (hk : am_kd g 72 = 12) (hn : 72 < am_nx g) (hx : am_Ex nm_pr d mt_Mo_init (273, [.ref 72, .int x, .retAddr 0], [], am_mk g 101 200 200 72 47) Q) : am_Ex nm_pr d mt_Mo_init (264, [.ref 72, .int x, .retAddr 0], [], g) Q := by
  refine am_go [273] 4 ?_
  have c1 : ¬ ((200 : Int32) < 0) := by decide
  have c2 : (200 : Int32).toNatClampNeg = 200 := by decide
  have hne : 72 ≠ am_nx g := by omega
  simp only [am_wp, am_stp, am_en, am_as, am_pad, am_nth, am_set, am_st1, am_st2, am_kl, am_kill, am_mem, am_fv, am_tk, am_wt, am_bk, Option.toList, List.cons_append, List.nil_append, Nat.reduceAdd, Nat.reduceEqDiff, Nat.reduceLeDiff, reduceIte, Nat.reduceLT, or_self, true_or, or_true, if_true, if_false, and_self, and_true, true_and, not_false_eq_true, not_true_eq_false, fd_Mo_init_264, fd_Mo_init_265, fd_Mo_init_268, fd_Mo_init_270, hx_nx_sI, hx_ce_sI, hx_sl_sI, hx_kd_sI, hx_ln_sI, hx_I_sI, hx_L_sI, hx_R_sI, hx_nx_sL, hx_ce_sL, hx_sl_sL, hx_kd_sL, hx_ln_sL, hx_I_sL, hx_L_sL, hx_R_sL, hx_nx_sR, hx_ce_sR, hx_sl_sR, hx_kd_sR, hx_ln_sR, hx_I_sR, hx_L_sR, hx_R_sR, hx_nx_al, hx_ce_al, hx_sl_al, hx_kd_al, hx_ln_al, hx_I_al, hx_L_al, hx_R_al, hx_nx_row, hx_ce_row, hx_sl_row, hx_kd_row, hx_ln_row, hx_I_row, hx_L_row, hx_R_row, hx_nx_mk, hx_kd_mk, hx_ln_mk, hx_I_mk, hx_L_mk, hx_R_mk, hk, c1, c2, hne]
  exact hx
theorem mo_s33 {d : Nat} {x : Int32} {Q : am_O → am_H → Prop} {g : am_H} (hk : am_kd g 72 = 12) (hn : 72 < am_nx g) (hx : am_Ex nm_pr d mt_Mo_init (281, [.ref 72, .int x, .retAddr 0], [], am_mk g 100 8 8 72 48) Q) : am_Ex nm_pr d mt_Mo_init (273, [.ref 72, .int x, .retAddr 0], [], g) Q := by
  refine am_go [281] 4 ?_
  have c1 : ¬ ((8 : Int32) < 0) := by decide
  have c2 : (8 : Int32).toNatClampNeg = 8 := by decide
  have hne : 72 ≠ am_nx g := by omega
  simp only [am_wp, am_stp, am_en, am_as, am_pad, am_nth, am_set, am_st1, am_st2, am_kl, am_kill, am_mem, am_fv, am_tk, am_wt, am_bk, Option.toList, List.cons_append, List.nil_append, Nat.reduceAdd, Nat.reduceEqDiff, Nat.reduceLeDiff, reduceIte, Nat.reduceLT, or_self, true_or, or_true, if_true, if_false, and_self, and_true, true_and, not_false_eq_true, not_true_eq_false, fd_Mo_init_273, fd_Mo_init_274, fd_Mo_init_276, fd_Mo_init_278, hx_nx_sI, hx_ce_sI, hx_sl_sI, hx_kd_sI, hx_ln_sI, hx_I_sI, hx_L_sI, hx_R_sI, hx_nx_sL, hx_ce_sL, hx_sl_sL, hx_kd_sL, hx_ln_sL, hx_I_sL, hx_L_sL, hx_R_sL, hx_nx_sR, hx_ce_sR, hx_sl_sR, hx_kd_sR, hx_ln_sR, hx_I_sR, hx_L_sR, hx_R_sR, hx_nx_al, hx_ce_al, hx_sl_al, hx_kd_al, hx_ln_al, hx_I_al, hx_L_al, hx_R_al, hx_nx_row, hx_ce_row, hx_sl_row, hx_kd_row, hx_ln_row, hx_I_row, hx_L_row, hx_R_row, hx_nx_mk, hx_kd_mk, hx_ln_mk, hx_I_mk, hx_L_mk, hx_R_mk, hk, c1, c2, hne]
  exact hx
theorem mo_s34 {d : Nat} {x : Int32} {Q : am_O → am_H → Prop} {g : am_H} (hk : am_kd g 72 = 12) (hn : 72 < am_nx g) (hx : am_Ex nm_pr d mt_Mo_init (289, [.ref 72, .int x, .retAddr 0], [], am_mk g 100 8 8 72 49) Q) : am_Ex nm_pr d mt_Mo_init (281, [.ref 72, .int x, .retAddr 0], [], g) Q := by
  refine am_go [289] 4 ?_
  have c1 : ¬ ((8 : Int32) < 0) := by decide
  have c2 : (8 : Int32).toNatClampNeg = 8 := by decide
  have hne : 72 ≠ am_nx g := by omega
  simp only [am_wp, am_stp, am_en, am_as, am_pad, am_nth, am_set, am_st1, am_st2, am_kl, am_kill, am_mem, am_fv, am_tk, am_wt, am_bk, Option.toList, List.cons_append, List.nil_append, Nat.reduceAdd, Nat.reduceEqDiff, Nat.reduceLeDiff, reduceIte, Nat.reduceLT, or_self, true_or, or_true, if_true, if_false, and_self, and_true, true_and, not_false_eq_true, not_true_eq_false, fd_Mo_init_281, fd_Mo_init_282, fd_Mo_init_284, fd_Mo_init_286, hx_nx_sI, hx_ce_sI, hx_sl_sI, hx_kd_sI, hx_ln_sI, hx_I_sI, hx_L_sI, hx_R_sI, hx_nx_sL, hx_ce_sL, hx_sl_sL, hx_kd_sL, hx_ln_sL, hx_I_sL, hx_L_sL, hx_R_sL, hx_nx_sR, hx_ce_sR, hx_sl_sR, hx_kd_sR, hx_ln_sR, hx_I_sR, hx_L_sR, hx_R_sR, hx_nx_al, hx_ce_al, hx_sl_al, hx_kd_al, hx_ln_al, hx_I_al, hx_L_al, hx_R_al, hx_nx_row, hx_ce_row, hx_sl_row, hx_kd_row, hx_ln_row, hx_I_row, hx_L_row, hx_R_row, hx_nx_mk, hx_kd_mk, hx_ln_mk, hx_I_mk, hx_L_mk, hx_R_mk, hk, c1, c2, hne]
  exact hx
theorem l2_Mo_1 {d : Nat} {x : Int32} {Q : am_O → am_H → Prop} {h : am_H} (hk : am_kd h 72 = 12) (hn : am_nx h = 73) (hx : am_Ex nm_pr d mt_Mo_init (289, [.ref 72, .int x, .retAddr 0], [], mo_mk 72 h mo_l) Q) : am_Ex nm_pr d mt_Mo_init (0, [.ref 72, .int x, .retAddr 0], [], h) Q := by
  have hk1 : ∀ (g : am_H) (k n s j : Nat), am_kd g 72 = 12 → 72 < am_nx g → am_kd (am_mk g k n s 72 j) 72 = 12 := fun g k n s j h1 h2 => by rw [hx_kd_mk, if_neg (by omega)]; exact h1
  have hn1 : ∀ (g : am_H) (k n s j : Nat), 72 < am_nx g → 72 < am_nx (am_mk g k n s 72 j) := fun g k n s j h2 => by rw [hx_nx_mk]; omega
  refine am_go [4] 2 ?_
  simp only [am_wp, am_stp, am_en, am_as, am_pad, am_nth, am_set, am_st1, am_st2, am_kl, am_kill, am_mem, am_fv, am_tk, am_wt, am_bk, Option.toList, List.cons_append, List.nil_append, Nat.reduceAdd, Nat.reduceEqDiff, Nat.reduceLeDiff, reduceIte, Nat.reduceLT, or_self, true_or, or_true, if_true, if_false, and_self, and_true, true_and, not_false_eq_true, not_true_eq_false, fd_Mo_init_0, fd_Mo_init_1]
  have k0 := hk
  have n0 : 72 < am_nx h := by omega
  refine mo_s0 k0 n0 ?_
  have k1 := hk1 _ 102 131072 131072 2 k0 n0
  have n1 := hn1 _ 102 131072 131072 2 n0
  refine mo_s1 k1 n1 ?_
  have k2 := hk1 _ 101 64 64 12 k1 n1
  have n2 := hn1 _ 101 64 64 12 n1
  refine mo_s2 k2 n2 ?_
  have k3 := hk1 _ 100 64 64 13 k2 n2
  have n3 := hn1 _ 100 64 64 13 n2
  refine mo_s3 k3 n3 ?_
  have k4 := hk1 _ 101 64 64 14 k3 n3
  have n4 := hn1 _ 101 64 64 14 n3
  refine mo_s4 k4 n4 ?_
  have k5 := hk1 _ 100 100 100 15 k4 n4
  have n5 := hn1 _ 100 100 100 15 n4
  refine mo_s5 k5 n5 ?_
  have k6 := hk1 _ 100 100 100 16 k5 n5
  have n6 := hn1 _ 100 100 100 16 n5
  refine mo_s6 k6 n6 ?_
  have k7 := hk1 _ 100 100 100 17 k6 n6
  have n7 := hn1 _ 100 100 100 17 n6
  refine mo_s7 k7 n7 ?_
  have k8 := hk1 _ 100 100 100 18 k7 n7
  have n8 := hn1 _ 100 100 100 18 n7
  refine mo_s8 k8 n8 ?_
  have k9 := hk1 _ 100 100 100 19 k8 n8
  have n9 := hn1 _ 100 100 100 19 n8
  refine mo_s9 k9 n9 ?_
  have k10 := hk1 _ 100 102400 102400 20 k9 n9
  have n10 := hn1 _ 100 102400 102400 20 n9
  refine mo_s10 k10 n10 ?_
  have k11 := hk1 _ 101 102400 102400 21 k10 n10
  have n11 := hn1 _ 101 102400 102400 21 n10
  refine mo_s11 k11 n11 ?_
  have k12 := hk1 _ 101 100 100 22 k11 n11
  have n12 := hn1 _ 101 100 100 22 n11
  refine mo_s12 k12 n12 ?_
  have k13 := hk1 _ 101 800 800 23 k12 n12
  have n13 := hn1 _ 101 800 800 23 n12
  refine mo_s13 k13 n13 ?_
  have k14 := hk1 _ 100 9 9 25 k13 n13
  have n14 := hn1 _ 100 9 9 25 n13
  refine mo_s14 k14 n14 ?_
  have k15 := hk1 _ 103 8 8 26 k14 n14
  have n15 := hn1 _ 103 8 8 26 n14
  refine mo_s15 k15 n15 ?_
  have k16 := hk1 _ 100 8 8 27 k15 n15
  have n16 := hn1 _ 100 8 8 27 n15
  refine mo_s16 k16 n16 ?_
  have k17 := hk1 _ 100 72 72 28 k16 n16
  have n17 := hn1 _ 100 72 72 28 n16
  refine mo_s17 k17 n17 ?_
  have k18 := hk1 _ 103 1024 1024 29 k17 n17
  have n18 := hn1 _ 103 1024 1024 29 n17
  refine mo_s18 k18 n18 ?_
  have k19 := hk1 _ 102 128 128 30 k18 n18
  have n19 := hn1 _ 102 128 128 30 n18
  refine mo_s19 k19 n19 ?_
  have k20 := hk1 _ 101 45000 45000 32 k19 n19
  have n20 := hn1 _ 101 45000 45000 32 n19
  refine mo_s20 k20 n20 ?_
  have k21 := hk1 _ 100 45000 45000 33 k20 n20
  have n21 := hn1 _ 100 45000 45000 33 n20
  refine mo_s21 k21 n21 ?_
  have k22 := hk1 _ 101 45000 45000 34 k21 n21
  have n22 := hn1 _ 101 45000 45000 34 n21
  refine mo_s22 k22 n22 ?_
  have k23 := hk1 _ 101 60 60 36 k22 n22
  have n23 := hn1 _ 101 60 60 36 n22
  refine mo_s23 k23 n23 ?_
  have k24 := hk1 _ 100 60 60 37 k23 n23
  have n24 := hn1 _ 100 60 60 37 n23
  refine mo_s24 k24 n24 ?_
  have k25 := hk1 _ 101 60 60 38 k24 n24
  have n25 := hn1 _ 101 60 60 38 n24
  refine mo_s25 k25 n25 ?_
  have k26 := hk1 _ 101 45000 45000 39 k25 n25
  have n26 := hn1 _ 101 45000 45000 39 n25
  refine mo_s26 k26 n26 ?_
  have k27 := hk1 _ 100 45000 45000 40 k26 n26
  have n27 := hn1 _ 100 45000 45000 40 n26
  refine mo_s27 k27 n27 ?_
  have k28 := hk1 _ 101 45000 45000 41 k27 n27
  have n28 := hn1 _ 101 45000 45000 41 n27
  refine mo_s28 k28 n28 ?_
  have k29 := hk1 _ 101 45000 45000 42 k28 n28
  have n29 := hn1 _ 101 45000 45000 42 n28
  refine mo_s29 k29 n29 ?_
  have k30 := hk1 _ 100 45000 45000 43 k29 n29
  have n30 := hn1 _ 100 45000 45000 43 n29
  refine mo_s30 k30 n30 ?_
  have k31 := hk1 _ 101 45000 45000 44 k30 n30
  have n31 := hn1 _ 101 45000 45000 44 n30
  refine mo_s31 k31 n31 ?_
  have k32 := hk1 _ 101 200 200 46 k31 n31
  have n32 := hn1 _ 101 200 200 46 n31
  refine mo_s32 k32 n32 ?_
  have k33 := hk1 _ 101 200 200 47 k32 n32
  have n33 := hn1 _ 101 200 200 47 n32
  refine mo_s33 k33 n33 ?_
  have k34 := hk1 _ 100 8 8 48 k33 n33
  have n34 := hn1 _ 100 8 8 48 n33
  refine mo_s34 k34 n34 ?_
  have k35 := hk1 _ 100 8 8 49 k34 n34
  have n35 := hn1 _ 100 8 8 49 n34
  exact hx
