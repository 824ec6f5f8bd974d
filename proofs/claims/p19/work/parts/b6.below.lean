/-! THE REFERENCE MERGES -/
theorem mo_ol {h : am_H} (c : mo_Sk h) : (am_R h 72 39 = 98 ∧ am_kd h 98 = 101 ∧ am_ln h 98 = 45000) ∧ (am_R h 72 40 = 99 ∧ am_kd h 99 = 100 ∧ am_ln h 99 = 45000) ∧ (am_R h 72 41 = 100 ∧ am_kd h 100 = 101 ∧ am_ln h 100 = 45000) ∧ (am_R h 72 42 = 101 ∧ am_kd h 101 = 101 ∧ am_ln h 101 = 45000) ∧ (am_R h 72 43 = 102 ∧ am_kd h 102 = 100 ∧ am_ln h 102 = 45000) ∧ (am_R h 72 44 = 103 ∧ am_kd h 103 = 101 ∧ am_ln h 103 = 45000) := by
  obtain ⟨c1, rr, aa⟩ := c
  exact ⟨⟨(rr 39).trans rfl, (aa 25 _ rfl).1, (aa 25 _ rfl).2⟩, ⟨(rr 40).trans rfl, (aa 26 _ rfl).1, (aa 26 _ rfl).2⟩, ⟨(rr 41).trans rfl, (aa 27 _ rfl).1, (aa 27 _ rfl).2⟩, ⟨(rr 42).trans rfl, (aa 28 _ rfl).1, (aa 28 _ rfl).2⟩, ⟨(rr 43).trans rfl, (aa 29 _ rfl).1, (aa 29 _ rfl).2⟩, ⟨(rr 44).trans rfl, (aa 30 _ rfl).1, (aa 30 _ rfl).2⟩⟩
/-- an entry more in the list -/
def ky_P (g g' : am_H) (M : List ent) : Prop := am_fi [72, 92, 93, 94] g g' ∧ (∀ j, j ≠ 31 → am_I g' 72 j = am_I g 72 j) ∧ ky_S g' M
theorem ky_S.app {g : am_H} {M : List ent} {e : ent} (K : ky_S g M) (hl : M.length < 40000) : ky_P g (am_sI (am_sL (am_sI (am_sL g 92 M.length e.1) 93 M.length e.2.1) 94 M.length e.2.2) 72 31 (nI (M.length + 1))) (M ++ [e]) := by
  obtain ⟨hS, i31, hl2, T⟩ := K
  have F : am_fi [72, 92, 93, 94] g (am_sI (am_sL (am_sI (am_sL g 92 M.length e.1) 93 M.length e.2.1) 94 M.length e.2.2) 72 31 (nI (M.length + 1))) := (((am_fi.refl.sL (by simp)).sI (by simp)).sL (by simp)).sI (by simp)
  refine ⟨F, fun j hj => by simp only [hx_nx_sI, hx_ce_sI, hx_sl_sI, hx_kd_sI, hx_ln_sI, hx_I_sI, hx_L_sI, hx_R_sI, hx_nx_sL, hx_ce_sL, hx_sl_sL, hx_kd_sL, hx_ln_sL, hx_I_sL, hx_L_sL, hx_R_sL, hx_nx_sR, hx_ce_sR, hx_sl_sR, hx_kd_sR, hx_ln_sR, hx_I_sR, hx_L_sR, hx_R_sR, hx_nx_al, hx_ce_al, hx_sl_al, hx_kd_al, hx_ln_al, hx_I_al, hx_L_al, hx_R_al, hx_nx_row, hx_ce_row, hx_sl_row, hx_kd_row, hx_ln_row, hx_I_row, hx_L_row, hx_R_row, hx_nx_mk, hx_kd_mk, hx_ln_mk, hx_I_mk, hx_L_mk, hx_R_mk, am_wp, am_stp, am_en, am_as, am_pad, am_nth, am_set, am_st1, am_st2, am_kl, am_kill, am_mem, am_fv, am_tk, am_wt, am_bk, Option.toList, List.cons_append, List.nil_append, Nat.reduceAdd, Nat.reduceEqDiff, Nat.reduceLeDiff, reduceIte, Nat.reduceLT, or_self, true_or, or_true, if_true, if_false, and_self, and_true, true_and, not_false_eq_true, not_true_eq_false, hj], hS.fi F, by simp only [hx_nx_sI, hx_ce_sI, hx_sl_sI, hx_kd_sI, hx_ln_sI, hx_I_sI, hx_L_sI, hx_R_sI, hx_nx_sL, hx_ce_sL, hx_sl_sL, hx_kd_sL, hx_ln_sL, hx_I_sL, hx_L_sL, hx_R_sL, hx_nx_sR, hx_ce_sR, hx_sl_sR, hx_kd_sR, hx_ln_sR, hx_I_sR, hx_L_sR, hx_R_sR, hx_nx_al, hx_ce_al, hx_sl_al, hx_kd_al, hx_ln_al, hx_I_al, hx_L_al, hx_R_al, hx_nx_row, hx_ce_row, hx_sl_row, hx_kd_row, hx_ln_row, hx_I_row, hx_L_row, hx_R_row, hx_nx_mk, hx_kd_mk, hx_ln_mk, hx_I_mk, hx_L_mk, hx_R_mk, am_wp, am_stp, am_en, am_as, am_pad, am_nth, am_set, am_st1, am_st2, am_kl, am_kill, am_mem, am_fv, am_tk, am_wt, am_bk, Option.toList, List.cons_append, List.nil_append, Nat.reduceAdd, Nat.reduceEqDiff, Nat.reduceLeDiff, reduceIte, Nat.reduceLT, or_self, true_or, or_true, if_true, if_false, and_self, and_true, true_and, not_false_eq_true, not_true_eq_false, List.length_append, List.length_cons, List.length_nil], by simp; omega, T.snoc (fun j hj => ⟨?_, ?_, ?_⟩) ?_ ?_ ?_⟩
  · simp only [hx_nx_sI, hx_ce_sI, hx_sl_sI, hx_kd_sI, hx_ln_sI, hx_I_sI, hx_L_sI, hx_R_sI, hx_nx_sL, hx_ce_sL, hx_sl_sL, hx_kd_sL, hx_ln_sL, hx_I_sL, hx_L_sL, hx_R_sL, hx_nx_sR, hx_ce_sR, hx_sl_sR, hx_kd_sR, hx_ln_sR, hx_I_sR, hx_L_sR, hx_R_sR, hx_nx_al, hx_ce_al, hx_sl_al, hx_kd_al, hx_ln_al, hx_I_al, hx_L_al, hx_R_al, hx_nx_row, hx_ce_row, hx_sl_row, hx_kd_row, hx_ln_row, hx_I_row, hx_L_row, hx_R_row, hx_nx_mk, hx_kd_mk, hx_ln_mk, hx_I_mk, hx_L_mk, hx_R_mk, am_wp, am_stp, am_en, am_as, am_pad, am_nth, am_set, am_st1, am_st2, am_kl, am_kill, am_mem, am_fv, am_tk, am_wt, am_bk, Option.toList, List.cons_append, List.nil_append, Nat.reduceAdd, Nat.reduceEqDiff, Nat.reduceLeDiff, reduceIte, Nat.reduceLT, or_self, true_or, or_true, if_true, if_false, and_self, and_true, true_and, not_false_eq_true, not_true_eq_false]; rw [if_neg (by omega)]
  · simp only [hx_nx_sI, hx_ce_sI, hx_sl_sI, hx_kd_sI, hx_ln_sI, hx_I_sI, hx_L_sI, hx_R_sI, hx_nx_sL, hx_ce_sL, hx_sl_sL, hx_kd_sL, hx_ln_sL, hx_I_sL, hx_L_sL, hx_R_sL, hx_nx_sR, hx_ce_sR, hx_sl_sR, hx_kd_sR, hx_ln_sR, hx_I_sR, hx_L_sR, hx_R_sR, hx_nx_al, hx_ce_al, hx_sl_al, hx_kd_al, hx_ln_al, hx_I_al, hx_L_al, hx_R_al, hx_nx_row, hx_ce_row, hx_sl_row, hx_kd_row, hx_ln_row, hx_I_row, hx_L_row, hx_R_row, hx_nx_mk, hx_kd_mk, hx_ln_mk, hx_I_mk, hx_L_mk, hx_R_mk, am_wp, am_stp, am_en, am_as, am_pad, am_nth, am_set, am_st1, am_st2, am_kl, am_kill, am_mem, am_fv, am_tk, am_wt, am_bk, Option.toList, List.cons_append, List.nil_append, Nat.reduceAdd, Nat.reduceEqDiff, Nat.reduceLeDiff, reduceIte, Nat.reduceLT, or_self, true_or, or_true, if_true, if_false, and_self, and_true, true_and, not_false_eq_true, not_true_eq_false]; rw [if_neg (by omega)]
  · simp only [hx_nx_sI, hx_ce_sI, hx_sl_sI, hx_kd_sI, hx_ln_sI, hx_I_sI, hx_L_sI, hx_R_sI, hx_nx_sL, hx_ce_sL, hx_sl_sL, hx_kd_sL, hx_ln_sL, hx_I_sL, hx_L_sL, hx_R_sL, hx_nx_sR, hx_ce_sR, hx_sl_sR, hx_kd_sR, hx_ln_sR, hx_I_sR, hx_L_sR, hx_R_sR, hx_nx_al, hx_ce_al, hx_sl_al, hx_kd_al, hx_ln_al, hx_I_al, hx_L_al, hx_R_al, hx_nx_row, hx_ce_row, hx_sl_row, hx_kd_row, hx_ln_row, hx_I_row, hx_L_row, hx_R_row, hx_nx_mk, hx_kd_mk, hx_ln_mk, hx_I_mk, hx_L_mk, hx_R_mk, am_wp, am_stp, am_en, am_as, am_pad, am_nth, am_set, am_st1, am_st2, am_kl, am_kill, am_mem, am_fv, am_tk, am_wt, am_bk, Option.toList, List.cons_append, List.nil_append, Nat.reduceAdd, Nat.reduceEqDiff, Nat.reduceLeDiff, reduceIte, Nat.reduceLT, or_self, true_or, or_true, if_true, if_false, and_self, and_true, true_and, not_false_eq_true, not_true_eq_false]; rw [if_neg (by omega)]
  · simp only [hx_nx_sI, hx_ce_sI, hx_sl_sI, hx_kd_sI, hx_ln_sI, hx_I_sI, hx_L_sI, hx_R_sI, hx_nx_sL, hx_ce_sL, hx_sl_sL, hx_kd_sL, hx_ln_sL, hx_I_sL, hx_L_sL, hx_R_sL, hx_nx_sR, hx_ce_sR, hx_sl_sR, hx_kd_sR, hx_ln_sR, hx_I_sR, hx_L_sR, hx_R_sR, hx_nx_al, hx_ce_al, hx_sl_al, hx_kd_al, hx_ln_al, hx_I_al, hx_L_al, hx_R_al, hx_nx_row, hx_ce_row, hx_sl_row, hx_kd_row, hx_ln_row, hx_I_row, hx_L_row, hx_R_row, hx_nx_mk, hx_kd_mk, hx_ln_mk, hx_I_mk, hx_L_mk, hx_R_mk, am_wp, am_stp, am_en, am_as, am_pad, am_nth, am_set, am_st1, am_st2, am_kl, am_kill, am_mem, am_fv, am_tk, am_wt, am_bk, Option.toList, List.cons_append, List.nil_append, Nat.reduceAdd, Nat.reduceEqDiff, Nat.reduceLeDiff, reduceIte, Nat.reduceLT, or_self, true_or, or_true, if_true, if_false, and_self, and_true, true_and, not_false_eq_true, not_true_eq_false]
  · simp only [hx_nx_sI, hx_ce_sI, hx_sl_sI, hx_kd_sI, hx_ln_sI, hx_I_sI, hx_L_sI, hx_R_sI, hx_nx_sL, hx_ce_sL, hx_sl_sL, hx_kd_sL, hx_ln_sL, hx_I_sL, hx_L_sL, hx_R_sL, hx_nx_sR, hx_ce_sR, hx_sl_sR, hx_kd_sR, hx_ln_sR, hx_I_sR, hx_L_sR, hx_R_sR, hx_nx_al, hx_ce_al, hx_sl_al, hx_kd_al, hx_ln_al, hx_I_al, hx_L_al, hx_R_al, hx_nx_row, hx_ce_row, hx_sl_row, hx_kd_row, hx_ln_row, hx_I_row, hx_L_row, hx_R_row, hx_nx_mk, hx_kd_mk, hx_ln_mk, hx_I_mk, hx_L_mk, hx_R_mk, am_wp, am_stp, am_en, am_as, am_pad, am_nth, am_set, am_st1, am_st2, am_kl, am_kill, am_mem, am_fv, am_tk, am_wt, am_bk, Option.toList, List.cons_append, List.nil_append, Nat.reduceAdd, Nat.reduceEqDiff, Nat.reduceLeDiff, reduceIte, Nat.reduceLT, or_self, true_or, or_true, if_true, if_false, and_self, and_true, true_and, not_false_eq_true, not_true_eq_false]
  · simp only [hx_nx_sI, hx_ce_sI, hx_sl_sI, hx_kd_sI, hx_ln_sI, hx_I_sI, hx_L_sI, hx_R_sI, hx_nx_sL, hx_ce_sL, hx_sl_sL, hx_kd_sL, hx_ln_sL, hx_I_sL, hx_L_sL, hx_R_sL, hx_nx_sR, hx_ce_sR, hx_sl_sR, hx_kd_sR, hx_ln_sR, hx_I_sR, hx_L_sR, hx_R_sR, hx_nx_al, hx_ce_al, hx_sl_al, hx_kd_al, hx_ln_al, hx_I_al, hx_L_al, hx_R_al, hx_nx_row, hx_ce_row, hx_sl_row, hx_kd_row, hx_ln_row, hx_I_row, hx_L_row, hx_R_row, hx_nx_mk, hx_kd_mk, hx_ln_mk, hx_I_mk, hx_L_mk, hx_R_mk, am_wp, am_stp, am_en, am_as, am_pad, am_nth, am_set, am_st1, am_st2, am_kl, am_kill, am_mem, am_fv, am_tk, am_wt, am_bk, Option.toList, List.cons_append, List.nil_append, Nat.reduceAdd, Nat.reduceEqDiff, Nat.reduceLeDiff, reduceIte, Nat.reduceLT, or_self, true_or, or_true, if_true, if_false, and_self, and_true, true_and, not_false_eq_true, not_true_eq_false]
theorem l2_copy {d i : Nat} {M O : List ent} {e : ent} {g : am_H} (K : ky_S g M) (hl : M.length < 40000) (T : tr_S g 98 99 100 O) (hi : O[i]? = some e) (hi2 : i < 45000) : am_Rt nm_pr (d + 1) mi_Mo_copy [.ref 72, .int (nI i)] g (fun o g' => o = .inl none ∧ ky_P g g' (M ++ [e])) := by
  obtain ⟨hS, i31, hl2, T2⟩ := id K
  obtain ⟨k72, r32, r33, r34, k92, n92, k93, n93, k94, n94⟩ := mo_ky hS
  obtain ⟨⟨r39, k98, n98⟩, ⟨r40, k99, n99⟩, ⟨r41, k100, n100⟩, -⟩ := mo_ol hS
  obtain ⟨t1, t2, t3⟩ := T i e hi
  have i1 := am_inb (c := i) (N := 45000) hi2 (by omega)
  have q1 : (nI i).toNatClampNeg = i := nI_clamp (by omega)
  have i2 := am_inb (c := M.length) (N := 45000) (by omega) (by omega)
  have q2 : (nI M.length).toNatClampNeg = M.length := nI_clamp (by omega)
  refine am_in' mt_Mo_copy 2 rfl rfl rfl ?_
  refine am_go [] 9 ?_
  simp only [am_wp, am_stp, am_en, am_as, am_pad, am_nth, am_set, am_st1, am_st2, am_kl, am_kill, am_mem, am_fv, am_tk, am_wt, am_bk, Option.toList, List.cons_append, List.nil_append, Nat.reduceAdd, Nat.reduceEqDiff, Nat.reduceLeDiff, reduceIte, Nat.reduceLT, or_self, true_or, or_true, if_true, if_false, and_self, and_true, true_and, not_false_eq_true, not_true_eq_false, fd_Mo_copy_0, fd_Mo_copy_1, fd_Mo_copy_4, fd_Mo_copy_5, fd_Mo_copy_8, fd_Mo_copy_9, fd_Mo_copy_12, fd_Mo_copy_13, fd_Mo_copy_14, k72, r32, i31, r39, k98, n98, i1, q1, t1, k92, n92, i2, q2]
  refine am_go [] 9 ?_
  simp only [am_wp, am_stp, am_en, am_as, am_pad, am_nth, am_set, am_st1, am_st2, am_kl, am_kill, am_mem, am_fv, am_tk, am_wt, am_bk, Option.toList, List.cons_append, List.nil_append, Nat.reduceAdd, Nat.reduceEqDiff, Nat.reduceLeDiff, reduceIte, Nat.reduceLT, or_self, true_or, or_true, if_true, if_false, and_self, and_true, true_and, not_false_eq_true, not_true_eq_false, fd_Mo_copy_15, fd_Mo_copy_16, fd_Mo_copy_19, fd_Mo_copy_20, fd_Mo_copy_23, fd_Mo_copy_24, fd_Mo_copy_27, fd_Mo_copy_28, fd_Mo_copy_29, hx_nx_sI, hx_ce_sI, hx_sl_sI, hx_kd_sI, hx_ln_sI, hx_I_sI, hx_L_sI, hx_R_sI, hx_nx_sL, hx_ce_sL, hx_sl_sL, hx_kd_sL, hx_ln_sL, hx_I_sL, hx_L_sL, hx_R_sL, hx_nx_sR, hx_ce_sR, hx_sl_sR, hx_kd_sR, hx_ln_sR, hx_I_sR, hx_L_sR, hx_R_sR, hx_nx_al, hx_ce_al, hx_sl_al, hx_kd_al, hx_ln_al, hx_I_al, hx_L_al, hx_R_al, hx_nx_row, hx_ce_row, hx_sl_row, hx_kd_row, hx_ln_row, hx_I_row, hx_L_row, hx_R_row, hx_nx_mk, hx_kd_mk, hx_ln_mk, hx_I_mk, hx_L_mk, hx_R_mk, k72, r33, i31, r40, k99, n99, i1, q1, t2, k93, n93, i2, q2]
  refine am_go [] 9 ?_
  simp only [am_wp, am_stp, am_en, am_as, am_pad, am_nth, am_set, am_st1, am_st2, am_kl, am_kill, am_mem, am_fv, am_tk, am_wt, am_bk, Option.toList, List.cons_append, List.nil_append, Nat.reduceAdd, Nat.reduceEqDiff, Nat.reduceLeDiff, reduceIte, Nat.reduceLT, or_self, true_or, or_true, if_true, if_false, and_self, and_true, true_and, not_false_eq_true, not_true_eq_false, fd_Mo_copy_30, fd_Mo_copy_31, fd_Mo_copy_34, fd_Mo_copy_35, fd_Mo_copy_38, fd_Mo_copy_39, fd_Mo_copy_42, fd_Mo_copy_43, fd_Mo_copy_44, hx_nx_sI, hx_ce_sI, hx_sl_sI, hx_kd_sI, hx_ln_sI, hx_I_sI, hx_L_sI, hx_R_sI, hx_nx_sL, hx_ce_sL, hx_sl_sL, hx_kd_sL, hx_ln_sL, hx_I_sL, hx_L_sL, hx_R_sL, hx_nx_sR, hx_ce_sR, hx_sl_sR, hx_kd_sR, hx_ln_sR, hx_I_sR, hx_L_sR, hx_R_sR, hx_nx_al, hx_ce_al, hx_sl_al, hx_kd_al, hx_ln_al, hx_I_al, hx_L_al, hx_R_al, hx_nx_row, hx_ce_row, hx_sl_row, hx_kd_row, hx_ln_row, hx_I_row, hx_L_row, hx_R_row, hx_nx_mk, hx_kd_mk, hx_ln_mk, hx_I_mk, hx_L_mk, hx_R_mk, k72, r34, i31, r41, k100, n100, i1, q1, t3, k94, n94, i2, q2]
  refine am_go [] 7 ?_
  simp only [am_wp, am_stp, am_en, am_as, am_pad, am_nth, am_set, am_st1, am_st2, am_kl, am_kill, am_mem, am_fv, am_tk, am_wt, am_bk, Option.toList, List.cons_append, List.nil_append, Nat.reduceAdd, Nat.reduceEqDiff, Nat.reduceLeDiff, reduceIte, Nat.reduceLT, or_self, true_or, or_true, if_true, if_false, and_self, and_true, true_and, not_false_eq_true, not_true_eq_false, fd_Mo_copy_45, fd_Mo_copy_46, fd_Mo_copy_47, fd_Mo_copy_50, fd_Mo_copy_51, fd_Mo_copy_52, fd_Mo_copy_55, hx_kd_sI, hx_I_sI, hx_kd_sL, hx_I_sL, k72, i31, nI_1]
  exact K.app hl
/-- while a run comes below: G is what all comes to -/
def be_I (h g : am_H) (M0 Out C : List ent) : Prop := am_fi [72, 92, 93, 94, 95, 96, 97, 98, 99, 100] h g ∧ (∀ j, j ≠ 6 → j ≠ 31 → j ≠ 35 → am_I g 72 j = am_I h 72 j) ∧ ky_S g Out ∧ tr_S g 98 99 100 M0 ∧ tr_S g 95 96 97 C ∧ am_I g 72 35 = nI C.length
theorem be_I.ky {h g g' : am_H} {M0 Out C M : List ent} (I : be_I h g M0 Out C) (q : ky_P g g' M) : be_I h g' M0 M C := by
  obtain ⟨F, a1, a2, a3, a4, a5⟩ := I
  obtain ⟨F1, b1, b2⟩ := q
  exact ⟨F.trans (F1.sub (by simp)), fun j h1 h2 h3 => by rw [b1 j h2]; exact a1 j h1 h2 h3, b2, a3.fi F1 (by simp), a4.fi F1 (by simp), by rw [b1 35 (by decide)]; exact a5⟩
theorem drop_cons {α : Type} {l : List α} {i : Nat} {a : α} {r : List α} (h : l.drop i = a :: r) : l[i]? = some a ∧ l.drop (i + 1) = r ∧ i < l.length := by
  have hi : i < l.length := by
    rcases Nat.lt_or_ge i l.length with q | q
    · exact q
    · rw [List.drop_eq_nil_of_le q] at h; cases h
  rw [List.drop_eq_getElem_cons hi] at h
  injection h with h1 h2
  exact ⟨by rw [List.getElem?_eq_getElem hi, h1], h2, hi⟩
/-- the older ones that are below come first -/
theorem l2_be_while {d s p x5 j : Nat} {M0 C G : List ent} {b : ent} {R : List ent} {h : am_H} {Q : am_O → am_H → Prop} (hM : M0.length ≤ 40000) (hj : C[j]? = some b) (hC : C.length < 60) (hG : G.length < 40000)
    (hx : ∀ g i Out, be_I h g M0 Out C → i ≤ M0.length → Out ++ mg (M0.drop i) (b :: R) = G → (M0.drop i = [] ∨ ∃ a r, M0.drop i = a :: r ∧ ¬ a.1 < b.1) → am_Ex nm_pr (d + 1) mt_Mo_below (163, [.ref 72, .int (nI s), .int (nI M0.length), .int (nI i), .int (nI p), .int (nI x5), .int (nI j)], [], g) Q) : ∀ (m i : Nat) (Out : List ent) (g : am_H), m + i = M0.length → be_I h g M0 Out C → Out ++ mg (M0.drop i) (b :: R) = G →
    am_Ex nm_pr (d + 1) mt_Mo_below (130, [.ref 72, .int (nI s), .int (nI M0.length), .int (nI i), .int (nI p), .int (nI x5), .int (nI j)], [], g) Q
  | 0, i, Out, g, hm, I, hE => by
    have e : i = M0.length := by omega
    subst e
    have l1 : ¬ nI M0.length < nI M0.length := nI_nlt (Nat.le_refl _) (by omega)
    refine am_go [135, 163] 3 ?_
    simp only [am_wp, am_stp, am_en, am_as, am_pad, am_nth, am_set, am_st1, am_st2, am_kl, am_kill, am_mem, am_fv, am_tk, am_wt, am_bk, Option.toList, List.cons_append, List.nil_append, Nat.reduceAdd, Nat.reduceEqDiff, Nat.reduceLeDiff, reduceIte, Nat.reduceLT, or_self, true_or, or_true, if_true, if_false, and_self, and_true, true_and, not_false_eq_true, not_true_eq_false, fd_Mo_below_130, fd_Mo_below_131, fd_Mo_below_132, l1]
    exact hx g _ Out I (Nat.le_refl _) hE (Or.inl (by simp))
  | m + 1, i, Out, g, hm, I, hE => by
    obtain ⟨F, a1, a2, a3, a4, a5⟩ := id I
    have hS := a2.1
    obtain ⟨⟨r39, k98, n98⟩, -⟩ := mo_ol hS
    obtain ⟨k72, -, ⟨r36, k95, n95⟩, -⟩ := mo_se hS
    have hi : i < M0.length := by omega
    have hd : M0.drop i = M0[i] :: M0.drop (i + 1) := List.drop_eq_getElem_cons hi
    obtain ⟨t1, t2, t3⟩ := a3 i _ (List.getElem?_eq_getElem hi)
    obtain ⟨s1, s2, s3⟩ := a4 j b hj
    have hjl := (List.getElem?_eq_some_iff.mp hj).1
    have l1 : nI i < nI M0.length := nI_lt hi (by omega)
    have i1 := am_inb (c := i) (N := 45000) (by omega) (by omega)
    have q1 : (nI i).toNatClampNeg = i := nI_clamp (by omega)
    have i2 := am_inb (c := j) (N := 60) (by omega) (by omega)
    have q2 : (nI j).toNatClampNeg = j := nI_clamp (by omega)
    refine am_go [135, 163] 3 ?_
    simp only [am_wp, am_stp, am_en, am_as, am_pad, am_nth, am_set, am_st1, am_st2, am_kl, am_kill, am_mem, am_fv, am_tk, am_wt, am_bk, Option.toList, List.cons_append, List.nil_append, Nat.reduceAdd, Nat.reduceEqDiff, Nat.reduceLeDiff, reduceIte, Nat.reduceLT, or_self, true_or, or_true, if_true, if_false, and_self, and_true, true_and, not_false_eq_true, not_true_eq_false, fd_Mo_below_130, fd_Mo_below_131, fd_Mo_below_132, l1]
    refine am_go [152, 163] 10 ?_
    simp only [am_wp, am_stp, am_en, am_as, am_pad, am_nth, am_set, am_st1, am_st2, am_kl, am_kill, am_mem, am_fv, am_tk, am_wt, am_bk, Option.toList, List.cons_append, List.nil_append, Nat.reduceAdd, Nat.reduceEqDiff, Nat.reduceLeDiff, reduceIte, Nat.reduceLT, or_self, true_or, or_true, if_true, if_false, and_self, and_true, true_and, not_false_eq_true, not_true_eq_false, fd_Mo_below_135, fd_Mo_below_136, fd_Mo_below_139, fd_Mo_below_140, fd_Mo_below_141, fd_Mo_below_142, fd_Mo_below_145, fd_Mo_below_147, fd_Mo_below_148, fd_Mo_below_149, k72, r39, k98, n98, i1, q1, t1, r36, k95, n95, i2, q2, s1]
    simp only [lc_lt]
    by_cases q : M0[i].1 < b.1
    · simp only [q, am_wp, am_stp, am_en, am_as, am_pad, am_nth, am_set, am_st1, am_st2, am_kl, am_kill, am_mem, am_fv, am_tk, am_wt, am_bk, Option.toList, List.cons_append, List.nil_append, Nat.reduceAdd, Nat.reduceEqDiff, Nat.reduceLeDiff, reduceIte, Nat.reduceLT, or_self, true_or, or_true, if_true, if_false, and_self, and_true, true_and, not_false_eq_true, not_true_eq_false]
      rw [hd, mg, if_pos q] at hE
      have hlo : Out.length < 40000 := by
        have := congrArg List.length hE
        simp only [List.length_append, List.length_cons] at this
        omega
      refine am_go [] 3 ?_
      simp only [am_wp, am_stp, am_en, am_as, am_pad, am_nth, am_set, am_st1, am_st2, am_kl, am_kill, am_mem, am_fv, am_tk, am_wt, am_bk, Option.toList, List.cons_append, List.nil_append, Nat.reduceAdd, Nat.reduceEqDiff, Nat.reduceLeDiff, reduceIte, Nat.reduceLT, or_self, true_or, or_true, if_true, if_false, and_self, and_true, true_and, not_false_eq_true, not_true_eq_false, fd_Mo_below_152, fd_Mo_below_153, fd_Mo_below_154, k72]
      refine am_call (l2_copy (d := d) a2 hlo a3 (List.getElem?_eq_getElem hi) (by omega)) (fun o g1 z => ?_)
      obtain ⟨rfl, Q1⟩ := z
      simp only [am_wp, am_stp, am_en, am_as, am_pad, am_nth, am_set, am_st1, am_st2, am_kl, am_kill, am_mem, am_fv, am_tk, am_wt, am_bk, Option.toList, List.cons_append, List.nil_append, Nat.reduceAdd, Nat.reduceEqDiff, Nat.reduceLeDiff, reduceIte, Nat.reduceLT, or_self, true_or, or_true, if_true, if_false, and_self, and_true, true_and, not_false_eq_true, not_true_eq_false]
      refine am_go [130] 2 ?_
      simp only [am_wp, am_stp, am_en, am_as, am_pad, am_nth, am_set, am_st1, am_st2, am_kl, am_kill, am_mem, am_fv, am_tk, am_wt, am_bk, Option.toList, List.cons_append, List.nil_append, Nat.reduceAdd, Nat.reduceEqDiff, Nat.reduceLeDiff, reduceIte, Nat.reduceLT, or_self, true_or, or_true, if_true, if_false, and_self, and_true, true_and, not_false_eq_true, not_true_eq_false, fd_Mo_below_157, fd_Mo_below_160, nI_1]
      exact l2_be_while hM hj hC hG hx m (i + 1) _ g1 (by omega) (I.ky Q1) (by rw [← hE]; simp)
    · simp only [q, am_wp, am_stp, am_en, am_as, am_pad, am_nth, am_set, am_st1, am_st2, am_kl, am_kill, am_mem, am_fv, am_tk, am_wt, am_bk, Option.toList, List.cons_append, List.nil_append, Nat.reduceAdd, Nat.reduceEqDiff, Nat.reduceLeDiff, reduceIte, Nat.reduceLT, or_self, true_or, or_true, if_true, if_false, and_self, and_true, true_and, not_false_eq_true, not_true_eq_false]
      exact hx g i Out I (by omega) hE (Or.inr ⟨_, _, hd, q⟩)
/-- one entry of the page -/
theorem l2_be_one {d s p x5 j i : Nat} {M0 Out C G : List ent} {b : ent} {R : List ent} {h g : am_H} {Q : am_O → am_H → Prop} (hM : M0.length ≤ 40000) (hMo : ∀ x ∈ M0, eo x) (hb : eo b) (hj : C[j]? = some b) (hC : C.length < 60) (hG : G.length < 40000) (I : be_I h g M0 Out C) (hi : i ≤ M0.length) (hE : Out ++ mg (M0.drop i) (b :: R) = G)
    (hx : ∀ g i Out, be_I h g M0 Out C → i ≤ M0.length → Out ++ mg (M0.drop i) R = G → am_Ex nm_pr (d + 1) mt_Mo_below (366, [.ref 72, .int (nI s), .int (nI M0.length), .int (nI i), .int (nI p), .int (nI x5), .int (nI j)], [], g) Q) :
    am_Ex nm_pr (d + 1) mt_Mo_below (130, [.ref 72, .int (nI s), .int (nI M0.length), .int (nI i), .int (nI p), .int (nI x5), .int (nI j)], [], g) Q := by
  refine l2_be_while hM hj hC hG (fun g1 i1 Out1 I1 hi1 hE1 hc => ?_) (M0.length - i) i Out g (by omega) I hE
  obtain ⟨F, a1, a2, a3, a4, a5⟩ := id I1
  have hS := a2.1
  have c31 : am_I g1 72 31 = nI Out1.length := a2.2.1
  obtain ⟨k72, r32, r33, r34, k92, n92, k93, n93, k94, n94⟩ := mo_ky hS
  obtain ⟨⟨r39, k98, n98⟩, -⟩ := mo_ol hS
  obtain ⟨-, -, ⟨r36, k95, n95⟩, ⟨r37, k96, n96⟩, ⟨r38, k97, n97⟩⟩ := mo_se hS
  obtain ⟨s1, s2, s3⟩ := a4 j b hj
  have hjl := (List.getElem?_eq_some_iff.mp hj).1
  have ij := am_inb (c := j) (N := 60) (by omega) (by omega)
  have qj : (nI j).toNatClampNeg = j := nI_clamp (by omega)
  -- the page's entry comes in
  have take : Out1 ++ b :: mg (M0.drop i1) R = G → am_Ex nm_pr (d + 1) mt_Mo_below (293, [.ref 72, .int (nI s), .int (nI M0.length), .int (nI i1), .int (nI p), .int (nI x5), .int (nI j)], [], g1) Q := by
    intro hE2
    have hlo : Out1.length < 40000 := by
      have := congrArg List.length hE2
      simp only [List.length_append, List.length_cons] at this
      omega
    have iO := am_inb (c := Out1.length) (N := 45000) (by omega) (by omega)
    have qO : (nI Out1.length).toNatClampNeg = Out1.length := nI_clamp (by omega)
    refine am_go [] 9 ?_
    simp only [am_wp, am_stp, am_en, am_as, am_pad, am_nth, am_set, am_st1, am_st2, am_kl, am_kill, am_mem, am_fv, am_tk, am_wt, am_bk, Option.toList, List.cons_append, List.nil_append, Nat.reduceAdd, Nat.reduceEqDiff, Nat.reduceLeDiff, reduceIte, Nat.reduceLT, or_self, true_or, or_true, if_true, if_false, and_self, and_true, true_and, not_false_eq_true, not_true_eq_false, fd_Mo_below_293, fd_Mo_below_294, fd_Mo_below_297, fd_Mo_below_298, fd_Mo_below_301, fd_Mo_below_302, fd_Mo_below_305, fd_Mo_below_307, fd_Mo_below_308, k72, r32, c31, r36, k95, n95, ij, qj, s1, k92, n92, iO, qO]
    refine am_go [] 9 ?_
    simp only [am_wp, am_stp, am_en, am_as, am_pad, am_nth, am_set, am_st1, am_st2, am_kl, am_kill, am_mem, am_fv, am_tk, am_wt, am_bk, Option.toList, List.cons_append, List.nil_append, Nat.reduceAdd, Nat.reduceEqDiff, Nat.reduceLeDiff, reduceIte, Nat.reduceLT, or_self, true_or, or_true, if_true, if_false, and_self, and_true, true_and, not_false_eq_true, not_true_eq_false, fd_Mo_below_309, fd_Mo_below_310, fd_Mo_below_313, fd_Mo_below_314, fd_Mo_below_317, fd_Mo_below_318, fd_Mo_below_321, fd_Mo_below_323, fd_Mo_below_324, hx_nx_sI, hx_ce_sI, hx_sl_sI, hx_kd_sI, hx_ln_sI, hx_I_sI, hx_L_sI, hx_R_sI, hx_nx_sL, hx_ce_sL, hx_sl_sL, hx_kd_sL, hx_ln_sL, hx_I_sL, hx_L_sL, hx_R_sL, hx_nx_sR, hx_ce_sR, hx_sl_sR, hx_kd_sR, hx_ln_sR, hx_I_sR, hx_L_sR, hx_R_sR, hx_nx_al, hx_ce_al, hx_sl_al, hx_kd_al, hx_ln_al, hx_I_al, hx_L_al, hx_R_al, hx_nx_row, hx_ce_row, hx_sl_row, hx_kd_row, hx_ln_row, hx_I_row, hx_L_row, hx_R_row, hx_nx_mk, hx_kd_mk, hx_ln_mk, hx_I_mk, hx_L_mk, hx_R_mk, k72, r33, c31, r37, k96, n96, ij, qj, s2, k93, n93, iO, qO]
    have fin : ∀ v : Int64, v = b.2.2 → am_Ex nm_pr (d + 1) mt_Mo_below (355, [.ref 72, .int (nI s), .int (nI M0.length), .int (nI i1), .int (nI p), .int (nI x5), .int (nI j)], [.long v, .int (nI Out1.length), .ref 94], am_sI (am_sL g1 92 Out1.length b.1) 93 Out1.length b.2.1) Q := by
      intro v hv
      subst hv
      refine am_go [366] 7 ?_
      simp only [am_wp, am_stp, am_en, am_as, am_pad, am_nth, am_set, am_st1, am_st2, am_kl, am_kill, am_mem, am_fv, am_tk, am_wt, am_bk, Option.toList, List.cons_append, List.nil_append, Nat.reduceAdd, Nat.reduceEqDiff, Nat.reduceLeDiff, reduceIte, Nat.reduceLT, or_self, true_or, or_true, if_true, if_false, and_self, and_true, true_and, not_false_eq_true, not_true_eq_false, fd_Mo_below_355, fd_Mo_below_356, fd_Mo_below_357, fd_Mo_below_358, fd_Mo_below_361, fd_Mo_below_362, fd_Mo_below_363, hx_nx_sI, hx_ce_sI, hx_sl_sI, hx_kd_sI, hx_ln_sI, hx_I_sI, hx_L_sI, hx_R_sI, hx_nx_sL, hx_ce_sL, hx_sl_sL, hx_kd_sL, hx_ln_sL, hx_I_sL, hx_L_sL, hx_R_sL, hx_nx_sR, hx_ce_sR, hx_sl_sR, hx_kd_sR, hx_ln_sR, hx_I_sR, hx_L_sR, hx_R_sR, hx_nx_al, hx_ce_al, hx_sl_al, hx_kd_al, hx_ln_al, hx_I_al, hx_L_al, hx_R_al, hx_nx_row, hx_ce_row, hx_sl_row, hx_kd_row, hx_ln_row, hx_I_row, hx_L_row, hx_R_row, hx_nx_mk, hx_kd_mk, hx_ln_mk, hx_I_mk, hx_L_mk, hx_R_mk, k94, n94, iO, qO, k72, c31, nI_1]
      exact hx _ i1 (Out1 ++ [b]) (I1.ky (a2.app hlo)) hi1 (by rw [← hE2]; simp)
    refine am_go [344, 348] 10 ?_
    simp only [am_wp, am_stp, am_en, am_as, am_pad, am_nth, am_set, am_st1, am_st2, am_kl, am_kill, am_mem, am_fv, am_tk, am_wt, am_bk, Option.toList, List.cons_append, List.nil_append, Nat.reduceAdd, Nat.reduceEqDiff, Nat.reduceLeDiff, reduceIte, Nat.reduceLT, or_self, true_or, or_true, if_true, if_false, and_self, and_true, true_and, not_false_eq_true, not_true_eq_false, fd_Mo_below_325, fd_Mo_below_326, fd_Mo_below_329, fd_Mo_below_330, fd_Mo_below_333, fd_Mo_below_334, fd_Mo_below_337, fd_Mo_below_339, fd_Mo_below_340, fd_Mo_below_341, hx_nx_sI, hx_ce_sI, hx_sl_sI, hx_kd_sI, hx_ln_sI, hx_I_sI, hx_L_sI, hx_R_sI, hx_nx_sL, hx_ce_sL, hx_sl_sL, hx_kd_sL, hx_ln_sL, hx_I_sL, hx_L_sL, hx_R_sL, hx_nx_sR, hx_ce_sR, hx_sl_sR, hx_kd_sR, hx_ln_sR, hx_I_sR, hx_L_sR, hx_R_sR, hx_nx_al, hx_ce_al, hx_sl_al, hx_kd_al, hx_ln_al, hx_I_al, hx_L_al, hx_R_al, hx_nx_row, hx_ce_row, hx_sl_row, hx_kd_row, hx_ln_row, hx_I_row, hx_L_row, hx_R_row, hx_nx_mk, hx_kd_mk, hx_ln_mk, hx_I_mk, hx_L_mk, hx_R_mk, k72, r34, c31, r37, k96, n96, ij, qj, s2]
    by_cases q : b.2.1 = 2
    · have fin0 := fin 0 (hb.2 q).symm
      simp only [q, am_wp, am_stp, am_en, am_as, am_pad, am_nth, am_set, am_st1, am_st2, am_kl, am_kill, am_mem, am_fv, am_tk, am_wt, am_bk, Option.toList, List.cons_append, List.nil_append, Nat.reduceAdd, Nat.reduceEqDiff, Nat.reduceLeDiff, reduceIte, Nat.reduceLT, or_self, true_or, or_true, if_true, if_false, and_self, and_true, true_and, not_false_eq_true, not_true_eq_false] at fin0 ⊢
      refine am_go [355] 2 ?_
      simp only [am_wp, am_stp, am_en, am_as, am_pad, am_nth, am_set, am_st1, am_st2, am_kl, am_kill, am_mem, am_fv, am_tk, am_wt, am_bk, Option.toList, List.cons_append, List.nil_append, Nat.reduceAdd, Nat.reduceEqDiff, Nat.reduceLeDiff, reduceIte, Nat.reduceLT, or_self, true_or, or_true, if_true, if_false, and_self, and_true, true_and, not_false_eq_true, not_true_eq_false, fd_Mo_below_344, fd_Mo_below_345]
      exact fin0
    · simp only [q, am_wp, am_stp, am_en, am_as, am_pad, am_nth, am_set, am_st1, am_st2, am_kl, am_kill, am_mem, am_fv, am_tk, am_wt, am_bk, Option.toList, List.cons_append, List.nil_append, Nat.reduceAdd, Nat.reduceEqDiff, Nat.reduceLeDiff, reduceIte, Nat.reduceLT, or_self, true_or, or_true, if_true, if_false, and_self, and_true, true_and, not_false_eq_true, not_true_eq_false]
      refine am_go [355] 4 ?_
      simp only [am_wp, am_stp, am_en, am_as, am_pad, am_nth, am_set, am_st1, am_st2, am_kl, am_kill, am_mem, am_fv, am_tk, am_wt, am_bk, Option.toList, List.cons_append, List.nil_append, Nat.reduceAdd, Nat.reduceEqDiff, Nat.reduceLeDiff, reduceIte, Nat.reduceLT, or_self, true_or, or_true, if_true, if_false, and_self, and_true, true_and, not_false_eq_true, not_true_eq_false, fd_Mo_below_348, fd_Mo_below_349, fd_Mo_below_352, fd_Mo_below_354, hx_nx_sI, hx_ce_sI, hx_sl_sI, hx_kd_sI, hx_ln_sI, hx_I_sI, hx_L_sI, hx_R_sI, hx_nx_sL, hx_ce_sL, hx_sl_sL, hx_kd_sL, hx_ln_sL, hx_I_sL, hx_L_sL, hx_R_sL, hx_nx_sR, hx_ce_sR, hx_sl_sR, hx_kd_sR, hx_ln_sR, hx_I_sR, hx_L_sR, hx_R_sR, hx_nx_al, hx_ce_al, hx_sl_al, hx_kd_al, hx_ln_al, hx_I_al, hx_L_al, hx_R_al, hx_nx_row, hx_ce_row, hx_sl_row, hx_kd_row, hx_ln_row, hx_I_row, hx_L_row, hx_R_row, hx_nx_mk, hx_kd_mk, hx_ln_mk, hx_I_mk, hx_L_mk, hx_R_mk, k72, r38, k97, n97, ij, qj, s3]
      exact fin _ rfl
  rcases hc with hc | ⟨a, r, hc, hlt⟩
  · rw [hc] at hE1
    have e : i1 = M0.length := by
      have := congrArg List.length hc
      simp at this
      omega
    have l1 : ¬ nI i1 < nI M0.length := nI_nlt (by omega) (by omega)
    refine am_go [168, 293] 3 ?_
    simp only [am_wp, am_stp, am_en, am_as, am_pad, am_nth, am_set, am_st1, am_st2, am_kl, am_kill, am_mem, am_fv, am_tk, am_wt, am_bk, Option.toList, List.cons_append, List.nil_append, Nat.reduceAdd, Nat.reduceEqDiff, Nat.reduceLeDiff, reduceIte, Nat.reduceLT, or_self, true_or, or_true, if_true, if_false, and_self, and_true, true_and, not_false_eq_true, not_true_eq_false, fd_Mo_below_163, fd_Mo_below_164, fd_Mo_below_165, l1]
    refine take ?_
    rw [hc, ← hE1]
    simp [mg]
  · obtain ⟨ha, hr, hil⟩ := drop_cons hc
    rw [hc, mg, if_neg hlt] at hE1
    obtain ⟨t1, t2, t3⟩ := a3 i1 a ha
    have hao : eo a := hMo a (List.mem_of_getElem? ha)
    have l1 : nI i1 < nI M0.length := nI_lt hil (by omega)
    have iI := am_inb (c := i1) (N := 45000) (by omega) (by omega)
    have qI : (nI i1).toNatClampNeg = i1 := nI_clamp (by omega)
    refine am_go [168, 293] 3 ?_
    simp only [am_wp, am_stp, am_en, am_as, am_pad, am_nth, am_set, am_st1, am_st2, am_kl, am_kill, am_mem, am_fv, am_tk, am_wt, am_bk, Option.toList, List.cons_append, List.nil_append, Nat.reduceAdd, Nat.reduceEqDiff, Nat.reduceLeDiff, reduceIte, Nat.reduceLT, or_self, true_or, or_true, if_true, if_false, and_self, and_true, true_and, not_false_eq_true, not_true_eq_false, fd_Mo_below_163, fd_Mo_below_164, fd_Mo_below_165, l1]
    refine am_go [185, 293] 10 ?_
    simp only [am_wp, am_stp, am_en, am_as, am_pad, am_nth, am_set, am_st1, am_st2, am_kl, am_kill, am_mem, am_fv, am_tk, am_wt, am_bk, Option.toList, List.cons_append, List.nil_append, Nat.reduceAdd, Nat.reduceEqDiff, Nat.reduceLeDiff, reduceIte, Nat.reduceLT, or_self, true_or, or_true, if_true, if_false, and_self, and_true, true_and, not_false_eq_true, not_true_eq_false, fd_Mo_below_168, fd_Mo_below_169, fd_Mo_below_172, fd_Mo_below_173, fd_Mo_below_174, fd_Mo_below_175, fd_Mo_below_178, fd_Mo_below_180, fd_Mo_below_181, fd_Mo_below_182, k72, r39, k98, n98, iI, qI, t1, r36, k95, n95, ij, qj, s1]
    simp only [lc_eq]
    by_cases q : a.1 = b.1
    · rw [if_pos q] at hE1
      simp only [q, am_wp, am_stp, am_en, am_as, am_pad, am_nth, am_set, am_st1, am_st2, am_kl, am_kill, am_mem, am_fv, am_tk, am_wt, am_bk, Option.toList, List.cons_append, List.nil_append, Nat.reduceAdd, Nat.reduceEqDiff, Nat.reduceLeDiff, reduceIte, Nat.reduceLT, or_self, true_or, or_true, if_true, if_false, and_self, and_true, true_and, not_false_eq_true, not_true_eq_false]
      have hlo : Out1.length < 40000 := by
        have := congrArg List.length hE1
        simp only [List.length_append, List.length_cons] at this
        omega
      have iO := am_inb (c := Out1.length) (N := 45000) (by omega) (by omega)
      have qO : (nI Out1.length).toNatClampNeg = Out1.length := nI_clamp (by omega)
      have em : nI (Out1.length + 1) - 1 = nI Out1.length := nI_pred _
      refine am_go [] 3 ?_
      simp only [am_wp, am_stp, am_en, am_as, am_pad, am_nth, am_set, am_st1, am_st2, am_kl, am_kill, am_mem, am_fv, am_tk, am_wt, am_bk, Option.toList, List.cons_append, List.nil_append, Nat.reduceAdd, Nat.reduceEqDiff, Nat.reduceLeDiff, reduceIte, Nat.reduceLT, or_self, true_or, or_true, if_true, if_false, and_self, and_true, true_and, not_false_eq_true, not_true_eq_false, fd_Mo_below_185, fd_Mo_below_186, fd_Mo_below_187, k72]
      refine am_call (l2_copy (d := d) a2 hlo a3 ha (by omega)) (fun o g2 z => ?_)
      obtain ⟨rfl, Q2⟩ := z
      have I2 := I1.ky Q2
      obtain ⟨F2, b1, b2, b3, b4, b5⟩ := id I2
      obtain ⟨k72', r32', r33', r34', k92', n92', k93', n93', k94', n94'⟩ := mo_ky b2.1
      obtain ⟨-, -, ⟨r36', k95', n95'⟩, ⟨r37', k96', n96'⟩, ⟨r38', k97', n97'⟩⟩ := mo_se b2.1
      obtain ⟨u1, u2, u3⟩ := b4 j b hj
      have d31 : am_I g2 72 31 = nI (Out1.length + 1) := by rw [b2.2.1]; simp
      obtain ⟨v1, v2, v3⟩ := b2.2.2.2 Out1.length a (by simp)
      simp only [am_wp, am_stp, am_en, am_as, am_pad, am_nth, am_set, am_st1, am_st2, am_kl, am_kill, am_mem, am_fv, am_tk, am_wt, am_bk, Option.toList, List.cons_append, List.nil_append, Nat.reduceAdd, Nat.reduceEqDiff, Nat.reduceLeDiff, reduceIte, Nat.reduceLT, or_self, true_or, or_true, if_true, if_false, and_self, and_true, true_and, not_false_eq_true, not_true_eq_false]
      refine am_go [208, 366] 10 ?_
      simp only [am_wp, am_stp, am_en, am_as, am_pad, am_nth, am_set, am_st1, am_st2, am_kl, am_kill, am_mem, am_fv, am_tk, am_wt, am_bk, Option.toList, List.cons_append, List.nil_append, Nat.reduceAdd, Nat.reduceEqDiff, Nat.reduceLeDiff, reduceIte, Nat.reduceLT, or_self, true_or, or_true, if_true, if_false, and_self, and_true, true_and, not_false_eq_true, not_true_eq_false, fd_Mo_below_190, fd_Mo_below_193, fd_Mo_below_194, fd_Mo_below_197, fd_Mo_below_198, fd_Mo_below_201, fd_Mo_below_202, fd_Mo_below_203, fd_Mo_below_204, fd_Mo_below_205, nI_1, k72', r33', d31, em, k93', n93', iO, qO, v2]
      by_cases k3 : a.2.1 = 3
      · simp only [k3, am_wp, am_stp, am_en, am_as, am_pad, am_nth, am_set, am_st1, am_st2, am_kl, am_kill, am_mem, am_fv, am_tk, am_wt, am_bk, Option.toList, List.cons_append, List.nil_append, Nat.reduceAdd, Nat.reduceEqDiff, Nat.reduceLeDiff, reduceIte, Nat.reduceLT, or_self, true_or, or_true, if_true, if_false, and_self, and_true, true_and, not_false_eq_true, not_true_eq_false]
        -- both are added
        have fin2 : ∀ (v : Int64) (k : Int32), v = fl_V 3 a.2.2 b.2.1 b.2.2 → k = fl_K 3 b.2.1 → am_Ex nm_pr (d + 1) mt_Mo_below (289, [.ref 72, .int (nI s), .int (nI M0.length), .int (nI (i1 + 1)), .int (nI p), .int (nI x5), .int (nI j)], [.int k, .int (nI Out1.length), .ref 93], am_sL g2 94 Out1.length v) Q := by
          intro v k hv hk
          refine am_go [366] 2 ?_
          simp only [am_wp, am_stp, am_en, am_as, am_pad, am_nth, am_set, am_st1, am_st2, am_kl, am_kill, am_mem, am_fv, am_tk, am_wt, am_bk, Option.toList, List.cons_append, List.nil_append, Nat.reduceAdd, Nat.reduceEqDiff, Nat.reduceLeDiff, reduceIte, Nat.reduceLT, or_self, true_or, or_true, if_true, if_false, and_self, and_true, true_and, not_false_eq_true, not_true_eq_false, fd_Mo_below_289, fd_Mo_below_290, hx_kd_sL, hx_ln_sL, k93', n93', iO, qO]
          have F3 : am_fi [93, 94] g2 (am_sI (am_sL g2 94 Out1.length v) 93 Out1.length k) := (am_fi.refl.sL (by simp)).sI (by simp)
          have ecb : cb a b = (a.1, k, v) := by
            unfold cb
            rw [k3, hk, hv]
          refine hx _ (i1 + 1) (Out1 ++ [cb a b]) ⟨F2.trans (F3.sub (by simp)), fun x h1 h2 h3 => by simp only [hx_nx_sI, hx_ce_sI, hx_sl_sI, hx_kd_sI, hx_ln_sI, hx_I_sI, hx_L_sI, hx_R_sI, hx_nx_sL, hx_ce_sL, hx_sl_sL, hx_kd_sL, hx_ln_sL, hx_I_sL, hx_L_sL, hx_R_sL, hx_nx_sR, hx_ce_sR, hx_sl_sR, hx_kd_sR, hx_ln_sR, hx_I_sR, hx_L_sR, hx_R_sR, hx_nx_al, hx_ce_al, hx_sl_al, hx_kd_al, hx_ln_al, hx_I_al, hx_L_al, hx_R_al, hx_nx_row, hx_ce_row, hx_sl_row, hx_kd_row, hx_ln_row, hx_I_row, hx_L_row, hx_R_row, hx_nx_mk, hx_kd_mk, hx_ln_mk, hx_I_mk, hx_L_mk, hx_R_mk, am_wp, am_stp, am_en, am_as, am_pad, am_nth, am_set, am_st1, am_st2, am_kl, am_kill, am_mem, am_fv, am_tk, am_wt, am_bk, Option.toList, List.cons_append, List.nil_append, Nat.reduceAdd, Nat.reduceEqDiff, Nat.reduceLeDiff, reduceIte, Nat.reduceLT, or_self, true_or, or_true, if_true, if_false, and_self, and_true, true_and, not_false_eq_true, not_true_eq_false]; exact b1 x h1 h2 h3, ⟨b2.1.fi F3, by simp only [hx_nx_sI, hx_ce_sI, hx_sl_sI, hx_kd_sI, hx_ln_sI, hx_I_sI, hx_L_sI, hx_R_sI, hx_nx_sL, hx_ce_sL, hx_sl_sL, hx_kd_sL, hx_ln_sL, hx_I_sL, hx_L_sL, hx_R_sL, hx_nx_sR, hx_ce_sR, hx_sl_sR, hx_kd_sR, hx_ln_sR, hx_I_sR, hx_L_sR, hx_R_sR, hx_nx_al, hx_ce_al, hx_sl_al, hx_kd_al, hx_ln_al, hx_I_al, hx_L_al, hx_R_al, hx_nx_row, hx_ce_row, hx_sl_row, hx_kd_row, hx_ln_row, hx_I_row, hx_L_row, hx_R_row, hx_nx_mk, hx_kd_mk, hx_ln_mk, hx_I_mk, hx_L_mk, hx_R_mk, am_wp, am_stp, am_en, am_as, am_pad, am_nth, am_set, am_st1, am_st2, am_kl, am_kill, am_mem, am_fv, am_tk, am_wt, am_bk, Option.toList, List.cons_append, List.nil_append, Nat.reduceAdd, Nat.reduceEqDiff, Nat.reduceLeDiff, reduceIte, Nat.reduceLT, or_self, true_or, or_true, if_true, if_false, and_self, and_true, true_and, not_false_eq_true, not_true_eq_false, List.length_append, List.length_cons, List.length_nil]; exact d31, by simp; omega, fun x y hy => ?_⟩, b3.fi F3 (by simp), b4.fi F3 (by simp), by simp only [hx_nx_sI, hx_ce_sI, hx_sl_sI, hx_kd_sI, hx_ln_sI, hx_I_sI, hx_L_sI, hx_R_sI, hx_nx_sL, hx_ce_sL, hx_sl_sL, hx_kd_sL, hx_ln_sL, hx_I_sL, hx_L_sL, hx_R_sL, hx_nx_sR, hx_ce_sR, hx_sl_sR, hx_kd_sR, hx_ln_sR, hx_I_sR, hx_L_sR, hx_R_sR, hx_nx_al, hx_ce_al, hx_sl_al, hx_kd_al, hx_ln_al, hx_I_al, hx_L_al, hx_R_al, hx_nx_row, hx_ce_row, hx_sl_row, hx_kd_row, hx_ln_row, hx_I_row, hx_L_row, hx_R_row, hx_nx_mk, hx_kd_mk, hx_ln_mk, hx_I_mk, hx_L_mk, hx_R_mk, am_wp, am_stp, am_en, am_as, am_pad, am_nth, am_set, am_st1, am_st2, am_kl, am_kill, am_mem, am_fv, am_tk, am_wt, am_bk, Option.toList, List.cons_append, List.nil_append, Nat.reduceAdd, Nat.reduceEqDiff, Nat.reduceLeDiff, reduceIte, Nat.reduceLT, or_self, true_or, or_true, if_true, if_false, and_self, and_true, true_and, not_false_eq_true, not_true_eq_false]; exact b5⟩ (by omega) (by rw [hr, ← hE1]; simp)
          by_cases hxl : x < Out1.length
          · rw [List.getElem?_append_left hxl] at hy
            obtain ⟨w1, w2, w3⟩ := b2.2.2.2 x y (by rw [List.getElem?_append_left hxl]; exact hy)
            refine ⟨?_, ?_, ?_⟩
            · simp only [hx_nx_sI, hx_ce_sI, hx_sl_sI, hx_kd_sI, hx_ln_sI, hx_I_sI, hx_L_sI, hx_R_sI, hx_nx_sL, hx_ce_sL, hx_sl_sL, hx_kd_sL, hx_ln_sL, hx_I_sL, hx_L_sL, hx_R_sL, hx_nx_sR, hx_ce_sR, hx_sl_sR, hx_kd_sR, hx_ln_sR, hx_I_sR, hx_L_sR, hx_R_sR, hx_nx_al, hx_ce_al, hx_sl_al, hx_kd_al, hx_ln_al, hx_I_al, hx_L_al, hx_R_al, hx_nx_row, hx_ce_row, hx_sl_row, hx_kd_row, hx_ln_row, hx_I_row, hx_L_row, hx_R_row, hx_nx_mk, hx_kd_mk, hx_ln_mk, hx_I_mk, hx_L_mk, hx_R_mk, am_wp, am_stp, am_en, am_as, am_pad, am_nth, am_set, am_st1, am_st2, am_kl, am_kill, am_mem, am_fv, am_tk, am_wt, am_bk, Option.toList, List.cons_append, List.nil_append, Nat.reduceAdd, Nat.reduceEqDiff, Nat.reduceLeDiff, reduceIte, Nat.reduceLT, or_self, true_or, or_true, if_true, if_false, and_self, and_true, true_and, not_false_eq_true, not_true_eq_false]; exact w1
            · simp only [hx_nx_sI, hx_ce_sI, hx_sl_sI, hx_kd_sI, hx_ln_sI, hx_I_sI, hx_L_sI, hx_R_sI, hx_nx_sL, hx_ce_sL, hx_sl_sL, hx_kd_sL, hx_ln_sL, hx_I_sL, hx_L_sL, hx_R_sL, hx_nx_sR, hx_ce_sR, hx_sl_sR, hx_kd_sR, hx_ln_sR, hx_I_sR, hx_L_sR, hx_R_sR, hx_nx_al, hx_ce_al, hx_sl_al, hx_kd_al, hx_ln_al, hx_I_al, hx_L_al, hx_R_al, hx_nx_row, hx_ce_row, hx_sl_row, hx_kd_row, hx_ln_row, hx_I_row, hx_L_row, hx_R_row, hx_nx_mk, hx_kd_mk, hx_ln_mk, hx_I_mk, hx_L_mk, hx_R_mk, am_wp, am_stp, am_en, am_as, am_pad, am_nth, am_set, am_st1, am_st2, am_kl, am_kill, am_mem, am_fv, am_tk, am_wt, am_bk, Option.toList, List.cons_append, List.nil_append, Nat.reduceAdd, Nat.reduceEqDiff, Nat.reduceLeDiff, reduceIte, Nat.reduceLT, or_self, true_or, or_true, if_true, if_false, and_self, and_true, true_and, not_false_eq_true, not_true_eq_false]; rw [if_neg (by omega)]; exact w2
            · simp only [hx_nx_sI, hx_ce_sI, hx_sl_sI, hx_kd_sI, hx_ln_sI, hx_I_sI, hx_L_sI, hx_R_sI, hx_nx_sL, hx_ce_sL, hx_sl_sL, hx_kd_sL, hx_ln_sL, hx_I_sL, hx_L_sL, hx_R_sL, hx_nx_sR, hx_ce_sR, hx_sl_sR, hx_kd_sR, hx_ln_sR, hx_I_sR, hx_L_sR, hx_R_sR, hx_nx_al, hx_ce_al, hx_sl_al, hx_kd_al, hx_ln_al, hx_I_al, hx_L_al, hx_R_al, hx_nx_row, hx_ce_row, hx_sl_row, hx_kd_row, hx_ln_row, hx_I_row, hx_L_row, hx_R_row, hx_nx_mk, hx_kd_mk, hx_ln_mk, hx_I_mk, hx_L_mk, hx_R_mk, am_wp, am_stp, am_en, am_as, am_pad, am_nth, am_set, am_st1, am_st2, am_kl, am_kill, am_mem, am_fv, am_tk, am_wt, am_bk, Option.toList, List.cons_append, List.nil_append, Nat.reduceAdd, Nat.reduceEqDiff, Nat.reduceLeDiff, reduceIte, Nat.reduceLT, or_self, true_or, or_true, if_true, if_false, and_self, and_true, true_and, not_false_eq_true, not_true_eq_false]; rw [if_neg (by omega)]; exact w3
          · have ex : x = Out1.length := by
              have := (List.getElem?_eq_some_iff.mp hy).1
              simp at this
              omega
            subst ex
            simp at hy
            subst hy
            rw [ecb]
            refine ⟨?_, ?_, ?_⟩
            · simp only [hx_nx_sI, hx_ce_sI, hx_sl_sI, hx_kd_sI, hx_ln_sI, hx_I_sI, hx_L_sI, hx_R_sI, hx_nx_sL, hx_ce_sL, hx_sl_sL, hx_kd_sL, hx_ln_sL, hx_I_sL, hx_L_sL, hx_R_sL, hx_nx_sR, hx_ce_sR, hx_sl_sR, hx_kd_sR, hx_ln_sR, hx_I_sR, hx_L_sR, hx_R_sR, hx_nx_al, hx_ce_al, hx_sl_al, hx_kd_al, hx_ln_al, hx_I_al, hx_L_al, hx_R_al, hx_nx_row, hx_ce_row, hx_sl_row, hx_kd_row, hx_ln_row, hx_I_row, hx_L_row, hx_R_row, hx_nx_mk, hx_kd_mk, hx_ln_mk, hx_I_mk, hx_L_mk, hx_R_mk, am_wp, am_stp, am_en, am_as, am_pad, am_nth, am_set, am_st1, am_st2, am_kl, am_kill, am_mem, am_fv, am_tk, am_wt, am_bk, Option.toList, List.cons_append, List.nil_append, Nat.reduceAdd, Nat.reduceEqDiff, Nat.reduceLeDiff, reduceIte, Nat.reduceLT, or_self, true_or, or_true, if_true, if_false, and_self, and_true, true_and, not_false_eq_true, not_true_eq_false]; exact v1
            · simp only [hx_nx_sI, hx_ce_sI, hx_sl_sI, hx_kd_sI, hx_ln_sI, hx_I_sI, hx_L_sI, hx_R_sI, hx_nx_sL, hx_ce_sL, hx_sl_sL, hx_kd_sL, hx_ln_sL, hx_I_sL, hx_L_sL, hx_R_sL, hx_nx_sR, hx_ce_sR, hx_sl_sR, hx_kd_sR, hx_ln_sR, hx_I_sR, hx_L_sR, hx_R_sR, hx_nx_al, hx_ce_al, hx_sl_al, hx_kd_al, hx_ln_al, hx_I_al, hx_L_al, hx_R_al, hx_nx_row, hx_ce_row, hx_sl_row, hx_kd_row, hx_ln_row, hx_I_row, hx_L_row, hx_R_row, hx_nx_mk, hx_kd_mk, hx_ln_mk, hx_I_mk, hx_L_mk, hx_R_mk, am_wp, am_stp, am_en, am_as, am_pad, am_nth, am_set, am_st1, am_st2, am_kl, am_kill, am_mem, am_fv, am_tk, am_wt, am_bk, Option.toList, List.cons_append, List.nil_append, Nat.reduceAdd, Nat.reduceEqDiff, Nat.reduceLeDiff, reduceIte, Nat.reduceLT, or_self, true_or, or_true, if_true, if_false, and_self, and_true, true_and, not_false_eq_true, not_true_eq_false]
            · simp only [hx_nx_sI, hx_ce_sI, hx_sl_sI, hx_kd_sI, hx_ln_sI, hx_I_sI, hx_L_sI, hx_R_sI, hx_nx_sL, hx_ce_sL, hx_sl_sL, hx_kd_sL, hx_ln_sL, hx_I_sL, hx_L_sL, hx_R_sL, hx_nx_sR, hx_ce_sR, hx_sl_sR, hx_kd_sR, hx_ln_sR, hx_I_sR, hx_L_sR, hx_R_sR, hx_nx_al, hx_ce_al, hx_sl_al, hx_kd_al, hx_ln_al, hx_I_al, hx_L_al, hx_R_al, hx_nx_row, hx_ce_row, hx_sl_row, hx_kd_row, hx_ln_row, hx_I_row, hx_L_row, hx_R_row, hx_nx_mk, hx_kd_mk, hx_ln_mk, hx_I_mk, hx_L_mk, hx_R_mk, am_wp, am_stp, am_en, am_as, am_pad, am_nth, am_set, am_st1, am_st2, am_kl, am_kill, am_mem, am_fv, am_tk, am_wt, am_bk, Option.toList, List.cons_append, List.nil_append, Nat.reduceAdd, Nat.reduceEqDiff, Nat.reduceLeDiff, reduceIte, Nat.reduceLT, or_self, true_or, or_true, if_true, if_false, and_self, and_true, true_and, not_false_eq_true, not_true_eq_false]
        have fin1 : ∀ v : Int64, v = fl_V 3 a.2.2 b.2.1 b.2.2 → am_Ex nm_pr (d + 1) mt_Mo_below (262, [.ref 72, .int (nI s), .int (nI M0.length), .int (nI (i1 + 1)), .int (nI p), .int (nI x5), .int (nI j)], [.long v, .int (nI Out1.length), .ref 94], g2) Q := by
          intro v hv
          refine am_go [284, 288] 13 ?_
          simp only [am_wp, am_stp, am_en, am_as, am_pad, am_nth, am_set, am_st1, am_st2, am_kl, am_kill, am_mem, am_fv, am_tk, am_wt, am_bk, Option.toList, List.cons_append, List.nil_append, Nat.reduceAdd, Nat.reduceEqDiff, Nat.reduceLeDiff, reduceIte, Nat.reduceLT, or_self, true_or, or_true, if_true, if_false, and_self, and_true, true_and, not_false_eq_true, not_true_eq_false, fd_Mo_below_262, fd_Mo_below_263, fd_Mo_below_264, fd_Mo_below_267, fd_Mo_below_268, fd_Mo_below_271, fd_Mo_below_272, fd_Mo_below_273, fd_Mo_below_274, fd_Mo_below_277, fd_Mo_below_279, fd_Mo_below_280, fd_Mo_below_281, hx_nx_sI, hx_ce_sI, hx_sl_sI, hx_kd_sI, hx_ln_sI, hx_I_sI, hx_L_sI, hx_R_sI, hx_nx_sL, hx_ce_sL, hx_sl_sL, hx_kd_sL, hx_ln_sL, hx_I_sL, hx_L_sL, hx_R_sL, hx_nx_sR, hx_ce_sR, hx_sl_sR, hx_kd_sR, hx_ln_sR, hx_I_sR, hx_L_sR, hx_R_sR, hx_nx_al, hx_ce_al, hx_sl_al, hx_kd_al, hx_ln_al, hx_I_al, hx_L_al, hx_R_al, hx_nx_row, hx_ce_row, hx_sl_row, hx_kd_row, hx_ln_row, hx_I_row, hx_L_row, hx_R_row, hx_nx_mk, hx_kd_mk, hx_ln_mk, hx_I_mk, hx_L_mk, hx_R_mk, k94', n94', iO, qO, k72', r33', d31, em, r37', k96', n96', ij, qj, u2]
          by_cases o3 : b.2.1 = 3
          · simp only [o3, am_wp, am_stp, am_en, am_as, am_pad, am_nth, am_set, am_st1, am_st2, am_kl, am_kill, am_mem, am_fv, am_tk, am_wt, am_bk, Option.toList, List.cons_append, List.nil_append, Nat.reduceAdd, Nat.reduceEqDiff, Nat.reduceLeDiff, reduceIte, Nat.reduceLT, or_self, true_or, or_true, if_true, if_false, and_self, and_true, true_and, not_false_eq_true, not_true_eq_false]
            refine am_go [289] 2 ?_
            simp only [am_wp, am_stp, am_en, am_as, am_pad, am_nth, am_set, am_st1, am_st2, am_kl, am_kill, am_mem, am_fv, am_tk, am_wt, am_bk, Option.toList, List.cons_append, List.nil_append, Nat.reduceAdd, Nat.reduceEqDiff, Nat.reduceLeDiff, reduceIte, Nat.reduceLT, or_self, true_or, or_true, if_true, if_false, and_self, and_true, true_and, not_false_eq_true, not_true_eq_false, fd_Mo_below_284, fd_Mo_below_285]
            exact fin2 v 3 hv (by rw [o3]; decide)
          · simp only [o3, am_wp, am_stp, am_en, am_as, am_pad, am_nth, am_set, am_st1, am_st2, am_kl, am_kill, am_mem, am_fv, am_tk, am_wt, am_bk, Option.toList, List.cons_append, List.nil_append, Nat.reduceAdd, Nat.reduceEqDiff, Nat.reduceLeDiff, reduceIte, Nat.reduceLT, or_self, true_or, or_true, if_true, if_false, and_self, and_true, true_and, not_false_eq_true, not_true_eq_false]
            refine am_go [289] 1 ?_
            simp only [am_wp, am_stp, am_en, am_as, am_pad, am_nth, am_set, am_st1, am_st2, am_kl, am_kill, am_mem, am_fv, am_tk, am_wt, am_bk, Option.toList, List.cons_append, List.nil_append, Nat.reduceAdd, Nat.reduceEqDiff, Nat.reduceLeDiff, reduceIte, Nat.reduceLT, or_self, true_or, or_true, if_true, if_false, and_self, and_true, true_and, not_false_eq_true, not_true_eq_false, fd_Mo_below_288]
            exact fin2 v 1 hv (by simp [fl_K, o3])
        refine am_go [229, 243] 12 ?_
        simp only [am_wp, am_stp, am_en, am_as, am_pad, am_nth, am_set, am_st1, am_st2, am_kl, am_kill, am_mem, am_fv, am_tk, am_wt, am_bk, Option.toList, List.cons_append, List.nil_append, Nat.reduceAdd, Nat.reduceEqDiff, Nat.reduceLeDiff, reduceIte, Nat.reduceLT, or_self, true_or, or_true, if_true, if_false, and_self, and_true, true_and, not_false_eq_true, not_true_eq_false, fd_Mo_below_208, fd_Mo_below_209, fd_Mo_below_212, fd_Mo_below_213, fd_Mo_below_216, fd_Mo_below_217, fd_Mo_below_218, fd_Mo_below_219, fd_Mo_below_222, fd_Mo_below_224, fd_Mo_below_225, fd_Mo_below_226, k72', r34', d31, em, r37', k96', n96', ij, qj, u2]
        by_cases o2 : b.2.1 = 2
        · simp only [o2, am_wp, am_stp, am_en, am_as, am_pad, am_nth, am_set, am_st1, am_st2, am_kl, am_kill, am_mem, am_fv, am_tk, am_wt, am_bk, Option.toList, List.cons_append, List.nil_append, Nat.reduceAdd, Nat.reduceEqDiff, Nat.reduceLeDiff, reduceIte, Nat.reduceLT, or_self, true_or, or_true, if_true, if_false, and_self, and_true, true_and, not_false_eq_true, not_true_eq_false]
          refine am_go [262] 8 ?_
          simp only [am_wp, am_stp, am_en, am_as, am_pad, am_nth, am_set, am_st1, am_st2, am_kl, am_kill, am_mem, am_fv, am_tk, am_wt, am_bk, Option.toList, List.cons_append, List.nil_append, Nat.reduceAdd, Nat.reduceEqDiff, Nat.reduceLeDiff, reduceIte, Nat.reduceLT, or_self, true_or, or_true, if_true, if_false, and_self, and_true, true_and, not_false_eq_true, not_true_eq_false, fd_Mo_below_229, fd_Mo_below_230, fd_Mo_below_233, fd_Mo_below_234, fd_Mo_below_237, fd_Mo_below_238, fd_Mo_below_239, fd_Mo_below_240, k72', r34', d31, em, k94', n94', iO, qO, v3]
          exact fin1 _ (by rw [o2]; simp [fl_V])
        · simp only [o2, am_wp, am_stp, am_en, am_as, am_pad, am_nth, am_set, am_st1, am_st2, am_kl, am_kill, am_mem, am_fv, am_tk, am_wt, am_bk, Option.toList, List.cons_append, List.nil_append, Nat.reduceAdd, Nat.reduceEqDiff, Nat.reduceLeDiff, reduceIte, Nat.reduceLT, or_self, true_or, or_true, if_true, if_false, and_self, and_true, true_and, not_false_eq_true, not_true_eq_false]
          refine am_go [262] 12 ?_
          simp only [am_wp, am_stp, am_en, am_as, am_pad, am_nth, am_set, am_st1, am_st2, am_kl, am_kill, am_mem, am_fv, am_tk, am_wt, am_bk, Option.toList, List.cons_append, List.nil_append, Nat.reduceAdd, Nat.reduceEqDiff, Nat.reduceLeDiff, reduceIte, Nat.reduceLT, or_self, true_or, or_true, if_true, if_false, and_self, and_true, true_and, not_false_eq_true, not_true_eq_false, fd_Mo_below_243, fd_Mo_below_244, fd_Mo_below_247, fd_Mo_below_248, fd_Mo_below_251, fd_Mo_below_252, fd_Mo_below_253, fd_Mo_below_254, fd_Mo_below_255, fd_Mo_below_258, fd_Mo_below_260, fd_Mo_below_261, k72', r34', d31, em, k94', n94', iO, qO, v3, r38', k97', n97', ij, qj, u3]
          exact fin1 _ (by simp [fl_V, o2])
      · simp only [k3, am_wp, am_stp, am_en, am_as, am_pad, am_nth, am_set, am_st1, am_st2, am_kl, am_kill, am_mem, am_fv, am_tk, am_wt, am_bk, Option.toList, List.cons_append, List.nil_append, Nat.reduceAdd, Nat.reduceEqDiff, Nat.reduceLeDiff, reduceIte, Nat.reduceLT, or_self, true_or, or_true, if_true, if_false, and_self, and_true, true_and, not_false_eq_true, not_true_eq_false]
        have ecb : cb a b = a := by
          unfold cb
          have h0 : ¬ a.2.1 = 0 := by rcases hao.1 with e | e | e <;> rw [e] <;> decide
          simp [fl_K, fl_V, h0, k3]
        refine hx g2 (i1 + 1) (Out1 ++ [a]) I2 (by omega) ?_
        rw [hr, ← hE1, ecb]
        simp
    · rw [if_neg q] at hE1
      simp only [q, am_wp, am_stp, am_en, am_as, am_pad, am_nth, am_set, am_st1, am_st2, am_kl, am_kill, am_mem, am_fv, am_tk, am_wt, am_bk, Option.toList, List.cons_append, List.nil_append, Nat.reduceAdd, Nat.reduceEqDiff, Nat.reduceLeDiff, reduceIte, Nat.reduceLT, or_self, true_or, or_true, if_true, if_false, and_self, and_true, true_and, not_false_eq_true, not_true_eq_false]
      refine take ?_
      rw [hc]
      exact hE1
