-- needs: 87.stream 04.fd
/-! THE BLEND -/
/-- ints, longs and references of the objects S alone have changed -/
def am_fx (S : List Nat) (h h' : am_H) : Prop := am_nx h' = am_nx h ∧ am_ce h' = am_ce h ∧ am_sl h' = am_sl h ∧ am_kd h' = am_kd h ∧ am_ln h' = am_ln h ∧ (∀ a, a ∉ S → am_I h' a = am_I h a) ∧ (∀ a, a ∉ S → am_L h' a = am_L h a) ∧ (∀ a, a ∉ S → am_R h' a = am_R h a)
theorem am_fi.fx {S : List Nat} {h h' : am_H} (a : am_fi S h h') : am_fx S h h' := by
  obtain ⟨a1, a2, a3, a4, a5, a6, a7, a8⟩ := a
  exact ⟨a1, a2, a3, a4, a5, a7, a8, fun q _ => congrFun a6 q⟩
theorem am_fx.refl {S : List Nat} {h : am_H} : am_fx S h h := am_fi.refl.fx
theorem am_fx.trans {S : List Nat} {h h1 h2 : am_H} (a : am_fx S h h1) (b : am_fx S h1 h2) : am_fx S h h2 := by
  obtain ⟨a1, a2, a3, a4, a5, a6, a7, a8⟩ := a
  obtain ⟨b1, b2, b3, b4, b5, b6, b7, b8⟩ := b
  exact ⟨b1.trans a1, b2.trans a2, b3.trans a3, b4.trans a4, b5.trans a5, fun q hq => (b6 q hq).trans (a6 q hq), fun q hq => (b7 q hq).trans (a7 q hq), fun q hq => (b8 q hq).trans (a8 q hq)⟩
theorem am_fx.sub {S S' : List Nat} {h h1 : am_H} (a : am_fx S h h1) (hs : ∀ q ∈ S, q ∈ S') : am_fx S' h h1 := by
  obtain ⟨a1, a2, a3, a4, a5, a6, a7, a8⟩ := a
  exact ⟨a1, a2, a3, a4, a5, fun q hq => a6 q (fun h => hq (hs q h)), fun q hq => a7 q (fun h => hq (hs q h)), fun q hq => a8 q (fun h => hq (hs q h))⟩
theorem am_fx.sR {S : List Nat} {h h1 : am_H} {q j v : Nat} (a : am_fx S h h1) (hq : q ∈ S) : am_fx S h (am_sR h1 q j v) := by
  obtain ⟨a1, a2, a3, a4, a5, a6, a7, a8⟩ := a
  refine ⟨a1, a2, a3, a4, a5, a6, a7, fun z hz => ?_⟩
  have hne : z ≠ q := fun h => hz (h ▸ hq)
  funext j'
  rw [hx_R_sR, if_neg hne]
  exact congrFun (a8 z hz) j'
theorem am_fx.sI {S : List Nat} {h h1 : am_H} {q j : Nat} {v : Int32} (a : am_fx S h h1) (hq : q ∈ S) : am_fx S h (am_sI h1 q j v) := a.trans (am_fi.fx (am_fi.refl.sI hq))
theorem am_fx.sL {S : List Nat} {h h1 : am_H} {q j : Nat} {v : Int64} (a : am_fx S h h1) (hq : q ∈ S) : am_fx S h (am_sL h1 q j v) := a.trans (am_fi.fx (am_fi.refl.sL hq))
/-- the table's entries from i on, r of them -/
def tl (h : am_H) : Nat → Nat → List ent
  | _, 0 => []
  | i, r + 1 => (am_L h 4 i, am_I h 5 i, am_L h 6 i) :: tl h (i + 1) r
theorem tl_eq {h h' : am_H} (e1 : am_L h' 4 = am_L h 4) (e2 : am_I h' 5 = am_I h 5) (e3 : am_L h' 6 = am_L h 6) : ∀ (r i : Nat), tl h' i r = tl h i r
  | 0, i => rfl
  | r + 1, i => by
    unfold tl
    rw [e1, e2, e3, tl_eq e1 e2 e3 r (i + 1)]
def ts_K (h : am_H) (t : Nat) : Prop := am_kd h t = 11 ∧ am_R h t 4 = 3
def ts_S (h : am_H) (t : Nat) : List ent → Prop
  | [] => ts_K h t ∧ am_I h t 0 = 0
  | e :: L => am_I h t 0 = 1 ∧ am_L h t 1 = e.1 ∧ am_I h t 2 = e.2.1 ∧ am_L h t 3 = e.2.2 ∧ ts_K h t ∧ ∃ i n, tb_S h n ∧ am_I h t 5 = nI i ∧ i ≤ n ∧ L = tl h i (n - i)
theorem l2_TS_step {d t i n : Nat} {h : am_H} (hK : ts_K h t) (T : tb_S h n) (h5 : am_I h t 5 = nI i) (hi : i ≤ n) (ht : t ≠ 3 ∧ t ≠ 4 ∧ t ≠ 5 ∧ t ≠ 6) : am_Rt nm_pr (d + 1) mi_TableStream_step [.ref t] h (fun o h' => o = .inl none ∧ am_fi [t] h h' ∧ ts_S h' t (tl h i (n - i))) := by
  obtain ⟨t1, t2, t3, t4, t5, t6, t7, t8, t9, t10, t11, t12, t13, t14⟩ := id T
  obtain ⟨k1, r4⟩ := id hK
  have one0 : ¬ (1 : Int32) = 0 := by decide
  have a01 : (0 : Int32) = 0 ∨ (0 : Int32) = 1 := by decide
  refine am_in' mt_TableStream_step 1 rfl rfl rfl ?_
  by_cases e : i < n
  · have l1 : nI i < nI n := nI_lt e (by omega)
    have l2 : nI i < 64 := nI_lt (b := 64) (by omega) (by decide)
    have i1 := am_inb (c := i) (N := 64) (by omega) (by omega)
    have q1 : (nI i).toNatClampNeg = i := nI_clamp (by omega)
    refine am_go [15, 28] 7 ?_
    simp only [am_wp, am_stp, am_en, am_as, am_pad, am_nth, am_set, am_st1, am_st2, am_kl, am_kill, am_mem, am_fv, am_tk, am_wt, am_bk, Option.toList, List.cons_append, List.nil_append, Nat.reduceAdd, Nat.reduceEqDiff, Nat.reduceLeDiff, reduceIte, Nat.reduceLT, or_self, true_or, or_true, if_true, if_false, and_self, and_true, true_and, not_false_eq_true, not_true_eq_false, fd_TableStream_step_0, fd_TableStream_step_1, fd_TableStream_step_2, fd_TableStream_step_5, fd_TableStream_step_6, fd_TableStream_step_9, fd_TableStream_step_12, k1, h5, r4, t1, t13, l1]
    refine am_go [28] 7 ?_
    simp only [am_wp, am_stp, am_en, am_as, am_pad, am_nth, am_set, am_st1, am_st2, am_kl, am_kill, am_mem, am_fv, am_tk, am_wt, am_bk, Option.toList, List.cons_append, List.nil_append, Nat.reduceAdd, Nat.reduceEqDiff, Nat.reduceLeDiff, reduceIte, Nat.reduceLT, or_self, true_or, or_true, if_true, if_false, and_self, and_true, true_and, not_false_eq_true, not_true_eq_false, fd_TableStream_step_15, fd_TableStream_step_16, fd_TableStream_step_19, fd_TableStream_step_21, fd_TableStream_step_24, fd_TableStream_step_25, fd_TableStream_step_28, fd_TableStream_step_29, k1, h5, l2]
    refine am_go [97] 3 ?_
    simp only [am_wp, am_stp, am_en, am_as, am_pad, am_nth, am_set, am_st1, am_st2, am_kl, am_kill, am_mem, am_fv, am_tk, am_wt, am_bk, Option.toList, List.cons_append, List.nil_append, Nat.reduceAdd, Nat.reduceEqDiff, Nat.reduceLeDiff, reduceIte, Nat.reduceLT, or_self, true_or, or_true, if_true, if_false, and_self, and_true, true_and, not_false_eq_true, not_true_eq_false, fd_TableStream_step_32, fd_TableStream_step_33, fd_TableStream_step_36, hx_kd_sI, k1, hx_I_sI, one0]
    refine am_go [] 8 ?_
    simp only [am_wp, am_stp, am_en, am_as, am_pad, am_nth, am_set, am_st1, am_st2, am_kl, am_kill, am_mem, am_fv, am_tk, am_wt, am_bk, Option.toList, List.cons_append, List.nil_append, Nat.reduceAdd, Nat.reduceEqDiff, Nat.reduceLeDiff, reduceIte, Nat.reduceLT, or_self, true_or, or_true, if_true, if_false, and_self, and_true, true_and, not_false_eq_true, not_true_eq_false, fd_TableStream_step_39, fd_TableStream_step_40, fd_TableStream_step_41, fd_TableStream_step_44, fd_TableStream_step_47, fd_TableStream_step_48, fd_TableStream_step_51, fd_TableStream_step_52, hx_kd_sI, hx_ln_sI, hx_L_sI, hx_R_sI, k1, hx_I_sI, h5, r4, t1, t2, t6, t7, i1, q1]
    have F1 : am_fi [t] h (am_sL (am_sI h t 0 1) t 1 (am_L h 4 i)) := (am_fi.refl.sI (by simp)).sL (by simp)
    have y0 : am_I (am_sL (am_sI h t 0 1) t 1 (am_L h 4 i)) t 0 = 1 := by simp only [hx_nx_sI, hx_ce_sI, hx_sl_sI, hx_kd_sI, hx_ln_sI, hx_I_sI, hx_L_sI, hx_R_sI, hx_nx_sL, hx_ce_sL, hx_sl_sL, hx_kd_sL, hx_ln_sL, hx_I_sL, hx_L_sL, hx_R_sL, hx_nx_sR, hx_ce_sR, hx_sl_sR, hx_kd_sR, hx_ln_sR, hx_I_sR, hx_L_sR, hx_R_sR, hx_nx_al, hx_ce_al, hx_sl_al, hx_kd_al, hx_ln_al, hx_I_al, hx_L_al, hx_R_al, hx_nx_row, hx_ce_row, hx_sl_row, hx_kd_row, hx_ln_row, hx_I_row, hx_L_row, hx_R_row, hx_nx_mk, hx_kd_mk, hx_ln_mk, hx_I_mk, hx_L_mk, hx_R_mk, am_wp, am_stp, am_en, am_as, am_pad, am_nth, am_set, am_st1, am_st2, am_kl, am_kill, am_mem, am_fv, am_tk, am_wt, am_bk, Option.toList, List.cons_append, List.nil_append, Nat.reduceAdd, Nat.reduceEqDiff, Nat.reduceLeDiff, reduceIte, Nat.reduceLT, or_self, true_or, or_true, if_true, if_false, and_self, and_true, true_and, not_false_eq_true, not_true_eq_false]
    have y5 : am_I (am_sL (am_sI h t 0 1) t 1 (am_L h 4 i)) t 5 = nI i := by simp only [hx_nx_sI, hx_ce_sI, hx_sl_sI, hx_kd_sI, hx_ln_sI, hx_I_sI, hx_L_sI, hx_R_sI, hx_nx_sL, hx_ce_sL, hx_sl_sL, hx_kd_sL, hx_ln_sL, hx_I_sL, hx_L_sL, hx_R_sL, hx_nx_sR, hx_ce_sR, hx_sl_sR, hx_kd_sR, hx_ln_sR, hx_I_sR, hx_L_sR, hx_R_sR, hx_nx_al, hx_ce_al, hx_sl_al, hx_kd_al, hx_ln_al, hx_I_al, hx_L_al, hx_R_al, hx_nx_row, hx_ce_row, hx_sl_row, hx_kd_row, hx_ln_row, hx_I_row, hx_L_row, hx_R_row, hx_nx_mk, hx_kd_mk, hx_ln_mk, hx_I_mk, hx_L_mk, hx_R_mk, am_wp, am_stp, am_en, am_as, am_pad, am_nth, am_set, am_st1, am_st2, am_kl, am_kill, am_mem, am_fv, am_tk, am_wt, am_bk, Option.toList, List.cons_append, List.nil_append, Nat.reduceAdd, Nat.reduceEqDiff, Nat.reduceLeDiff, reduceIte, Nat.reduceLT, or_self, true_or, or_true, if_true, if_false, and_self, and_true, true_and, not_false_eq_true, not_true_eq_false]; exact h5
    have y1 : am_L (am_sL (am_sI h t 0 1) t 1 (am_L h 4 i)) t 1 = am_L h 4 i := by simp only [hx_nx_sI, hx_ce_sI, hx_sl_sI, hx_kd_sI, hx_ln_sI, hx_I_sI, hx_L_sI, hx_R_sI, hx_nx_sL, hx_ce_sL, hx_sl_sL, hx_kd_sL, hx_ln_sL, hx_I_sL, hx_L_sL, hx_R_sL, hx_nx_sR, hx_ce_sR, hx_sl_sR, hx_kd_sR, hx_ln_sR, hx_I_sR, hx_L_sR, hx_R_sR, hx_nx_al, hx_ce_al, hx_sl_al, hx_kd_al, hx_ln_al, hx_I_al, hx_L_al, hx_R_al, hx_nx_row, hx_ce_row, hx_sl_row, hx_kd_row, hx_ln_row, hx_I_row, hx_L_row, hx_R_row, hx_nx_mk, hx_kd_mk, hx_ln_mk, hx_I_mk, hx_L_mk, hx_R_mk, am_wp, am_stp, am_en, am_as, am_pad, am_nth, am_set, am_st1, am_st2, am_kl, am_kill, am_mem, am_fv, am_tk, am_wt, am_bk, Option.toList, List.cons_append, List.nil_append, Nat.reduceAdd, Nat.reduceEqDiff, Nat.reduceLeDiff, reduceIte, Nat.reduceLT, or_self, true_or, or_true, if_true, if_false, and_self, and_true, true_and, not_false_eq_true, not_true_eq_false]
    generalize am_sL (am_sI h t 0 1) t 1 (am_L h 4 i) = g at F1 y0 y5 y1 ⊢
    obtain ⟨T1, T2, T3, T4, T5, T6, T7, T8, T9, T10, T11, T12, T13, T14⟩ := T.fi F1 (by simp; omega)
    have K1 : am_kd g t = 11 := by rw [F1.2.2.2.1]; exact k1
    have R4 : am_R g t 4 = 3 := by rw [F1.2.2.2.2.2.1]; exact r4
    refine am_go [] 8 ?_
    simp only [am_wp, am_stp, am_en, am_as, am_pad, am_nth, am_set, am_st1, am_st2, am_kl, am_kill, am_mem, am_fv, am_tk, am_wt, am_bk, Option.toList, List.cons_append, List.nil_append, Nat.reduceAdd, Nat.reduceEqDiff, Nat.reduceLeDiff, reduceIte, Nat.reduceLT, or_self, true_or, or_true, if_true, if_false, and_self, and_true, true_and, not_false_eq_true, not_true_eq_false, fd_TableStream_step_55, fd_TableStream_step_56, fd_TableStream_step_57, fd_TableStream_step_60, fd_TableStream_step_63, fd_TableStream_step_64, fd_TableStream_step_67, fd_TableStream_step_68, K1, y5, R4, T1, T3, T8, T9, i1, q1]
    have v5 : am_I g 5 i = am_I h 5 i := congrFun (F1.2.2.2.2.2.2.1 5 (by simp; omega)) i
    have v6 : am_L g 6 i = am_L h 6 i := congrFun (F1.2.2.2.2.2.2.2 6 (by simp; omega)) i
    rw [v5]
    refine am_go [] 8 ?_
    simp only [am_wp, am_stp, am_en, am_as, am_pad, am_nth, am_set, am_st1, am_st2, am_kl, am_kill, am_mem, am_fv, am_tk, am_wt, am_bk, Option.toList, List.cons_append, List.nil_append, Nat.reduceAdd, Nat.reduceEqDiff, Nat.reduceLeDiff, reduceIte, Nat.reduceLT, or_self, true_or, or_true, if_true, if_false, and_self, and_true, true_and, not_false_eq_true, not_true_eq_false, fd_TableStream_step_71, fd_TableStream_step_72, fd_TableStream_step_73, fd_TableStream_step_76, fd_TableStream_step_79, fd_TableStream_step_80, fd_TableStream_step_83, fd_TableStream_step_84, hx_kd_sI, hx_ln_sI, hx_L_sI, hx_R_sI, hx_I_sI, K1, y5, R4, T1, T4, T10, T11, i1, q1]
    rw [v6]
    have F2 : am_fi [t] h (am_sL (am_sI g t 2 (am_I h 5 i)) t 3 (am_L h 6 i)) := (F1.sI (by simp)).sL (by simp)
    have z0 : am_I (am_sL (am_sI g t 2 (am_I h 5 i)) t 3 (am_L h 6 i)) t 0 = 1 := by simp only [hx_nx_sI, hx_ce_sI, hx_sl_sI, hx_kd_sI, hx_ln_sI, hx_I_sI, hx_L_sI, hx_R_sI, hx_nx_sL, hx_ce_sL, hx_sl_sL, hx_kd_sL, hx_ln_sL, hx_I_sL, hx_L_sL, hx_R_sL, hx_nx_sR, hx_ce_sR, hx_sl_sR, hx_kd_sR, hx_ln_sR, hx_I_sR, hx_L_sR, hx_R_sR, hx_nx_al, hx_ce_al, hx_sl_al, hx_kd_al, hx_ln_al, hx_I_al, hx_L_al, hx_R_al, hx_nx_row, hx_ce_row, hx_sl_row, hx_kd_row, hx_ln_row, hx_I_row, hx_L_row, hx_R_row, hx_nx_mk, hx_kd_mk, hx_ln_mk, hx_I_mk, hx_L_mk, hx_R_mk, am_wp, am_stp, am_en, am_as, am_pad, am_nth, am_set, am_st1, am_st2, am_kl, am_kill, am_mem, am_fv, am_tk, am_wt, am_bk, Option.toList, List.cons_append, List.nil_append, Nat.reduceAdd, Nat.reduceEqDiff, Nat.reduceLeDiff, reduceIte, Nat.reduceLT, or_self, true_or, or_true, if_true, if_false, and_self, and_true, true_and, not_false_eq_true, not_true_eq_false]; exact y0
    have z5 : am_I (am_sL (am_sI g t 2 (am_I h 5 i)) t 3 (am_L h 6 i)) t 5 = nI i := by simp only [hx_nx_sI, hx_ce_sI, hx_sl_sI, hx_kd_sI, hx_ln_sI, hx_I_sI, hx_L_sI, hx_R_sI, hx_nx_sL, hx_ce_sL, hx_sl_sL, hx_kd_sL, hx_ln_sL, hx_I_sL, hx_L_sL, hx_R_sL, hx_nx_sR, hx_ce_sR, hx_sl_sR, hx_kd_sR, hx_ln_sR, hx_I_sR, hx_L_sR, hx_R_sR, hx_nx_al, hx_ce_al, hx_sl_al, hx_kd_al, hx_ln_al, hx_I_al, hx_L_al, hx_R_al, hx_nx_row, hx_ce_row, hx_sl_row, hx_kd_row, hx_ln_row, hx_I_row, hx_L_row, hx_R_row, hx_nx_mk, hx_kd_mk, hx_ln_mk, hx_I_mk, hx_L_mk, hx_R_mk, am_wp, am_stp, am_en, am_as, am_pad, am_nth, am_set, am_st1, am_st2, am_kl, am_kill, am_mem, am_fv, am_tk, am_wt, am_bk, Option.toList, List.cons_append, List.nil_append, Nat.reduceAdd, Nat.reduceEqDiff, Nat.reduceLeDiff, reduceIte, Nat.reduceLT, or_self, true_or, or_true, if_true, if_false, and_self, and_true, true_and, not_false_eq_true, not_true_eq_false]; exact y5
    have z1 : am_L (am_sL (am_sI g t 2 (am_I h 5 i)) t 3 (am_L h 6 i)) t 1 = am_L h 4 i := by simp only [hx_nx_sI, hx_ce_sI, hx_sl_sI, hx_kd_sI, hx_ln_sI, hx_I_sI, hx_L_sI, hx_R_sI, hx_nx_sL, hx_ce_sL, hx_sl_sL, hx_kd_sL, hx_ln_sL, hx_I_sL, hx_L_sL, hx_R_sL, hx_nx_sR, hx_ce_sR, hx_sl_sR, hx_kd_sR, hx_ln_sR, hx_I_sR, hx_L_sR, hx_R_sR, hx_nx_al, hx_ce_al, hx_sl_al, hx_kd_al, hx_ln_al, hx_I_al, hx_L_al, hx_R_al, hx_nx_row, hx_ce_row, hx_sl_row, hx_kd_row, hx_ln_row, hx_I_row, hx_L_row, hx_R_row, hx_nx_mk, hx_kd_mk, hx_ln_mk, hx_I_mk, hx_L_mk, hx_R_mk, am_wp, am_stp, am_en, am_as, am_pad, am_nth, am_set, am_st1, am_st2, am_kl, am_kill, am_mem, am_fv, am_tk, am_wt, am_bk, Option.toList, List.cons_append, List.nil_append, Nat.reduceAdd, Nat.reduceEqDiff, Nat.reduceLeDiff, reduceIte, Nat.reduceLT, or_self, true_or, or_true, if_true, if_false, and_self, and_true, true_and, not_false_eq_true, not_true_eq_false]; exact y1
    have z2 : am_I (am_sL (am_sI g t 2 (am_I h 5 i)) t 3 (am_L h 6 i)) t 2 = am_I h 5 i := by simp only [hx_nx_sI, hx_ce_sI, hx_sl_sI, hx_kd_sI, hx_ln_sI, hx_I_sI, hx_L_sI, hx_R_sI, hx_nx_sL, hx_ce_sL, hx_sl_sL, hx_kd_sL, hx_ln_sL, hx_I_sL, hx_L_sL, hx_R_sL, hx_nx_sR, hx_ce_sR, hx_sl_sR, hx_kd_sR, hx_ln_sR, hx_I_sR, hx_L_sR, hx_R_sR, hx_nx_al, hx_ce_al, hx_sl_al, hx_kd_al, hx_ln_al, hx_I_al, hx_L_al, hx_R_al, hx_nx_row, hx_ce_row, hx_sl_row, hx_kd_row, hx_ln_row, hx_I_row, hx_L_row, hx_R_row, hx_nx_mk, hx_kd_mk, hx_ln_mk, hx_I_mk, hx_L_mk, hx_R_mk, am_wp, am_stp, am_en, am_as, am_pad, am_nth, am_set, am_st1, am_st2, am_kl, am_kill, am_mem, am_fv, am_tk, am_wt, am_bk, Option.toList, List.cons_append, List.nil_append, Nat.reduceAdd, Nat.reduceEqDiff, Nat.reduceLeDiff, reduceIte, Nat.reduceLT, or_self, true_or, or_true, if_true, if_false, and_self, and_true, true_and, not_false_eq_true, not_true_eq_false]
    have z3 : am_L (am_sL (am_sI g t 2 (am_I h 5 i)) t 3 (am_L h 6 i)) t 3 = am_L h 6 i := by simp only [hx_nx_sI, hx_ce_sI, hx_sl_sI, hx_kd_sI, hx_ln_sI, hx_I_sI, hx_L_sI, hx_R_sI, hx_nx_sL, hx_ce_sL, hx_sl_sL, hx_kd_sL, hx_ln_sL, hx_I_sL, hx_L_sL, hx_R_sL, hx_nx_sR, hx_ce_sR, hx_sl_sR, hx_kd_sR, hx_ln_sR, hx_I_sR, hx_L_sR, hx_R_sR, hx_nx_al, hx_ce_al, hx_sl_al, hx_kd_al, hx_ln_al, hx_I_al, hx_L_al, hx_R_al, hx_nx_row, hx_ce_row, hx_sl_row, hx_kd_row, hx_ln_row, hx_I_row, hx_L_row, hx_R_row, hx_nx_mk, hx_kd_mk, hx_ln_mk, hx_I_mk, hx_L_mk, hx_R_mk, am_wp, am_stp, am_en, am_as, am_pad, am_nth, am_set, am_st1, am_st2, am_kl, am_kill, am_mem, am_fv, am_tk, am_wt, am_bk, Option.toList, List.cons_append, List.nil_append, Nat.reduceAdd, Nat.reduceEqDiff, Nat.reduceLeDiff, reduceIte, Nat.reduceLT, or_self, true_or, or_true, if_true, if_false, and_self, and_true, true_and, not_false_eq_true, not_true_eq_false]
    generalize am_sL (am_sI g t 2 (am_I h 5 i)) t 3 (am_L h 6 i) = g2 at F2 z0 z5 z1 z2 z3 ⊢
    have K2 : am_kd g2 t = 11 := by rw [F2.2.2.2.1]; exact k1
    refine am_go [] 7 ?_
    simp only [am_wp, am_stp, am_en, am_as, am_pad, am_nth, am_set, am_st1, am_st2, am_kl, am_kill, am_mem, am_fv, am_tk, am_wt, am_bk, Option.toList, List.cons_append, List.nil_append, Nat.reduceAdd, Nat.reduceEqDiff, Nat.reduceLeDiff, reduceIte, Nat.reduceLT, or_self, true_or, or_true, if_true, if_false, and_self, and_true, true_and, not_false_eq_true, not_true_eq_false, fd_TableStream_step_87, fd_TableStream_step_88, fd_TableStream_step_89, fd_TableStream_step_92, fd_TableStream_step_93, fd_TableStream_step_94, fd_TableStream_step_97, K2, z5, nI_1]
    have F3 : am_fi [t] h (am_sI g2 t 5 (nI (i + 1))) := F2.sI (by simp)
    refine ⟨F3, ?_⟩
    have E := tl_eq (h := h) (h' := am_sI g2 t 5 (nI (i + 1))) (F3.2.2.2.2.2.2.2 4 (by simp; omega)) (F3.2.2.2.2.2.2.1 5 (by simp; omega)) (F3.2.2.2.2.2.2.2 6 (by simp; omega))
    rw [show n - i = (n - (i + 1)) + 1 by omega]
    show ts_S _ t (_ :: tl h (i + 1) (n - (i + 1)))
    refine ⟨by simp only [hx_nx_sI, hx_ce_sI, hx_sl_sI, hx_kd_sI, hx_ln_sI, hx_I_sI, hx_L_sI, hx_R_sI, hx_nx_sL, hx_ce_sL, hx_sl_sL, hx_kd_sL, hx_ln_sL, hx_I_sL, hx_L_sL, hx_R_sL, hx_nx_sR, hx_ce_sR, hx_sl_sR, hx_kd_sR, hx_ln_sR, hx_I_sR, hx_L_sR, hx_R_sR, hx_nx_al, hx_ce_al, hx_sl_al, hx_kd_al, hx_ln_al, hx_I_al, hx_L_al, hx_R_al, hx_nx_row, hx_ce_row, hx_sl_row, hx_kd_row, hx_ln_row, hx_I_row, hx_L_row, hx_R_row, hx_nx_mk, hx_kd_mk, hx_ln_mk, hx_I_mk, hx_L_mk, hx_R_mk, am_wp, am_stp, am_en, am_as, am_pad, am_nth, am_set, am_st1, am_st2, am_kl, am_kill, am_mem, am_fv, am_tk, am_wt, am_bk, Option.toList, List.cons_append, List.nil_append, Nat.reduceAdd, Nat.reduceEqDiff, Nat.reduceLeDiff, reduceIte, Nat.reduceLT, or_self, true_or, or_true, if_true, if_false, and_self, and_true, true_and, not_false_eq_true, not_true_eq_false]; exact z0, by simp only [hx_nx_sI, hx_ce_sI, hx_sl_sI, hx_kd_sI, hx_ln_sI, hx_I_sI, hx_L_sI, hx_R_sI, hx_nx_sL, hx_ce_sL, hx_sl_sL, hx_kd_sL, hx_ln_sL, hx_I_sL, hx_L_sL, hx_R_sL, hx_nx_sR, hx_ce_sR, hx_sl_sR, hx_kd_sR, hx_ln_sR, hx_I_sR, hx_L_sR, hx_R_sR, hx_nx_al, hx_ce_al, hx_sl_al, hx_kd_al, hx_ln_al, hx_I_al, hx_L_al, hx_R_al, hx_nx_row, hx_ce_row, hx_sl_row, hx_kd_row, hx_ln_row, hx_I_row, hx_L_row, hx_R_row, hx_nx_mk, hx_kd_mk, hx_ln_mk, hx_I_mk, hx_L_mk, hx_R_mk, am_wp, am_stp, am_en, am_as, am_pad, am_nth, am_set, am_st1, am_st2, am_kl, am_kill, am_mem, am_fv, am_tk, am_wt, am_bk, Option.toList, List.cons_append, List.nil_append, Nat.reduceAdd, Nat.reduceEqDiff, Nat.reduceLeDiff, reduceIte, Nat.reduceLT, or_self, true_or, or_true, if_true, if_false, and_self, and_true, true_and, not_false_eq_true, not_true_eq_false]; exact z1, by simp only [hx_nx_sI, hx_ce_sI, hx_sl_sI, hx_kd_sI, hx_ln_sI, hx_I_sI, hx_L_sI, hx_R_sI, hx_nx_sL, hx_ce_sL, hx_sl_sL, hx_kd_sL, hx_ln_sL, hx_I_sL, hx_L_sL, hx_R_sL, hx_nx_sR, hx_ce_sR, hx_sl_sR, hx_kd_sR, hx_ln_sR, hx_I_sR, hx_L_sR, hx_R_sR, hx_nx_al, hx_ce_al, hx_sl_al, hx_kd_al, hx_ln_al, hx_I_al, hx_L_al, hx_R_al, hx_nx_row, hx_ce_row, hx_sl_row, hx_kd_row, hx_ln_row, hx_I_row, hx_L_row, hx_R_row, hx_nx_mk, hx_kd_mk, hx_ln_mk, hx_I_mk, hx_L_mk, hx_R_mk, am_wp, am_stp, am_en, am_as, am_pad, am_nth, am_set, am_st1, am_st2, am_kl, am_kill, am_mem, am_fv, am_tk, am_wt, am_bk, Option.toList, List.cons_append, List.nil_append, Nat.reduceAdd, Nat.reduceEqDiff, Nat.reduceLeDiff, reduceIte, Nat.reduceLT, or_self, true_or, or_true, if_true, if_false, and_self, and_true, true_and, not_false_eq_true, not_true_eq_false]; exact z2, by simp only [hx_nx_sI, hx_ce_sI, hx_sl_sI, hx_kd_sI, hx_ln_sI, hx_I_sI, hx_L_sI, hx_R_sI, hx_nx_sL, hx_ce_sL, hx_sl_sL, hx_kd_sL, hx_ln_sL, hx_I_sL, hx_L_sL, hx_R_sL, hx_nx_sR, hx_ce_sR, hx_sl_sR, hx_kd_sR, hx_ln_sR, hx_I_sR, hx_L_sR, hx_R_sR, hx_nx_al, hx_ce_al, hx_sl_al, hx_kd_al, hx_ln_al, hx_I_al, hx_L_al, hx_R_al, hx_nx_row, hx_ce_row, hx_sl_row, hx_kd_row, hx_ln_row, hx_I_row, hx_L_row, hx_R_row, hx_nx_mk, hx_kd_mk, hx_ln_mk, hx_I_mk, hx_L_mk, hx_R_mk, am_wp, am_stp, am_en, am_as, am_pad, am_nth, am_set, am_st1, am_st2, am_kl, am_kill, am_mem, am_fv, am_tk, am_wt, am_bk, Option.toList, List.cons_append, List.nil_append, Nat.reduceAdd, Nat.reduceEqDiff, Nat.reduceLeDiff, reduceIte, Nat.reduceLT, or_self, true_or, or_true, if_true, if_false, and_self, and_true, true_and, not_false_eq_true, not_true_eq_false]; exact z3, ⟨K2, by rw [F3.2.2.2.2.2.1]; exact r4⟩, i + 1, n, T.fi F3 (by simp; omega), by simp only [hx_nx_sI, hx_ce_sI, hx_sl_sI, hx_kd_sI, hx_ln_sI, hx_I_sI, hx_L_sI, hx_R_sI, hx_nx_sL, hx_ce_sL, hx_sl_sL, hx_kd_sL, hx_ln_sL, hx_I_sL, hx_L_sL, hx_R_sL, hx_nx_sR, hx_ce_sR, hx_sl_sR, hx_kd_sR, hx_ln_sR, hx_I_sR, hx_L_sR, hx_R_sR, hx_nx_al, hx_ce_al, hx_sl_al, hx_kd_al, hx_ln_al, hx_I_al, hx_L_al, hx_R_al, hx_nx_row, hx_ce_row, hx_sl_row, hx_kd_row, hx_ln_row, hx_I_row, hx_L_row, hx_R_row, hx_nx_mk, hx_kd_mk, hx_ln_mk, hx_I_mk, hx_L_mk, hx_R_mk, am_wp, am_stp, am_en, am_as, am_pad, am_nth, am_set, am_st1, am_st2, am_kl, am_kill, am_mem, am_fv, am_tk, am_wt, am_bk, Option.toList, List.cons_append, List.nil_append, Nat.reduceAdd, Nat.reduceEqDiff, Nat.reduceLeDiff, reduceIte, Nat.reduceLT, or_self, true_or, or_true, if_true, if_false, and_self, and_true, true_and, not_false_eq_true, not_true_eq_false], by omega, (E _ _).symm⟩
  · have l1 : ¬ nI i < nI n := nI_nlt (by omega) (by omega)
    refine am_go [15, 28] 7 ?_
    simp only [am_wp, am_stp, am_en, am_as, am_pad, am_nth, am_set, am_st1, am_st2, am_kl, am_kill, am_mem, am_fv, am_tk, am_wt, am_bk, Option.toList, List.cons_append, List.nil_append, Nat.reduceAdd, Nat.reduceEqDiff, Nat.reduceLeDiff, reduceIte, Nat.reduceLT, or_self, true_or, or_true, if_true, if_false, and_self, and_true, true_and, not_false_eq_true, not_true_eq_false, fd_TableStream_step_0, fd_TableStream_step_1, fd_TableStream_step_2, fd_TableStream_step_5, fd_TableStream_step_6, fd_TableStream_step_9, fd_TableStream_step_12, k1, h5, r4, t1, t13, l1]
    refine am_go [39] 8 ?_
    simp only [am_wp, am_stp, am_en, am_as, am_pad, am_nth, am_set, am_st1, am_st2, am_kl, am_kill, am_mem, am_fv, am_tk, am_wt, am_bk, Option.toList, List.cons_append, List.nil_append, Nat.reduceAdd, Nat.reduceEqDiff, Nat.reduceLeDiff, reduceIte, Nat.reduceLT, or_self, true_or, or_true, if_true, if_false, and_self, and_true, true_and, not_false_eq_true, not_true_eq_false, fd_TableStream_step_28, fd_TableStream_step_29, fd_TableStream_step_32, fd_TableStream_step_33, fd_TableStream_step_36, fd_TableStream_step_97, hx_kd_sI, k1, hx_I_sI]
    refine ⟨am_fi.refl.sI (by simp), ?_⟩
    rw [show n - i = 0 by omega]
    show ts_K _ t ∧ _ = _
    exact ⟨hK, by simp only [hx_nx_sI, hx_ce_sI, hx_sl_sI, hx_kd_sI, hx_ln_sI, hx_I_sI, hx_L_sI, hx_R_sI, hx_nx_sL, hx_ce_sL, hx_sl_sL, hx_kd_sL, hx_ln_sL, hx_I_sL, hx_L_sL, hx_R_sL, hx_nx_sR, hx_ce_sR, hx_sl_sR, hx_kd_sR, hx_ln_sR, hx_I_sR, hx_L_sR, hx_R_sR, hx_nx_al, hx_ce_al, hx_sl_al, hx_kd_al, hx_ln_al, hx_I_al, hx_L_al, hx_R_al, hx_nx_row, hx_ce_row, hx_sl_row, hx_kd_row, hx_ln_row, hx_I_row, hx_L_row, hx_R_row, hx_nx_mk, hx_kd_mk, hx_ln_mk, hx_I_mk, hx_L_mk, hx_R_mk, am_wp, am_stp, am_en, am_as, am_pad, am_nth, am_set, am_st1, am_st2, am_kl, am_kill, am_mem, am_fv, am_tk, am_wt, am_bk, Option.toList, List.cons_append, List.nil_append, Nat.reduceAdd, Nat.reduceEqDiff, Nat.reduceLeDiff, reduceIte, Nat.reduceLT, or_self, true_or, or_true, if_true, if_false, and_self, and_true, true_and, not_false_eq_true, not_true_eq_false]⟩
/-- a stream of either kind: L is left, its head is at hand -/
def st_P (P : Nat) (h : am_H) (t : Nat) (L : List ent) : Prop := (29 ≤ t ∧ t ≤ 38) ∧ (rs_S P h t L ∨ ts_S h t L)
theorem rs_S.fi {P t : Nat} {S : List Nat} {L : List ent} {h h' : am_H} (a : rs_S P h t L) (b : am_fx S h h') (hS : t ∉ S ∧ 19 ∉ S ∧ 23 ∉ S ∧ 22 ∉ S) : rs_S P h' t L := by
  obtain ⟨b1, b2, b3, b4, b5, b6, b7, b8⟩ := b
  have e1 := b6 t hS.1
  have e2 := b7 t hS.1
  have e3 := b8 t hS.1
  have e4 := b6 19 hS.2.1
  have e5 := b6 23 hS.2.2.1
  have e6 := b6 22 hS.2.2.2
  have K : rs_K h t → rs_K h' t := by
    unfold rs_K
    rw [b4, e3]
    exact fun x => x
  cases L with
  | nil =>
    obtain ⟨a1, a2⟩ := a
    exact ⟨K a1, by rw [e1]; exact a2⟩
  | cons e L =>
    obtain ⟨a1, a2, a3, a4, C, ps, ⟨p1, p2, p3, p4, p5, p6, p7, p8, p9⟩, a6⟩ := a
    refine ⟨by rw [e1]; exact a1, by rw [e2]; exact a2, by rw [e1]; exact a3, by rw [e2]; exact a4, C, ps, ⟨K p1, by rw [e1]; exact p2, p3, p4, fun hC => ?_, by rw [e1]; exact p6, p7, ?_, p9.mono (fun q _ j _ => congrFun e4 _) (fun q _ => congrFun e5 _) (fun q _ => congrFun e6 _)⟩, a6⟩
    · rw [e1, e2, e4, e6]
      exact p5 hC
    · cases ps with
      | nil => trivial
      | cons q r => rw [e1]; exact p8
theorem ts_S.fi {t : Nat} {S : List Nat} {L : List ent} {h h' : am_H} (a : ts_S h t L) (b : am_fx S h h') (hS : t ∉ S ∧ 3 ∉ S ∧ 4 ∉ S ∧ 5 ∉ S ∧ 6 ∉ S) : ts_S h' t L := by
  obtain ⟨b1, b2, b3, b4, b5, b6, b7, b8⟩ := b
  have e1 := b6 t hS.1
  have e2 := b7 t hS.1
  have e3 := b8 t hS.1
  have K : ts_K h t → ts_K h' t := by
    unfold ts_K
    rw [b4, e3]
    exact fun x => x
  cases L with
  | nil =>
    obtain ⟨a1, a2⟩ := a
    exact ⟨K a1, by rw [e1]; exact a2⟩
  | cons e L =>
    obtain ⟨a1, a2, a3, a4, k1, i, n, T, a5, a6, a7⟩ := a
    refine ⟨by rw [e1]; exact a1, by rw [e2]; exact a2, by rw [e1]; exact a3, by rw [e2]; exact a4, K k1, i, n, ?_, by rw [e1]; exact a5, a6, ?_⟩
    · unfold tb_S at *
      rw [b4, b5, b6 3 hS.2.1, b8 3 hS.2.1]
      exact T
    · rw [tl_eq (b7 4 hS.2.2.1) (b6 5 hS.2.2.2.1) (b7 6 hS.2.2.2.2)]
      exact a7
theorem st_P.fi {P t : Nat} {S : List Nat} {L : List ent} {h h' : am_H} (a : st_P P h t L) (b : am_fx S h h') (h1 : t ∉ S) (h2 : ∀ q ∈ S, 24 < q) : st_P P h' t L := by
  refine ⟨a.1, ?_⟩
  have g : ∀ x, x ≤ 24 → x ∉ S := fun x hx hm => by have := h2 x hm; omega
  rcases a.2 with q | q
  · exact Or.inl (q.fi b ⟨h1, g _ (by decide), g _ (by decide), g _ (by decide)⟩)
  · exact Or.inr (q.fi b ⟨h1, g _ (by decide), g _ (by decide), g _ (by decide), g _ (by decide)⟩)
theorem st_P.kd {P t : Nat} {L : List ent} {h : am_H} (a : st_P P h t L) : am_kd h t = 7 ∨ am_kd h t = 11 := by
  rcases a.2 with q | q
  · cases L with
    | nil => exact Or.inl q.1.1
    | cons e L => obtain ⟨-, -, -, -, C, ps, p, -⟩ := q; exact Or.inl p.1.1
  · cases L with
    | nil => exact Or.inr q.1.1
    | cons e L => exact Or.inr q.2.2.2.2.1.1
theorem st_P.nil {P t : Nat} {h : am_H} (a : st_P P h t []) : am_I h t 0 = 0 := by
  rcases a.2 with q | q
  · exact q.2
  · exact q.2
theorem st_P.cons {P t : Nat} {e : ent} {L : List ent} {h : am_H} (a : st_P P h t (e :: L)) : am_I h t 0 = 1 ∧ am_L h t 1 = e.1 ∧ am_I h t 2 = e.2.1 ∧ am_L h t 3 = e.2.2 := by
  rcases a.2 with q | q
  · exact ⟨q.1, q.2.1, q.2.2.1, q.2.2.2.1⟩
  · exact ⟨q.1, q.2.1, q.2.2.1, q.2.2.2.1⟩
/-- the step of either kind -/
theorem l2_st_step {d P t : Nat} {e : ent} {L : List ent} {h : am_H} (hP : cl_Pg P h) (hSp : cl_Sp P h) (a : st_P P h t (e :: L)) : (am_kd h t = 7 ∧ am_Rt nm_pr (d + 3) mi_RunStream_step [.ref t] h (fun o h' => o = .inl none ∧ am_fi [t] h h' ∧ st_P P h' t L)) ∨ (am_kd h t = 11 ∧ am_Rt nm_pr (d + 3) mi_TableStream_step [.ref t] h (fun o h' => o = .inl none ∧ am_fi [t] h h' ∧ st_P P h' t L)) := by
  have b := a.1
  rcases a.2 with q | q
  · obtain ⟨-, -, -, -, C, ps, p, rfl⟩ := q
    refine Or.inl ⟨p.1.1, am_call (l2_RS_step hP hSp ⟨by omega, by omega, by omega, by omega, by omega⟩ p) (fun o h' q => ⟨q.1, q.2.1, b, Or.inl q.2.2⟩)⟩
  · obtain ⟨-, -, -, -, K, i, n, T, q5, q6, rfl⟩ := q
    refine Or.inr ⟨K.1, am_call (l2_TS_step (d := d + 2) K T q5 q6 ⟨by omega, by omega, by omega, by omega⟩) (fun o h' q => ⟨q.1, q.2.1, b, Or.inr q.2.2⟩)⟩
