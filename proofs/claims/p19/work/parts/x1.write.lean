/-! THE REFERENCE GOES DOWN; A WRITE, CUT OR WHOLE -/
theorem rx_gd_1 {d : Nat} {h : am_H} {Q : am_O → am_H → Prop} (hS : mo_Sk h) (hx : ∀ g, am_fi [87, 88] h g → (∀ m, m < 8 → am_I g 87 m = 0) → am_Ex nm_pr d mt_Mo_goDown (43, [.ref 72, .int (nI 8)], [], g) Q) : ∀ (n i : Nat) (g : am_H), n + i = 8 → am_fi [87, 88] h g → (∀ m, m < i → am_I g 87 m = 0) →
    am_Ex nm_pr d mt_Mo_goDown (17, [.ref 72, .int (nI i)], [], g) Q
  | 0, i, g, hn, f, hz => by
    have e : i = 8 := by omega
    subst e
    have hlt : ¬ (nI 8 < 8) := by decide
    have S := hS.fi f
    refine am_go [23, 43] 3 ?_
    simp only [am_wp, am_stp, am_en, am_as, am_pad, am_nth, am_set, am_st1, am_st2, am_kl, am_kill, am_mem, am_fv, am_tk, am_wt, am_bk, Option.toList, List.cons_append, List.nil_append, Nat.reduceAdd, Nat.reduceEqDiff, Nat.reduceLeDiff, reduceIte, Nat.reduceLT, or_self, true_or, or_true, if_true, if_false, and_self, and_true, true_and, not_false_eq_true, not_true_eq_false, fd_Mo_goDown_17, fd_Mo_goDown_18, fd_Mo_goDown_20, S.all, hlt]
    exact hx g f hz
  | n + 1, i, g, hn, f, hz => by
    have S := hS.fi f
    have hlt : nI i < 8 := nI_lt (b := 8) (by omega) (by decide)
    have i1 := am_inb (c := i) (N := 8) (by omega) (by omega)
    have c1 : (nI i).toNatClampNeg = i := nI_clamp (by omega)
    have a0 : (0 : Int32) &&& 1 = 0 := by decide
    refine am_go [23, 43] 3 ?_
    simp only [am_wp, am_stp, am_en, am_as, am_pad, am_nth, am_set, am_st1, am_st2, am_kl, am_kill, am_mem, am_fv, am_tk, am_wt, am_bk, Option.toList, List.cons_append, List.nil_append, Nat.reduceAdd, Nat.reduceEqDiff, Nat.reduceLeDiff, reduceIte, Nat.reduceLT, or_self, true_or, or_true, if_true, if_false, and_self, and_true, true_and, not_false_eq_true, not_true_eq_false, fd_Mo_goDown_17, fd_Mo_goDown_18, fd_Mo_goDown_20, S.all, hlt]
    refine am_go [30] 5 ?_
    simp only [am_wp, am_stp, am_en, am_as, am_pad, am_nth, am_set, am_st1, am_st2, am_kl, am_kill, am_mem, am_fv, am_tk, am_wt, am_bk, Option.toList, List.cons_append, List.nil_append, Nat.reduceAdd, Nat.reduceEqDiff, Nat.reduceLeDiff, reduceIte, Nat.reduceLT, or_self, true_or, or_true, if_true, if_false, and_self, and_true, true_and, not_false_eq_true, not_true_eq_false, fd_Mo_goDown_23, fd_Mo_goDown_24, fd_Mo_goDown_27, fd_Mo_goDown_28, fd_Mo_goDown_29, S.all, i1, c1, a0]
    have S1 : mo_Sk (am_sI g 87 i 0) := S.sI
    have f1 : am_fi [87, 88] h (am_sI g 87 i 0) := f.sI (by simp)
    have hz1 : ∀ m, m < i + 1 → am_I (am_sI g 87 i 0) 87 m = 0 := fun m hm => by
      rw [hx_I_sI, if_pos rfl]
      by_cases e : m = i
      · rw [if_pos e]
      · rw [if_neg e]; exact hz m (by omega)
    generalize am_sI g 87 i 0 = g1 at *
    refine am_go [37] 5 ?_
    simp only [am_wp, am_stp, am_en, am_as, am_pad, am_nth, am_set, am_st1, am_st2, am_kl, am_kill, am_mem, am_fv, am_tk, am_wt, am_bk, Option.toList, List.cons_append, List.nil_append, Nat.reduceAdd, Nat.reduceEqDiff, Nat.reduceLeDiff, reduceIte, Nat.reduceLT, or_self, true_or, or_true, if_true, if_false, and_self, and_true, true_and, not_false_eq_true, not_true_eq_false, fd_Mo_goDown_30, fd_Mo_goDown_31, fd_Mo_goDown_34, fd_Mo_goDown_35, fd_Mo_goDown_36, S1.all, i1, c1]
    refine am_go [17] 2 ?_
    simp only [am_wp, am_stp, am_en, am_as, am_pad, am_nth, am_set, am_st1, am_st2, am_kl, am_kill, am_mem, am_fv, am_tk, am_wt, am_bk, Option.toList, List.cons_append, List.nil_append, Nat.reduceAdd, Nat.reduceEqDiff, Nat.reduceLeDiff, reduceIte, Nat.reduceLT, or_self, true_or, or_true, if_true, if_false, and_self, and_true, true_and, not_false_eq_true, not_true_eq_false, fd_Mo_goDown_37, fd_Mo_goDown_40, nI_1]
    exact rx_gd_1 hS hx n (i + 1) _ (by omega) (f1.sI (by simp)) (fun m hm => by rw [hx_I_sI, if_neg (by decide)]; exact hz1 m hm)
theorem rx_gd_2 {d : Nat} {h : am_H} {Q : am_O → am_H → Prop} (hS : mo_Sk h) (hx : ∀ g, am_fi [77] h g → (∀ s, s < 100 → am_I g 77 s = 0) → Q (.inl none) g) : ∀ (n i : Nat) (g : am_H), n + i = 100 → am_fi [77] h g → (∀ s, s < i → am_I g 77 s = 0) →
    am_Ex nm_pr d mt_Mo_goDown (45, [.ref 72, .int (nI i)], [], g) Q
  | 0, i, g, hn, f, hz => by
    have e : i = 100 := by omega
    subst e
    have hlt : ¬ (nI 100 < 100) := by decide
    have S := hS.fi f
    refine am_go [51, 64] 3 ?_
    simp only [am_wp, am_stp, am_en, am_as, am_pad, am_nth, am_set, am_st1, am_st2, am_kl, am_kill, am_mem, am_fv, am_tk, am_wt, am_bk, Option.toList, List.cons_append, List.nil_append, Nat.reduceAdd, Nat.reduceEqDiff, Nat.reduceLeDiff, reduceIte, Nat.reduceLT, or_self, true_or, or_true, if_true, if_false, and_self, and_true, true_and, not_false_eq_true, not_true_eq_false, fd_Mo_goDown_45, fd_Mo_goDown_46, fd_Mo_goDown_48, S.all, hlt]
    refine am_go [] 1 ?_
    simp only [am_wp, am_stp, am_en, am_as, am_pad, am_nth, am_set, am_st1, am_st2, am_kl, am_kill, am_mem, am_fv, am_tk, am_wt, am_bk, Option.toList, List.cons_append, List.nil_append, Nat.reduceAdd, Nat.reduceEqDiff, Nat.reduceLeDiff, reduceIte, Nat.reduceLT, or_self, true_or, or_true, if_true, if_false, and_self, and_true, true_and, not_false_eq_true, not_true_eq_false, fd_Mo_goDown_64, S.all]
    exact hx g f hz
  | n + 1, i, g, hn, f, hz => by
    have S := hS.fi f
    have hlt : nI i < 100 := nI_lt (b := 100) (by omega) (by decide)
    have i1 := am_inb (c := i) (N := 100) (by omega) (by omega)
    have c1 : (nI i).toNatClampNeg = i := nI_clamp (by omega)
    refine am_go [51, 64] 3 ?_
    simp only [am_wp, am_stp, am_en, am_as, am_pad, am_nth, am_set, am_st1, am_st2, am_kl, am_kill, am_mem, am_fv, am_tk, am_wt, am_bk, Option.toList, List.cons_append, List.nil_append, Nat.reduceAdd, Nat.reduceEqDiff, Nat.reduceLeDiff, reduceIte, Nat.reduceLT, or_self, true_or, or_true, if_true, if_false, and_self, and_true, true_and, not_false_eq_true, not_true_eq_false, fd_Mo_goDown_45, fd_Mo_goDown_46, fd_Mo_goDown_48, S.all, hlt]
    refine am_go [45] 7 ?_
    simp only [am_wp, am_stp, am_en, am_as, am_pad, am_nth, am_set, am_st1, am_st2, am_kl, am_kill, am_mem, am_fv, am_tk, am_wt, am_bk, Option.toList, List.cons_append, List.nil_append, Nat.reduceAdd, Nat.reduceEqDiff, Nat.reduceLeDiff, reduceIte, Nat.reduceLT, or_self, true_or, or_true, if_true, if_false, and_self, and_true, true_and, not_false_eq_true, not_true_eq_false, fd_Mo_goDown_51, fd_Mo_goDown_52, fd_Mo_goDown_55, fd_Mo_goDown_56, fd_Mo_goDown_57, fd_Mo_goDown_58, fd_Mo_goDown_61, S.all, i1, c1, nI_1]
    refine rx_gd_2 hS hx n (i + 1) _ (by omega) (f.sI (by simp)) (fun m hm => ?_)
    rw [hx_I_sI, if_pos rfl]
    by_cases e : m = i
    · rw [if_pos e]
    · rw [if_neg e]; exact hz m (by omega)
def gd_Q (h h' : am_H) : Prop := am_fi [72, 77, 87, 88] h h' ∧ am_I h' 72 3 = 1 ∧ am_I h' 72 11 = 0 ∧ am_I h' 72 24 = 0 ∧ (∀ j, j ≠ 3 → j ≠ 11 → j ≠ 24 → am_I h' 72 j = am_I h 72 j) ∧ (∀ m, m < 8 → am_I h' 87 m = 0) ∧ ∀ s, s < 100 → am_I h' 77 s = 0
theorem rx_goDown {d : Nat} {h : am_H} (hS : mo_Sk h) : am_Rt nm_pr (d + 1) mi_Mo_goDown [.ref 72] h (fun o h' => o = .inl none ∧ gd_Q h h') := by
  refine am_in' mt_Mo_goDown 2 rfl rfl rfl ?_
  have a1 : (1 : Int32) = 0 ∨ (1 : Int32) = 1 := by decide
  refine am_go [17] 11 ?_
  simp only [am_wp, am_stp, am_en, am_as, am_pad, am_nth, am_set, am_st1, am_st2, am_kl, am_kill, am_mem, am_fv, am_tk, am_wt, am_bk, Option.toList, List.cons_append, List.nil_append, Nat.reduceAdd, Nat.reduceEqDiff, Nat.reduceLeDiff, reduceIte, Nat.reduceLT, or_self, true_or, or_true, if_true, if_false, and_self, and_true, true_and, not_false_eq_true, not_true_eq_false, fd_Mo_goDown_0, fd_Mo_goDown_1, fd_Mo_goDown_2, fd_Mo_goDown_5, fd_Mo_goDown_6, fd_Mo_goDown_7, fd_Mo_goDown_10, fd_Mo_goDown_11, fd_Mo_goDown_12, fd_Mo_goDown_15, fd_Mo_goDown_16, hx_nx_sI, hx_ce_sI, hx_sl_sI, hx_kd_sI, hx_ln_sI, hx_I_sI, hx_L_sI, hx_R_sI, hx_nx_sL, hx_ce_sL, hx_sl_sL, hx_kd_sL, hx_ln_sL, hx_I_sL, hx_L_sL, hx_R_sL, hx_nx_sR, hx_ce_sR, hx_sl_sR, hx_kd_sR, hx_ln_sR, hx_I_sR, hx_L_sR, hx_R_sR, hx_nx_al, hx_ce_al, hx_sl_al, hx_kd_al, hx_ln_al, hx_I_al, hx_L_al, hx_R_al, hx_nx_row, hx_ce_row, hx_sl_row, hx_kd_row, hx_ln_row, hx_I_row, hx_L_row, hx_R_row, hx_nx_mk, hx_kd_mk, hx_ln_mk, hx_I_mk, hx_L_mk, hx_R_mk, hS.1, a1]
  have f0 : am_fi [72] h (am_sI (am_sI (am_sI h 72 3 1) 72 11 0) 72 24 0) := ((am_fi.refl.sI (by simp)).sI (by simp)).sI (by simp)
  have v3 : am_I (am_sI (am_sI (am_sI h 72 3 1) 72 11 0) 72 24 0) 72 3 = 1 := by simp only [hx_nx_sI, hx_ce_sI, hx_sl_sI, hx_kd_sI, hx_ln_sI, hx_I_sI, hx_L_sI, hx_R_sI, hx_nx_sL, hx_ce_sL, hx_sl_sL, hx_kd_sL, hx_ln_sL, hx_I_sL, hx_L_sL, hx_R_sL, hx_nx_sR, hx_ce_sR, hx_sl_sR, hx_kd_sR, hx_ln_sR, hx_I_sR, hx_L_sR, hx_R_sR, hx_nx_al, hx_ce_al, hx_sl_al, hx_kd_al, hx_ln_al, hx_I_al, hx_L_al, hx_R_al, hx_nx_row, hx_ce_row, hx_sl_row, hx_kd_row, hx_ln_row, hx_I_row, hx_L_row, hx_R_row, hx_nx_mk, hx_kd_mk, hx_ln_mk, hx_I_mk, hx_L_mk, hx_R_mk, am_wp, am_stp, am_en, am_as, am_pad, am_nth, am_set, am_st1, am_st2, am_kl, am_kill, am_mem, am_fv, am_tk, am_wt, am_bk, Option.toList, List.cons_append, List.nil_append, Nat.reduceAdd, Nat.reduceEqDiff, Nat.reduceLeDiff, reduceIte, Nat.reduceLT, or_self, true_or, or_true, if_true, if_false, and_self, and_true, true_and, not_false_eq_true, not_true_eq_false]
  have v11 : am_I (am_sI (am_sI (am_sI h 72 3 1) 72 11 0) 72 24 0) 72 11 = 0 := by simp only [hx_nx_sI, hx_ce_sI, hx_sl_sI, hx_kd_sI, hx_ln_sI, hx_I_sI, hx_L_sI, hx_R_sI, hx_nx_sL, hx_ce_sL, hx_sl_sL, hx_kd_sL, hx_ln_sL, hx_I_sL, hx_L_sL, hx_R_sL, hx_nx_sR, hx_ce_sR, hx_sl_sR, hx_kd_sR, hx_ln_sR, hx_I_sR, hx_L_sR, hx_R_sR, hx_nx_al, hx_ce_al, hx_sl_al, hx_kd_al, hx_ln_al, hx_I_al, hx_L_al, hx_R_al, hx_nx_row, hx_ce_row, hx_sl_row, hx_kd_row, hx_ln_row, hx_I_row, hx_L_row, hx_R_row, hx_nx_mk, hx_kd_mk, hx_ln_mk, hx_I_mk, hx_L_mk, hx_R_mk, am_wp, am_stp, am_en, am_as, am_pad, am_nth, am_set, am_st1, am_st2, am_kl, am_kill, am_mem, am_fv, am_tk, am_wt, am_bk, Option.toList, List.cons_append, List.nil_append, Nat.reduceAdd, Nat.reduceEqDiff, Nat.reduceLeDiff, reduceIte, Nat.reduceLT, or_self, true_or, or_true, if_true, if_false, and_self, and_true, true_and, not_false_eq_true, not_true_eq_false]
  have v24 : am_I (am_sI (am_sI (am_sI h 72 3 1) 72 11 0) 72 24 0) 72 24 = 0 := by simp only [hx_nx_sI, hx_ce_sI, hx_sl_sI, hx_kd_sI, hx_ln_sI, hx_I_sI, hx_L_sI, hx_R_sI, hx_nx_sL, hx_ce_sL, hx_sl_sL, hx_kd_sL, hx_ln_sL, hx_I_sL, hx_L_sL, hx_R_sL, hx_nx_sR, hx_ce_sR, hx_sl_sR, hx_kd_sR, hx_ln_sR, hx_I_sR, hx_L_sR, hx_R_sR, hx_nx_al, hx_ce_al, hx_sl_al, hx_kd_al, hx_ln_al, hx_I_al, hx_L_al, hx_R_al, hx_nx_row, hx_ce_row, hx_sl_row, hx_kd_row, hx_ln_row, hx_I_row, hx_L_row, hx_R_row, hx_nx_mk, hx_kd_mk, hx_ln_mk, hx_I_mk, hx_L_mk, hx_R_mk, am_wp, am_stp, am_en, am_as, am_pad, am_nth, am_set, am_st1, am_st2, am_kl, am_kill, am_mem, am_fv, am_tk, am_wt, am_bk, Option.toList, List.cons_append, List.nil_append, Nat.reduceAdd, Nat.reduceEqDiff, Nat.reduceLeDiff, reduceIte, Nat.reduceLT, or_self, true_or, or_true, if_true, if_false, and_self, and_true, true_and, not_false_eq_true, not_true_eq_false]
  have vo : ∀ j, j ≠ 3 → j ≠ 11 → j ≠ 24 → am_I (am_sI (am_sI (am_sI h 72 3 1) 72 11 0) 72 24 0) 72 j = am_I h 72 j := fun j h1 h2 h3 => by simp only [hx_nx_sI, hx_ce_sI, hx_sl_sI, hx_kd_sI, hx_ln_sI, hx_I_sI, hx_L_sI, hx_R_sI, hx_nx_sL, hx_ce_sL, hx_sl_sL, hx_kd_sL, hx_ln_sL, hx_I_sL, hx_L_sL, hx_R_sL, hx_nx_sR, hx_ce_sR, hx_sl_sR, hx_kd_sR, hx_ln_sR, hx_I_sR, hx_L_sR, hx_R_sR, hx_nx_al, hx_ce_al, hx_sl_al, hx_kd_al, hx_ln_al, hx_I_al, hx_L_al, hx_R_al, hx_nx_row, hx_ce_row, hx_sl_row, hx_kd_row, hx_ln_row, hx_I_row, hx_L_row, hx_R_row, hx_nx_mk, hx_kd_mk, hx_ln_mk, hx_I_mk, hx_L_mk, hx_R_mk, am_wp, am_stp, am_en, am_as, am_pad, am_nth, am_set, am_st1, am_st2, am_kl, am_kill, am_mem, am_fv, am_tk, am_wt, am_bk, Option.toList, List.cons_append, List.nil_append, Nat.reduceAdd, Nat.reduceEqDiff, Nat.reduceLeDiff, reduceIte, Nat.reduceLT, or_self, true_or, or_true, if_true, if_false, and_self, and_true, true_and, not_false_eq_true, not_true_eq_false, h1, h2, h3]
  have S0 : mo_Sk (am_sI (am_sI (am_sI h 72 3 1) 72 11 0) 72 24 0) := hS.sI.sI.sI
  generalize am_sI (am_sI (am_sI h 72 3 1) 72 11 0) 72 24 0 = g0 at *
  refine rx_gd_1 S0 (fun g1 f1 z1 => ?_) 8 0 g0 rfl am_fi.refl (fun m hm => by omega)
  refine am_go [45] 2 ?_
  simp only [am_wp, am_stp, am_en, am_as, am_pad, am_nth, am_set, am_st1, am_st2, am_kl, am_kill, am_mem, am_fv, am_tk, am_wt, am_bk, Option.toList, List.cons_append, List.nil_append, Nat.reduceAdd, Nat.reduceEqDiff, Nat.reduceLeDiff, reduceIte, Nat.reduceLT, or_self, true_or, or_true, if_true, if_false, and_self, and_true, true_and, not_false_eq_true, not_true_eq_false, fd_Mo_goDown_43, fd_Mo_goDown_44]
  refine rx_gd_2 (S0.fi f1) (fun g2 f2 z2 => ?_) 100 0 g1 rfl am_fi.refl (fun m hm => by omega)
  have e1 : am_I g1 72 = am_I g0 72 := f1.2.2.2.2.2.2.1 72 (by decide)
  have e2 : am_I g2 72 = am_I g1 72 := f2.2.2.2.2.2.2.1 72 (by decide)
  have e3 : am_I g2 87 = am_I g1 87 := f2.2.2.2.2.2.2.1 87 (by decide)
  refine ⟨rfl, ((f0.sub (by simp)).trans (f1.sub (by simp))).trans (f2.sub (by simp)), ?_, ?_, ?_, fun j h1 h2 h3 => ?_, fun m hm => ?_, z2⟩
  · rw [e2, e1]; exact v3
  · rw [e2, e1]; exact v11
  · rw [e2, e1]; exact v24
  · rw [e2, e1]; exact vo j h1 h2 h3
  · rw [e3]; exact z1 m hm
/-- down: whatever the pages hold -/
theorem rI_dead {P : Nat} {h h' : am_H} (C : rC P h) (f : am_fi rA h h') (h1 : am_I h' 72 1 = am_I h 72 1) (h8 : ∃ a, a ≤ 1000 ∧ am_I h' 72 8 = nI a) (h9 : am_I h' 72 9 = am_I h 72 9) (h45 : am_I h' 72 45 = am_I h 72 45) (h3 : am_I h' 72 3 = 1) (h11 : am_I h' 72 11 = 0) (h24 : am_I h' 72 24 = 0) (z87 : ∀ m, m < 8 → am_I h' 87 m = 0) (z77 : ∀ s, s < 100 → am_I h' 77 s = 0) (hB : BY h') : rI P h' := by
  obtain ⟨c1, c2, c3, c4, ⟨a, b, c5, c6, c7, c8⟩, c9, -⟩ := C
  obtain ⟨a', a1, a2⟩ := h8
  refine ⟨⟨c1.fi f, c2, c3, h1.trans c4, ⟨a', b, a1, c6, a2, h9.trans c8⟩, by rw [h45]; exact c9, ⟨0, h11, ⟨Nat.zero_le _, fun i j _ hj => by omega, fun i hi => by omega⟩⟩, hB⟩, fun _ => [], [], fun _ => [], ?_⟩
  refine ⟨⟨h24, by simp, by simp, trivial, Nat.zero_le _⟩, fun m hm => Or.inl ⟨z87 m hm, rfl⟩, ⟨fun s hs => (z77 s hs).trans rfl, by simp [al]⟩, Or.inr ⟨h3, rfl⟩⟩
theorem BY.sI {g : am_H} {j : Nat} {v : Int32} (h : BY g) : BY (am_sI g 73 j (am_b8 v)) := fun i => by
  rw [hx_I_sI, if_pos rfl]
  by_cases e : i = j
  · rw [if_pos e, am_b8_b8]
  · rw [if_neg e]; exact h i
theorem BY.eq {g g' : am_H} (h : BY g) (e : am_I g' 73 = am_I g 73) : BY g' := by unfold BY; rw [e]; exact h
theorem rx_cut_loop {d p b : Nat} {z : Int64} {h : am_H} {Q : am_O → am_H → Prop} (hS : mo_Sk h) (hp : p < 1024) (hb : b ≤ 127) (hx : ∀ g, am_fi [73] h g → BY g → am_Ex nm_pr d mt_Mo_write (141, [.ref 72, .int (nI p), .long z, .retAddr 0, .int (nI b), .int 0, .int (nI b)], [], g) Q) : ∀ (n k : Nat) (g : am_H), n + k = b → am_fi [73] h g → BY g →
    am_Ex nm_pr d mt_Mo_write (108, [.ref 72, .int (nI p), .long z, .retAddr 0, .int (nI b), .int 0, .int (nI k)], [], g) Q
  | 0, k, g, hk, f, hB => by
    have e : k = b := by omega
    subst e
    have hlt : ¬ (nI k < nI k) := nI_nlt (Nat.le_refl _) (by omega)
    have S := hS.fi f
    refine am_go [115, 141] 3 ?_
    simp only [am_wp, am_stp, am_en, am_as, am_pad, am_nth, am_set, am_st1, am_st2, am_kl, am_kill, am_mem, am_fv, am_tk, am_wt, am_bk, Option.toList, List.cons_append, List.nil_append, Nat.reduceAdd, Nat.reduceEqDiff, Nat.reduceLeDiff, reduceIte, Nat.reduceLT, or_self, true_or, or_true, if_true, if_false, and_self, and_true, true_and, not_false_eq_true, not_true_eq_false, fd_Mo_write_108, fd_Mo_write_110, fd_Mo_write_112, S.all, hlt]
    exact hx g f hB
  | n + 1, k, g, hk, f, hB => by
    have S := hS.fi f
    have h1 : nI k < nI b := nI_lt (by omega) (by omega)
    have i1 := am_inb (c := k) (N := 128) (by omega) (by omega)
    have i2 := am_inb (c := 128 * p + k) (N := 131072) (by omega) (by omega)
    have c1 : (nI k).toNatClampNeg = k := nI_clamp (by omega)
    have c2 : (nI (128 * p + k)).toNatClampNeg = 128 * p + k := nI_clamp (by omega)
    have e1 : 128 * nI p = nI (128 * p) := (Int32.ofNat_mul 128 p).symm
    refine am_go [115, 141] 3 ?_
    simp only [am_wp, am_stp, am_en, am_as, am_pad, am_nth, am_set, am_st1, am_st2, am_kl, am_kill, am_mem, am_fv, am_tk, am_wt, am_bk, Option.toList, List.cons_append, List.nil_append, Nat.reduceAdd, Nat.reduceEqDiff, Nat.reduceLeDiff, reduceIte, Nat.reduceLT, or_self, true_or, or_true, if_true, if_false, and_self, and_true, true_and, not_false_eq_true, not_true_eq_false, fd_Mo_write_108, fd_Mo_write_110, fd_Mo_write_112, S.all, h1]
    refine am_go [108] 14 ?_
    simp only [am_wp, am_stp, am_en, am_as, am_pad, am_nth, am_set, am_st1, am_st2, am_kl, am_kill, am_mem, am_fv, am_tk, am_wt, am_bk, Option.toList, List.cons_append, List.nil_append, Nat.reduceAdd, Nat.reduceEqDiff, Nat.reduceLeDiff, reduceIte, Nat.reduceLT, or_self, true_or, or_true, if_true, if_false, and_self, and_true, true_and, not_false_eq_true, not_true_eq_false, fd_Mo_write_115, fd_Mo_write_116, fd_Mo_write_119, fd_Mo_write_122, fd_Mo_write_123, fd_Mo_write_124, fd_Mo_write_126, fd_Mo_write_127, fd_Mo_write_128, fd_Mo_write_131, fd_Mo_write_133, fd_Mo_write_134, fd_Mo_write_135, fd_Mo_write_138, S.all, e1, nI_add, i1, i2, c1, c2, nI_1]
    exact rx_cut_loop hS hp hb hx n (k + 1) _ (by omega) (f.sI (by simp)) (hB.sI)
/-- a whole WRITE -/
def rx_w (p : Nat) (h h' : am_H) : Prop := am_fi [72, 73, 91] h h' ∧ (∀ j, j ≠ 7 → j ≠ 8 → am_I h' 72 j = am_I h 72 j) ∧ (∃ a, a ≤ 1000 ∧ am_I h' 72 8 = nI a) ∧ am_I h' 73 = (fun j => if p * 128 ≤ j ∧ j < p * 128 + 128 then am_b8 (if 120 ≤ j - p * 128 then sm_O (sm_F (am_I h 91) (nI p).toInt64 120) (j - p * 128 - 120) else am_I h 91 (j - p * 128)) else am_I h 73 j) ∧ am_L h' = am_L h
theorem rx_w.by {p : Nat} {h h' : am_H} (w : rx_w p h h') (h0 : BY h) : BY h' := fun j => by
  rw [w.2.2.2.1]
  dsimp only
  by_cases e : p * 128 ≤ j ∧ j < p * 128 + 128
  · rw [if_pos e, am_b8_b8]
  · rw [if_neg e]; exact h0 j
def rx_Wr (P p : Nat) (h : am_H) (o : am_O) (h' : am_H) : Prop := (o = .inl (some (.int 1)) ∧ rx_w p h h') ∨ (o = .inl (some (.int 0)) ∧ rq P h h' ∧ am_I h' 72 3 = 1)
theorem rx_write {d P p : Nat} {h : am_H} (C : rC P h) (hp : p < 1024) : am_Rt nm_pr (d + 2) mi_Mo_write [.ref 72, .int (nI p)] h (rx_Wr P p h) := by
  obtain ⟨hS, P4, P1, i1, ⟨a, b, ha, hb, i8, i9⟩, -, -, cB⟩ := id C
  refine am_in' (d := d + 1) mt_Mo_write 7 rfl rfl rfl ?_
  refine am_go [] 4 ?_
  simp only [am_wp, am_stp, am_en, am_as, am_pad, am_nth, am_set, am_st1, am_st2, am_kl, am_kill, am_mem, am_fv, am_tk, am_wt, am_bk, Option.toList, List.cons_append, List.nil_append, Nat.reduceAdd, Nat.reduceEqDiff, Nat.reduceLeDiff, reduceIte, Nat.reduceLT, or_self, true_or, or_true, if_true, if_false, and_self, and_true, true_and, not_false_eq_true, not_true_eq_false, fd_Mo_write_0, fd_Mo_write_1, fd_Mo_write_2, fd_Mo_write_3, hS.all]
  refine am_call (l2_Mo_sumD hS.Pg) (fun o h1 q => ?_)
  obtain ⟨rfl, rfl⟩ := q
  simp only [am_wp, am_stp, am_en, am_as, am_pad, am_nth, am_set, am_st1, am_st2, am_kl, am_kill, am_mem, am_fv, am_tk, am_wt, am_bk, Option.toList, List.cons_append, List.nil_append, Nat.reduceAdd, Nat.reduceEqDiff, Nat.reduceLeDiff, reduceIte, Nat.reduceLT, or_self, true_or, or_true, if_true, if_false, and_self, and_true, true_and, not_false_eq_true, not_true_eq_false]
  refine am_go [10] 3 ?_
  simp only [am_wp, am_stp, am_en, am_as, am_pad, am_nth, am_set, am_st1, am_st2, am_kl, am_kill, am_mem, am_fv, am_tk, am_wt, am_bk, Option.toList, List.cons_append, List.nil_append, Nat.reduceAdd, Nat.reduceEqDiff, Nat.reduceLeDiff, reduceIte, Nat.reduceLT, or_self, true_or, or_true, if_true, if_false, and_self, and_true, true_and, not_false_eq_true, not_true_eq_false, fd_Mo_write_6, fd_Mo_write_7, fd_Mo_write_8]
  generalize hz : sm_F (am_I h1 91) (nI p).toInt64 120 = z
  refine l2_Mo_seal_loop 8 0 h1 rfl hS.Pg (fun h2 a1 a2 a3 => ?_)
  have S2 := hS.fi a1
  have e72 : am_I h2 72 = am_I h1 72 := a1.2.2.2.2.2.2.1 72 (by simp)
  have j8 : am_I h2 72 8 = nI a := by rw [e72]; exact i8
  have j9 : am_I h2 72 9 = nI b := by rw [e72]; exact i9
  refine am_go [60] 8 ?_
  simp only [am_wp, am_stp, am_en, am_as, am_pad, am_nth, am_set, am_st1, am_st2, am_kl, am_kill, am_mem, am_fv, am_tk, am_wt, am_bk, Option.toList, List.cons_append, List.nil_append, Nat.reduceAdd, Nat.reduceEqDiff, Nat.reduceLeDiff, reduceIte, Nat.reduceLT, or_self, true_or, or_true, if_true, if_false, and_self, and_true, true_and, not_false_eq_true, not_true_eq_false, fd_Mo_write_45, fd_Mo_write_46, fd_Mo_write_47, fd_Mo_write_50, fd_Mo_write_51, fd_Mo_write_52, fd_Mo_write_55, fd_Mo_write_58, S2.all]
  have S3 : mo_Sk (am_sI h2 72 7 (am_I h2 72 7 + 1)) := S2.sI
  have f3 : am_fi [72, 91] h1 (am_sI h2 72 7 (am_I h2 72 7 + 1)) := (a1.sub (by simp)).sI (by simp)
  have k8 : am_I (am_sI h2 72 7 (am_I h2 72 7 + 1)) 72 8 = nI a := by simp only [hx_nx_sI, hx_ce_sI, hx_sl_sI, hx_kd_sI, hx_ln_sI, hx_I_sI, hx_L_sI, hx_R_sI, hx_nx_sL, hx_ce_sL, hx_sl_sL, hx_kd_sL, hx_ln_sL, hx_I_sL, hx_L_sL, hx_R_sL, hx_nx_sR, hx_ce_sR, hx_sl_sR, hx_kd_sR, hx_ln_sR, hx_I_sR, hx_L_sR, hx_R_sR, hx_nx_al, hx_ce_al, hx_sl_al, hx_kd_al, hx_ln_al, hx_I_al, hx_L_al, hx_R_al, hx_nx_row, hx_ce_row, hx_sl_row, hx_kd_row, hx_ln_row, hx_I_row, hx_L_row, hx_R_row, hx_nx_mk, hx_kd_mk, hx_ln_mk, hx_I_mk, hx_L_mk, hx_R_mk, am_wp, am_stp, am_en, am_as, am_pad, am_nth, am_set, am_st1, am_st2, am_kl, am_kill, am_mem, am_fv, am_tk, am_wt, am_bk, Option.toList, List.cons_append, List.nil_append, Nat.reduceAdd, Nat.reduceEqDiff, Nat.reduceLeDiff, reduceIte, Nat.reduceLT, or_self, true_or, or_true, if_true, if_false, and_self, and_true, true_and, not_false_eq_true, not_true_eq_false]; exact j8
  have k9 : am_I (am_sI h2 72 7 (am_I h2 72 7 + 1)) 72 9 = nI b := by simp only [hx_nx_sI, hx_ce_sI, hx_sl_sI, hx_kd_sI, hx_ln_sI, hx_I_sI, hx_L_sI, hx_R_sI, hx_nx_sL, hx_ce_sL, hx_sl_sL, hx_kd_sL, hx_ln_sL, hx_I_sL, hx_L_sL, hx_R_sL, hx_nx_sR, hx_ce_sR, hx_sl_sR, hx_kd_sR, hx_ln_sR, hx_I_sR, hx_L_sR, hx_R_sR, hx_nx_al, hx_ce_al, hx_sl_al, hx_kd_al, hx_ln_al, hx_I_al, hx_L_al, hx_R_al, hx_nx_row, hx_ce_row, hx_sl_row, hx_kd_row, hx_ln_row, hx_I_row, hx_L_row, hx_R_row, hx_nx_mk, hx_kd_mk, hx_ln_mk, hx_I_mk, hx_L_mk, hx_R_mk, am_wp, am_stp, am_en, am_as, am_pad, am_nth, am_set, am_st1, am_st2, am_kl, am_kill, am_mem, am_fv, am_tk, am_wt, am_bk, Option.toList, List.cons_append, List.nil_append, Nat.reduceAdd, Nat.reduceEqDiff, Nat.reduceLeDiff, reduceIte, Nat.reduceLT, or_self, true_or, or_true, if_true, if_false, and_self, and_true, true_and, not_false_eq_true, not_true_eq_false]; exact j9
  have ko : ∀ j, j ≠ 7 → am_I (am_sI h2 72 7 (am_I h2 72 7 + 1)) 72 j = am_I h1 72 j := fun j hj => by simp only [hx_nx_sI, hx_ce_sI, hx_sl_sI, hx_kd_sI, hx_ln_sI, hx_I_sI, hx_L_sI, hx_R_sI, hx_nx_sL, hx_ce_sL, hx_sl_sL, hx_kd_sL, hx_ln_sL, hx_I_sL, hx_L_sL, hx_R_sL, hx_nx_sR, hx_ce_sR, hx_sl_sR, hx_kd_sR, hx_ln_sR, hx_I_sR, hx_L_sR, hx_R_sR, hx_nx_al, hx_ce_al, hx_sl_al, hx_kd_al, hx_ln_al, hx_I_al, hx_L_al, hx_R_al, hx_nx_row, hx_ce_row, hx_sl_row, hx_kd_row, hx_ln_row, hx_I_row, hx_L_row, hx_R_row, hx_nx_mk, hx_kd_mk, hx_ln_mk, hx_I_mk, hx_L_mk, hx_R_mk, am_wp, am_stp, am_en, am_as, am_pad, am_nth, am_set, am_st1, am_st2, am_kl, am_kill, am_mem, am_fv, am_tk, am_wt, am_bk, Option.toList, List.cons_append, List.nil_append, Nat.reduceAdd, Nat.reduceEqDiff, Nat.reduceLeDiff, reduceIte, Nat.reduceLT, or_self, true_or, or_true, if_true, if_false, and_self, and_true, true_and, not_false_eq_true, not_true_eq_false, hj]; rw [e72]
  have k91 : am_I (am_sI h2 72 7 (am_I h2 72 7 + 1)) 91 = (fun j => if 120 + 0 ≤ j ∧ j < 128 then sm_O z (j - 120) else am_I h1 91 j) := by
    rw [← a2]; funext j; simp only [hx_nx_sI, hx_ce_sI, hx_sl_sI, hx_kd_sI, hx_ln_sI, hx_I_sI, hx_L_sI, hx_R_sI, hx_nx_sL, hx_ce_sL, hx_sl_sL, hx_kd_sL, hx_ln_sL, hx_I_sL, hx_L_sL, hx_R_sL, hx_nx_sR, hx_ce_sR, hx_sl_sR, hx_kd_sR, hx_ln_sR, hx_I_sR, hx_L_sR, hx_R_sR, hx_nx_al, hx_ce_al, hx_sl_al, hx_kd_al, hx_ln_al, hx_I_al, hx_L_al, hx_R_al, hx_nx_row, hx_ce_row, hx_sl_row, hx_kd_row, hx_ln_row, hx_I_row, hx_L_row, hx_R_row, hx_nx_mk, hx_kd_mk, hx_ln_mk, hx_I_mk, hx_L_mk, hx_R_mk, am_wp, am_stp, am_en, am_as, am_pad, am_nth, am_set, am_st1, am_st2, am_kl, am_kill, am_mem, am_fv, am_tk, am_wt, am_bk, Option.toList, List.cons_append, List.nil_append, Nat.reduceAdd, Nat.reduceEqDiff, Nat.reduceLeDiff, reduceIte, Nat.reduceLT, or_self, true_or, or_true, if_true, if_false, and_self, and_true, true_and, not_false_eq_true, not_true_eq_false]
  have kL : am_L (am_sI h2 72 7 (am_I h2 72 7 + 1)) = am_L h1 := a3
  generalize am_sI h2 72 7 (am_I h2 72 7 + 1) = g at *
  -- whole
  have whole : ∀ g', am_fi [72, 91] h1 g' → (∀ j, j ≠ 7 → j ≠ 8 → am_I g' 72 j = am_I h1 72 j) → (∃ a, a ≤ 1000 ∧ am_I g' 72 8 = nI a) → am_I g' 91 = (fun j => if 120 + 0 ≤ j ∧ j < 128 then sm_O z (j - 120) else am_I h1 91 j) → am_L g' = am_L h1 → am_Ex nm_pr (d + 1) mt_Mo_write (90, [.ref 72, .int (nI p), .long z, .retAddr 0, .int 128, .retAddr 0, .retAddr 0], [], g') (rx_Wr P p h1) := by
    intro g' f' o' a' d' L'
    have S' := hS.fi f'
    refine am_go [108, 102] 9 ?_
    simp only [am_wp, am_stp, am_en, am_as, am_pad, am_nth, am_set, am_st1, am_st2, am_kl, am_kill, am_mem, am_fv, am_tk, am_wt, am_bk, Option.toList, List.cons_append, List.nil_append, Nat.reduceAdd, Nat.reduceEqDiff, Nat.reduceLeDiff, reduceIte, Nat.reduceLT, or_self, true_or, or_true, if_true, if_false, and_self, and_true, true_and, not_false_eq_true, not_true_eq_false, fd_Mo_write_90, fd_Mo_write_92, fd_Mo_write_95, fd_Mo_write_98, fd_Mo_write_99, fd_Mo_write_102, fd_Mo_write_103, fd_Mo_write_105, fd_Mo_write_106]
    refine l2_Mo_copy_loop hp 128 0 g' rfl S'.Pg (fun h3 b1 b2 b3 => Or.inl ⟨rfl, ?_, ?_, ?_, ?_, ?_⟩)
    · exact (f'.sub (by simp)).trans (b1.sub (by simp))
    · intro j h7 h8
      rw [b1.2.2.2.2.2.2.1 72 (by simp)]
      exact o' j h7 h8
    · rw [b1.2.2.2.2.2.2.1 72 (by simp)]; exact a'
    · rw [b2]
      funext j
      have e73 : am_I g' 73 = am_I h1 73 := f'.2.2.2.2.2.2.1 73 (by simp)
      simp only [d', e73, Nat.add_zero, hz]
      by_cases e : p * 128 ≤ j ∧ j < p * 128 + 128
      · rw [if_pos e, if_pos e]
        by_cases e2 : 120 ≤ j - p * 128
        · rw [if_pos (by omega), if_pos e2]
        · rw [if_neg (by omega), if_neg e2]
      · rw [if_neg e, if_neg e]
    · rw [b3, L']
  by_cases a0 : a = 0
  · subst a0
    have z0 : ¬ ((0 : Int32) < nI 0) := by decide
    refine am_go [67, 90] 3 ?_
    simp only [am_wp, am_stp, am_en, am_as, am_pad, am_nth, am_set, am_st1, am_st2, am_kl, am_kill, am_mem, am_fv, am_tk, am_wt, am_bk, Option.toList, List.cons_append, List.nil_append, Nat.reduceAdd, Nat.reduceEqDiff, Nat.reduceLeDiff, reduceIte, Nat.reduceLT, or_self, true_or, or_true, if_true, if_false, and_self, and_true, true_and, not_false_eq_true, not_true_eq_false, fd_Mo_write_60, fd_Mo_write_61, fd_Mo_write_64, S3.all, k8, z0]
    exact whole g f3 (fun j h7 _ => ko j h7) ⟨0, by omega, k8⟩ k91 kL
  · have z0 : (0 : Int32) < nI a := nI_lt (a := 0) (by omega) (by omega)
    have em : nI a - 1 = nI (a - 1) := nI_sub (b := 1) (by omega)
    refine am_go [67, 90] 3 ?_
    simp only [am_wp, am_stp, am_en, am_as, am_pad, am_nth, am_set, am_st1, am_st2, am_kl, am_kill, am_mem, am_fv, am_tk, am_wt, am_bk, Option.toList, List.cons_append, List.nil_append, Nat.reduceAdd, Nat.reduceEqDiff, Nat.reduceLeDiff, reduceIte, Nat.reduceLT, or_self, true_or, or_true, if_true, if_false, and_self, and_true, true_and, not_false_eq_true, not_true_eq_false, fd_Mo_write_60, fd_Mo_write_61, fd_Mo_write_64, S3.all, k8, z0]
    refine am_go [77] 6 ?_
    simp only [am_wp, am_stp, am_en, am_as, am_pad, am_nth, am_set, am_st1, am_st2, am_kl, am_kill, am_mem, am_fv, am_tk, am_wt, am_bk, Option.toList, List.cons_append, List.nil_append, Nat.reduceAdd, Nat.reduceEqDiff, Nat.reduceLeDiff, reduceIte, Nat.reduceLT, or_self, true_or, or_true, if_true, if_false, and_self, and_true, true_and, not_false_eq_true, not_true_eq_false, fd_Mo_write_67, fd_Mo_write_68, fd_Mo_write_69, fd_Mo_write_72, fd_Mo_write_73, fd_Mo_write_74, S3.all, k8, em]
    have S4 : mo_Sk (am_sI g 72 8 (nI (a - 1))) := S3.sI
    have f4 : am_fi [72, 91] h1 (am_sI g 72 8 (nI (a - 1))) := f3.sI (by simp)
    have m8 : am_I (am_sI g 72 8 (nI (a - 1))) 72 8 = nI (a - 1) := by simp only [hx_nx_sI, hx_ce_sI, hx_sl_sI, hx_kd_sI, hx_ln_sI, hx_I_sI, hx_L_sI, hx_R_sI, hx_nx_sL, hx_ce_sL, hx_sl_sL, hx_kd_sL, hx_ln_sL, hx_I_sL, hx_L_sL, hx_R_sL, hx_nx_sR, hx_ce_sR, hx_sl_sR, hx_kd_sR, hx_ln_sR, hx_I_sR, hx_L_sR, hx_R_sR, hx_nx_al, hx_ce_al, hx_sl_al, hx_kd_al, hx_ln_al, hx_I_al, hx_L_al, hx_R_al, hx_nx_row, hx_ce_row, hx_sl_row, hx_kd_row, hx_ln_row, hx_I_row, hx_L_row, hx_R_row, hx_nx_mk, hx_kd_mk, hx_ln_mk, hx_I_mk, hx_L_mk, hx_R_mk, am_wp, am_stp, am_en, am_as, am_pad, am_nth, am_set, am_st1, am_st2, am_kl, am_kill, am_mem, am_fv, am_tk, am_wt, am_bk, Option.toList, List.cons_append, List.nil_append, Nat.reduceAdd, Nat.reduceEqDiff, Nat.reduceLeDiff, reduceIte, Nat.reduceLT, or_self, true_or, or_true, if_true, if_false, and_self, and_true, true_and, not_false_eq_true, not_true_eq_false]
    have mo : ∀ j, j ≠ 7 → j ≠ 8 → am_I (am_sI g 72 8 (nI (a - 1))) 72 j = am_I h1 72 j := fun j h7 h8 => by simp only [hx_nx_sI, hx_ce_sI, hx_sl_sI, hx_kd_sI, hx_ln_sI, hx_I_sI, hx_L_sI, hx_R_sI, hx_nx_sL, hx_ce_sL, hx_sl_sL, hx_kd_sL, hx_ln_sL, hx_I_sL, hx_L_sL, hx_R_sL, hx_nx_sR, hx_ce_sR, hx_sl_sR, hx_kd_sR, hx_ln_sR, hx_I_sR, hx_L_sR, hx_R_sR, hx_nx_al, hx_ce_al, hx_sl_al, hx_kd_al, hx_ln_al, hx_I_al, hx_L_al, hx_R_al, hx_nx_row, hx_ce_row, hx_sl_row, hx_kd_row, hx_ln_row, hx_I_row, hx_L_row, hx_R_row, hx_nx_mk, hx_kd_mk, hx_ln_mk, hx_I_mk, hx_L_mk, hx_R_mk, am_wp, am_stp, am_en, am_as, am_pad, am_nth, am_set, am_st1, am_st2, am_kl, am_kill, am_mem, am_fv, am_tk, am_wt, am_bk, Option.toList, List.cons_append, List.nil_append, Nat.reduceAdd, Nat.reduceEqDiff, Nat.reduceLeDiff, reduceIte, Nat.reduceLT, or_self, true_or, or_true, if_true, if_false, and_self, and_true, true_and, not_false_eq_true, not_true_eq_false, h8]; exact ko j h7
    have m91 : am_I (am_sI g 72 8 (nI (a - 1))) 91 = (fun j => if 120 + 0 ≤ j ∧ j < 128 then sm_O z (j - 120) else am_I h1 91 j) := by
      rw [← k91]; funext j; simp only [hx_nx_sI, hx_ce_sI, hx_sl_sI, hx_kd_sI, hx_ln_sI, hx_I_sI, hx_L_sI, hx_R_sI, hx_nx_sL, hx_ce_sL, hx_sl_sL, hx_kd_sL, hx_ln_sL, hx_I_sL, hx_L_sL, hx_R_sL, hx_nx_sR, hx_ce_sR, hx_sl_sR, hx_kd_sR, hx_ln_sR, hx_I_sR, hx_L_sR, hx_R_sR, hx_nx_al, hx_ce_al, hx_sl_al, hx_kd_al, hx_ln_al, hx_I_al, hx_L_al, hx_R_al, hx_nx_row, hx_ce_row, hx_sl_row, hx_kd_row, hx_ln_row, hx_I_row, hx_L_row, hx_R_row, hx_nx_mk, hx_kd_mk, hx_ln_mk, hx_I_mk, hx_L_mk, hx_R_mk, am_wp, am_stp, am_en, am_as, am_pad, am_nth, am_set, am_st1, am_st2, am_kl, am_kill, am_mem, am_fv, am_tk, am_wt, am_bk, Option.toList, List.cons_append, List.nil_append, Nat.reduceAdd, Nat.reduceEqDiff, Nat.reduceLeDiff, reduceIte, Nat.reduceLT, or_self, true_or, or_true, if_true, if_false, and_self, and_true, true_and, not_false_eq_true, not_true_eq_false]
    have mL : am_L (am_sI g 72 8 (nI (a - 1))) = am_L h1 := kL
    generalize am_sI g 72 8 (nI (a - 1)) = g4 at *
    by_cases a1 : a - 1 = 0
    · have m9 : am_I g4 72 9 = nI b := (mo 9 (by decide) (by decide)).trans i9
      have e0 : nI (a - 1) = 0 := by rw [a1]; rfl
      refine am_go [84, 90] 3 ?_
      simp only [am_wp, am_stp, am_en, am_as, am_pad, am_nth, am_set, am_st1, am_st2, am_kl, am_kill, am_mem, am_fv, am_tk, am_wt, am_bk, Option.toList, List.cons_append, List.nil_append, Nat.reduceAdd, Nat.reduceEqDiff, Nat.reduceLeDiff, reduceIte, Nat.reduceLT, or_self, true_or, or_true, if_true, if_false, and_self, and_true, true_and, not_false_eq_true, not_true_eq_false, fd_Mo_write_77, fd_Mo_write_78, fd_Mo_write_81, S4.all, m8, e0]
      have n128 : ¬ nI b = 128 := fun e => by
        have := wnI_inj (b := 128) (by omega) (by decide) e
        omega
      refine am_go [90] 3 ?_
      simp only [am_wp, am_stp, am_en, am_as, am_pad, am_nth, am_set, am_st1, am_st2, am_kl, am_kill, am_mem, am_fv, am_tk, am_wt, am_bk, Option.toList, List.cons_append, List.nil_append, Nat.reduceAdd, Nat.reduceEqDiff, Nat.reduceLeDiff, reduceIte, Nat.reduceLT, or_self, true_or, or_true, if_true, if_false, and_self, and_true, true_and, not_false_eq_true, not_true_eq_false, fd_Mo_write_84, fd_Mo_write_85, fd_Mo_write_88, S4.all, m9]
      refine am_go [98, 102] 3 ?_
      simp only [am_wp, am_stp, am_en, am_as, am_pad, am_nth, am_set, am_st1, am_st2, am_kl, am_kill, am_mem, am_fv, am_tk, am_wt, am_bk, Option.toList, List.cons_append, List.nil_append, Nat.reduceAdd, Nat.reduceEqDiff, Nat.reduceLeDiff, reduceIte, Nat.reduceLT, or_self, true_or, or_true, if_true, if_false, and_self, and_true, true_and, not_false_eq_true, not_true_eq_false, fd_Mo_write_90, fd_Mo_write_92, fd_Mo_write_95, S4.all, n128]
      refine am_go [108] 5 ?_
      simp only [am_wp, am_stp, am_en, am_as, am_pad, am_nth, am_set, am_st1, am_st2, am_kl, am_kill, am_mem, am_fv, am_tk, am_wt, am_bk, Option.toList, List.cons_append, List.nil_append, Nat.reduceAdd, Nat.reduceEqDiff, Nat.reduceLeDiff, reduceIte, Nat.reduceLT, or_self, true_or, or_true, if_true, if_false, and_self, and_true, true_and, not_false_eq_true, not_true_eq_false, fd_Mo_write_102, fd_Mo_write_103, fd_Mo_write_105, fd_Mo_write_106]
      have b4 : BY g4 := by unfold BY; rw [f4.2.2.2.2.2.2.1 73 (by decide)]; exact cB
      refine rx_cut_loop S4 hp hb (fun g5 f5 b5 => ?_) b 0 g4 rfl am_fi.refl b4
      have S5 := S4.fi f5
      refine am_go [146, 150] 2 ?_
      simp only [am_wp, am_stp, am_en, am_as, am_pad, am_nth, am_set, am_st1, am_st2, am_kl, am_kill, am_mem, am_fv, am_tk, am_wt, am_bk, Option.toList, List.cons_append, List.nil_append, Nat.reduceAdd, Nat.reduceEqDiff, Nat.reduceLeDiff, reduceIte, Nat.reduceLT, or_self, true_or, or_true, if_true, if_false, and_self, and_true, true_and, not_false_eq_true, not_true_eq_false, fd_Mo_write_141, fd_Mo_write_143, S5.all]
      refine am_go [] 2 ?_
      simp only [am_wp, am_stp, am_en, am_as, am_pad, am_nth, am_set, am_st1, am_st2, am_kl, am_kill, am_mem, am_fv, am_tk, am_wt, am_bk, Option.toList, List.cons_append, List.nil_append, Nat.reduceAdd, Nat.reduceEqDiff, Nat.reduceLeDiff, reduceIte, Nat.reduceLT, or_self, true_or, or_true, if_true, if_false, and_self, and_true, true_and, not_false_eq_true, not_true_eq_false, fd_Mo_write_146, fd_Mo_write_147, S5.all]
      refine am_call (rx_goDown S5) (fun o g6 q => ?_)
      obtain ⟨rfl, q1, q2, q3, q4, q5, q6, q7⟩ := q
      simp only [am_wp, am_stp, am_en, am_as, am_pad, am_nth, am_set, am_st1, am_st2, am_kl, am_kill, am_mem, am_fv, am_tk, am_wt, am_bk, Option.toList, List.cons_append, List.nil_append, Nat.reduceAdd, Nat.reduceEqDiff, Nat.reduceLeDiff, reduceIte, Nat.reduceLT, or_self, true_or, or_true, if_true, if_false, and_self, and_true, true_and, not_false_eq_true, not_true_eq_false]
      have S6 := S5.fi q1
      refine am_go [] 2 ?_
      simp only [am_wp, am_stp, am_en, am_as, am_pad, am_nth, am_set, am_st1, am_st2, am_kl, am_kill, am_mem, am_fv, am_tk, am_wt, am_bk, Option.toList, List.cons_append, List.nil_append, Nat.reduceAdd, Nat.reduceEqDiff, Nat.reduceLeDiff, reduceIte, Nat.reduceLT, or_self, true_or, or_true, if_true, if_false, and_self, and_true, true_and, not_false_eq_true, not_true_eq_false, fd_Mo_write_150, fd_Mo_write_152, S6.all]
      have n5 : am_I g5 72 = am_I g4 72 := f5.2.2.2.2.2.2.1 72 (by decide)
      have f6 : am_fi rA h1 g6 := ((f4.sub (by decide)).trans (f5.sub (by decide))).trans (q1.sub (by decide))
      have po : ∀ j, j ≠ 3 → j ≠ 11 → j ≠ 24 → j ≠ 7 → j ≠ 8 → am_I g6 72 j = am_I h1 72 j := fun j x1 x2 x3 x4 x5 => by rw [q5 j x1 x2 x3, n5]; exact mo j x4 x5
      refine Or.inr ⟨rfl, ⟨rI_dead C f6 (po 1 (by decide) (by decide) (by decide) (by decide) (by decide)) ⟨a - 1, by omega, ?_⟩ (po 9 (by decide) (by decide) (by decide) (by decide) (by decide)) (po 45 (by decide) (by decide) (by decide) (by decide) (by decide)) q2 q3 q4 q6 q7 (by unfold BY; rw [q1.2.2.2.2.2.2.1 73 (by decide)]; exact b5), f6⟩, q2⟩
      rw [q5 8 (by decide) (by decide) (by decide), n5]; exact m8
    · have e0 : ¬ nI (a - 1) = 0 := fun e => a1 (wnI_inj (b := 0) (by omega) (by decide) e)
      refine am_go [84, 90] 3 ?_
      simp only [am_wp, am_stp, am_en, am_as, am_pad, am_nth, am_set, am_st1, am_st2, am_kl, am_kill, am_mem, am_fv, am_tk, am_wt, am_bk, Option.toList, List.cons_append, List.nil_append, Nat.reduceAdd, Nat.reduceEqDiff, Nat.reduceLeDiff, reduceIte, Nat.reduceLT, or_self, true_or, or_true, if_true, if_false, and_self, and_true, true_and, not_false_eq_true, not_true_eq_false, fd_Mo_write_77, fd_Mo_write_78, fd_Mo_write_81, S4.all, m8, e0]
      exact whole g4 f4 mo ⟨a - 1, by omega, m8⟩ m91 mL
