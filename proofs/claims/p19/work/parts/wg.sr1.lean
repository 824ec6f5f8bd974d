/-! SortedRuns' OWN METHODS, WEAKLY -/
theorem wcell_2 {P j : Nat} {v : Int32} (hj : j ≠ 11) : wcell P 2 j v := by
  refine ⟨fun q => ?_, fun q => ?_, fun q => ?_, fun q => ?_, fun q => ?_, fun q => ?_, fun q => ?_, fun q => ?_⟩ <;> omega
theorem wp.s2 {P k j : Nat} {v : Int32} {h g : am_H} (w : wp P k h g) (hj : j ≠ 11) : wp P k h (am_sI g 2 j v) := w.sI (cw_lt (by omega) (by omega)) (fun e => absurd e (by decide)) (wcell_2 hj)
/-- the table is emptied -/
theorem wp.t0 {P k : Nat} {h g : am_H} (w : wp P k h g) : wp P k h (am_sI g 3 4 0) := by
  obtain ⟨⟨w1, w2, w3⟩, f⟩ := w
  refine ⟨⟨w1, fun b i => ?_, 0, ?_, by omega, fun i j _ hj => by omega⟩, f.trans (l := 0) ⟨fun q hq => ⟨rfl, rfl, ?_, rfl, rfl⟩, Nat.le_refl _, Nat.le_refl _, Nat.le_refl _, fun _ _ q => q⟩⟩
  · by_cases e : b = 3
    · subst e; exact wcell_free (by decide) (by omega)
    · rw [hx_I_sI, if_neg e]; exact w2 b i
  · simp only [hx_nx_sI, hx_ce_sI, hx_sl_sI, hx_kd_sI, hx_ln_sI, hx_I_sI, hx_L_sI, hx_R_sI, hx_nx_sL, hx_ce_sL, hx_sl_sL, hx_kd_sL, hx_ln_sL, hx_I_sL, hx_L_sL, hx_R_sL, hx_nx_sR, hx_ce_sR, hx_sl_sR, hx_kd_sR, hx_ln_sR, hx_I_sR, hx_L_sR, hx_R_sR, hx_nx_al, hx_ce_al, hx_sl_al, hx_kd_al, hx_ln_al, hx_I_al, hx_L_al, hx_R_al, hx_nx_row, hx_ce_row, hx_sl_row, hx_kd_row, hx_ln_row, hx_I_row, hx_L_row, hx_R_row, hx_nx_mk, hx_kd_mk, hx_ln_mk, hx_I_mk, hx_L_mk, hx_R_mk, am_wp, am_stp, am_en, am_as, am_pad, am_nth, am_set, am_st1, am_st2, am_kl, am_kill, am_mem, am_fv, am_tk, am_wt, am_bk, Option.toList, List.cons_append, List.nil_append, Nat.reduceAdd, Nat.reduceEqDiff, Nat.reduceLeDiff, reduceIte, Nat.reduceLT, or_self, true_or, or_true, if_true, if_false, and_self, and_true, true_and, not_false_eq_true, not_true_eq_false]; rfl
  · have hne : q ≠ 3 := by omega
    funext i
    rw [hx_I_sI, if_neg hne]
/-- a throw -/
theorem wp.ex {P : Nat} {h : am_H} (w : wk P h) : wp P 1 h (am_al h 0 0 6) := by
  obtain ⟨w1, w2, n, t1, t2, t3⟩ := w
  have h9 : 109 ≤ am_nx h := w1.2.2.2.2.2.2.1
  have sk : ∀ q, q < am_nx h → am_kd (am_al h 0 0 6) q = am_kd h q := fun q hq => by rw [hx_kd_al, if_neg (by omega)]
  have sl : ∀ q, q < am_nx h → am_ln (am_al h 0 0 6) q = am_ln h q := fun q hq => by rw [hx_ln_al, if_neg (by omega)]
  have sR : ∀ q, q < am_nx h → am_R (am_al h 0 0 6) q = am_R h q := fun q hq => by funext j; rw [hx_R_al, if_neg (by omega)]
  have sI : ∀ q, q < am_nx h → am_I (am_al h 0 0 6) q = am_I h q := fun q hq => by funext j; rw [hx_I_al, if_neg (by omega)]
  have sL : ∀ q, q < am_nx h → am_L (am_al h 0 0 6) q = am_L h q := fun q hq => by funext j; rw [hx_L_al, if_neg (by omega)]
  have nx1 : am_nx (am_al h 0 0 6) = am_nx h + 1 := rfl
  have ce1 : am_ce (am_al h 0 0 6) = am_ce h + 1 := rfl
  have sl1 : am_sl (am_al h 0 0 6) = am_sl h + 6 := rfl
  refine ⟨⟨w1.up sk sl sR (by omega), fun a j => ?_, n, ?_, t2, ?_⟩, fun a ha => ⟨sk a (by omega), sl a (by omega), sI a (by omega), sL a (by omega), sR a (by omega)⟩, by omega, by omega, by omega, fun a ka ra => ra.up sk sl (by rw [sR a ra.2.2.2.2.2.1]) (by omega)⟩
  · by_cases e : a < am_nx h
    · rw [sI a e]; exact w2 a j
    · exact wcell_free (by simp; omega) (by omega)
  · rw [sI 3 (by omega)]; exact t1
  · rw [sL 4 (by omega)]; exact t3
theorem ww_requireUp {d P : Nat} {h : am_H} (w : wk P h) : am_Rt nm_pr (d + 1) mi_SR_requireUp [.ref 2] h (fun o h' => (o = .inl none ∧ h' = h) ∨ ((∃ a, o = .inr (0, a)) ∧ wp P 1 h h')) := by
  refine am_in' mt_SR_requireUp 1 rfl rfl rfl ?_
  refine am_go [7, 17] 3 ?_
  simp only [am_wp, am_stp, am_en, am_as, am_pad, am_nth, am_set, am_st1, am_st2, am_kl, am_kill, am_mem, am_fv, am_tk, am_wt, am_bk, Option.toList, List.cons_append, List.nil_append, Nat.reduceAdd, Nat.reduceEqDiff, Nat.reduceLeDiff, reduceIte, Nat.reduceLT, or_self, true_or, or_true, if_true, if_false, and_self, and_true, true_and, not_false_eq_true, not_true_eq_false, fd_SR_requireUp_0, fd_SR_requireUp_1, fd_SR_requireUp_4, w.kd 2 1 (by decide)]
  refine wif ?_ ?_
  · refine am_go [] 2 ?_
    simp only [am_wp, am_stp, am_en, am_as, am_pad, am_nth, am_set, am_st1, am_st2, am_kl, am_kill, am_mem, am_fv, am_tk, am_wt, am_bk, Option.toList, List.cons_append, List.nil_append, Nat.reduceAdd, Nat.reduceEqDiff, Nat.reduceLeDiff, reduceIte, Nat.reduceLT, or_self, true_or, or_true, if_true, if_false, and_self, and_true, true_and, not_false_eq_true, not_true_eq_false, fd_SR_requireUp_17]
  · refine am_go [] 3 ?_
    simp only [am_wp, am_stp, am_en, am_as, am_pad, am_nth, am_set, am_st1, am_st2, am_kl, am_kill, am_mem, am_fv, am_tk, am_wt, am_bk, Option.toList, List.cons_append, List.nil_append, Nat.reduceAdd, Nat.reduceEqDiff, Nat.reduceLeDiff, reduceIte, Nat.reduceLT, or_self, true_or, or_true, if_true, if_false, and_self, and_true, true_and, not_false_eq_true, not_true_eq_false, fd_SR_requireUp_7]
    exact Or.inr ⟨⟨_, rfl⟩, wp.ex w⟩
theorem ww_down_loop {d P : Nat} {h : am_H} {Q : am_O → am_H → Prop} (hx : ∀ (i : Int32) (g : am_H), wp P 0 h g → am_Ex nm_pr (d + 1) mt_SR_goDown (43, [.ref 2, .int i], [], g) Q) : ∀ (m i : Nat) (g : am_H), m + i = 8 → wp P 0 h g →
    am_Ex nm_pr (d + 1) mt_SR_goDown (22, [.ref 2, .int (nI i)], [], g) Q
  | 0, i, g, hm, w => by
    have e : i = 8 := by omega
    subst e
    have l1 : ¬ nI 8 < 8 := by decide
    refine am_go [28, 43] 3 ?_
    simp only [am_wp, am_stp, am_en, am_as, am_pad, am_nth, am_set, am_st1, am_st2, am_kl, am_kill, am_mem, am_fv, am_tk, am_wt, am_bk, Option.toList, List.cons_append, List.nil_append, Nat.reduceAdd, Nat.reduceEqDiff, Nat.reduceLeDiff, reduceIte, Nat.reduceLT, or_self, true_or, or_true, if_true, if_false, and_self, and_true, true_and, not_false_eq_true, not_true_eq_false, fd_SR_goDown_22, fd_SR_goDown_23, fd_SR_goDown_25, l1]
    exact hx _ g w
  | m + 1, i, g, hm, w => by
    have l1 : nI i < 8 := nI_lt (b := 8) (by omega) (by decide)
    have n1 : (200 ≤ 201 ∧ 201 < 204) := by decide
    have i1 := am_inb (c := i) (N := 8) (by omega) (by omega)
    have q1 : (nI i).toNatClampNeg = i := nI_clamp (by omega)
    have ri : am_R g 12 i = 40 + 4 * i := by
      have e9 : i = 0 ∨ i = 1 ∨ i = 2 ∨ i = 3 ∨ i = 4 ∨ i = 5 ∨ i = 6 ∨ i = 7 := by omega
      rcases e9 with e | e | e | e | e | e | e | e <;> subst e <;> exact w.1.R 12 _ _ (by decide)
    have ht : wl (40 + 4 * i) := Or.inr (by omega)
    refine am_go [28, 43] 3 ?_
    simp only [am_wp, am_stp, am_en, am_as, am_pad, am_nth, am_set, am_st1, am_st2, am_kl, am_kill, am_mem, am_fv, am_tk, am_wt, am_bk, Option.toList, List.cons_append, List.nil_append, Nat.reduceAdd, Nat.reduceEqDiff, Nat.reduceLeDiff, reduceIte, Nat.reduceLT, or_self, true_or, or_true, if_true, if_false, and_self, and_true, true_and, not_false_eq_true, not_true_eq_false, fd_SR_goDown_22, fd_SR_goDown_23, fd_SR_goDown_25, l1]
    refine am_go [] 5 ?_
    simp only [am_wp, am_stp, am_en, am_as, am_pad, am_nth, am_set, am_st1, am_st2, am_kl, am_kill, am_mem, am_fv, am_tk, am_wt, am_bk, Option.toList, List.cons_append, List.nil_append, Nat.reduceAdd, Nat.reduceEqDiff, Nat.reduceLeDiff, reduceIte, Nat.reduceLT, or_self, true_or, or_true, if_true, if_false, and_self, and_true, true_and, not_false_eq_true, not_true_eq_false, fd_SR_goDown_28, fd_SR_goDown_29, fd_SR_goDown_32, fd_SR_goDown_33, fd_SR_goDown_34, w.1.kd 2 1 (by decide), w.1.R 2 4 12 (by decide), w.1.kd 12 201 (by decide), w.1.ln 12 8 (by decide), n1, i1, q1, ri, (w.1.lst ht).1]
    refine am_call (ww_forget w.1 ht) (fun o g1 q => ?_)
    obtain ⟨rfl, w1⟩ := q
    simp only [am_wp, am_stp, am_en, am_as, am_pad, am_nth, am_set, am_st1, am_st2, am_kl, am_kill, am_mem, am_fv, am_tk, am_wt, am_bk, Option.toList, List.cons_append, List.nil_append, Nat.reduceAdd, Nat.reduceEqDiff, Nat.reduceLeDiff, reduceIte, Nat.reduceLT, or_self, true_or, or_true, if_true, if_false, and_self, and_true, true_and, not_false_eq_true, not_true_eq_false]
    refine am_go [22] 2 ?_
    simp only [am_wp, am_stp, am_en, am_as, am_pad, am_nth, am_set, am_st1, am_st2, am_kl, am_kill, am_mem, am_fv, am_tk, am_wt, am_bk, Option.toList, List.cons_append, List.nil_append, Nat.reduceAdd, Nat.reduceEqDiff, Nat.reduceLeDiff, reduceIte, Nat.reduceLT, or_self, true_or, or_true, if_true, if_false, and_self, and_true, true_and, not_false_eq_true, not_true_eq_false, fd_SR_goDown_37, fd_SR_goDown_40, nI_1]
    exact ww_down_loop hx m (i + 1) g1 (by omega) ((w.trans w1).mono (by omega))
theorem ww_goDown {d P : Nat} {h : am_H} (w : wk P h) : am_Rt nm_pr (d + 2) mi_SR_goDown [.ref 2] h (fun o h' => o = .inl none ∧ wp P 0 h h') := by
  have o1 : (1 : Int32) = 0 ∨ (1 : Int32) = 1 := by decide
  have w1 := ((wp.refl w).s2 (j := 15) (v := 1) (by decide)).t0
  refine am_in' (d := d + 1) mt_SR_goDown 2 rfl rfl rfl ?_
  refine am_go [13] 7 ?_
  simp only [am_wp, am_stp, am_en, am_as, am_pad, am_nth, am_set, am_st1, am_st2, am_kl, am_kill, am_mem, am_fv, am_tk, am_wt, am_bk, Option.toList, List.cons_append, List.nil_append, Nat.reduceAdd, Nat.reduceEqDiff, Nat.reduceLeDiff, reduceIte, Nat.reduceLT, or_self, true_or, or_true, if_true, if_false, and_self, and_true, true_and, not_false_eq_true, not_true_eq_false, fd_SR_goDown_0, fd_SR_goDown_1, fd_SR_goDown_2, fd_SR_goDown_5, fd_SR_goDown_6, fd_SR_goDown_9, fd_SR_goDown_10, hx_nx_sI, hx_ce_sI, hx_sl_sI, hx_kd_sI, hx_ln_sI, hx_I_sI, hx_L_sI, hx_R_sI, hx_nx_sL, hx_ce_sL, hx_sl_sL, hx_kd_sL, hx_ln_sL, hx_I_sL, hx_L_sL, hx_R_sL, hx_nx_sR, hx_ce_sR, hx_sl_sR, hx_kd_sR, hx_ln_sR, hx_I_sR, hx_L_sR, hx_R_sR, hx_nx_al, hx_ce_al, hx_sl_al, hx_kd_al, hx_ln_al, hx_I_al, hx_L_al, hx_R_al, hx_nx_row, hx_ce_row, hx_sl_row, hx_kd_row, hx_ln_row, hx_I_row, hx_L_row, hx_R_row, hx_nx_mk, hx_kd_mk, hx_ln_mk, hx_I_mk, hx_L_mk, hx_R_mk, w.kd 2 1 (by decide), w.R 2 2 3 (by decide), w.kd 3 10 (by decide), o1]
  generalize am_sI (am_sI h 2 15 1) 3 4 0 = g at *
  refine am_go [] 3 ?_
  simp only [am_wp, am_stp, am_en, am_as, am_pad, am_nth, am_set, am_st1, am_st2, am_kl, am_kill, am_mem, am_fv, am_tk, am_wt, am_bk, Option.toList, List.cons_append, List.nil_append, Nat.reduceAdd, Nat.reduceEqDiff, Nat.reduceLeDiff, reduceIte, Nat.reduceLT, or_self, true_or, or_true, if_true, if_false, and_self, and_true, true_and, not_false_eq_true, not_true_eq_false, fd_SR_goDown_13, fd_SR_goDown_14, fd_SR_goDown_17, w1.1.kd 2 1 (by decide), w1.1.R 2 3 8 (by decide), w1.1.kd 8 6 (by decide)]
  refine am_call (ww_forget w1.1 (Or.inl rfl)) (fun o g1 q => ?_)
  obtain ⟨rfl, w2⟩ := q
  have w2 := (w1.trans w2).mono (l := 0) (by omega)
  simp only [am_wp, am_stp, am_en, am_as, am_pad, am_nth, am_set, am_st1, am_st2, am_kl, am_kill, am_mem, am_fv, am_tk, am_wt, am_bk, Option.toList, List.cons_append, List.nil_append, Nat.reduceAdd, Nat.reduceEqDiff, Nat.reduceLeDiff, reduceIte, Nat.reduceLT, or_self, true_or, or_true, if_true, if_false, and_self, and_true, true_and, not_false_eq_true, not_true_eq_false]
  refine am_go [22] 2 ?_
  simp only [am_wp, am_stp, am_en, am_as, am_pad, am_nth, am_set, am_st1, am_st2, am_kl, am_kill, am_mem, am_fv, am_tk, am_wt, am_bk, Option.toList, List.cons_append, List.nil_append, Nat.reduceAdd, Nat.reduceEqDiff, Nat.reduceLeDiff, reduceIte, Nat.reduceLT, or_self, true_or, or_true, if_true, if_false, and_self, and_true, true_and, not_false_eq_true, not_true_eq_false, fd_SR_goDown_20, fd_SR_goDown_21]
  refine ww_down_loop (P := P) (h := h) (fun i g2 w3 => ?_) 8 0 g1 rfl w2
  refine am_go [] 3 ?_
  simp only [am_wp, am_stp, am_en, am_as, am_pad, am_nth, am_set, am_st1, am_st2, am_kl, am_kill, am_mem, am_fv, am_tk, am_wt, am_bk, Option.toList, List.cons_append, List.nil_append, Nat.reduceAdd, Nat.reduceEqDiff, Nat.reduceLeDiff, reduceIte, Nat.reduceLT, or_self, true_or, or_true, if_true, if_false, and_self, and_true, true_and, not_false_eq_true, not_true_eq_false, fd_SR_goDown_43, fd_SR_goDown_44, fd_SR_goDown_47, w3.1.kd 2 1 (by decide), w3.1.R 2 1 21 (by decide), w3.1.kd 21 9 (by decide)]
  refine am_call (ww_clear w3.1) (fun o g3 q => ?_)
  obtain ⟨rfl, w4⟩ := q
  simp only [am_wp, am_stp, am_en, am_as, am_pad, am_nth, am_set, am_st1, am_st2, am_kl, am_kill, am_mem, am_fv, am_tk, am_wt, am_bk, Option.toList, List.cons_append, List.nil_append, Nat.reduceAdd, Nat.reduceEqDiff, Nat.reduceLeDiff, reduceIte, Nat.reduceLT, or_self, true_or, or_true, if_true, if_false, and_self, and_true, true_and, not_false_eq_true, not_true_eq_false]
  refine am_go [] 2 ?_
  simp only [am_wp, am_stp, am_en, am_as, am_pad, am_nth, am_set, am_st1, am_st2, am_kl, am_kill, am_mem, am_fv, am_tk, am_wt, am_bk, Option.toList, List.cons_append, List.nil_append, Nat.reduceAdd, Nat.reduceEqDiff, Nat.reduceLeDiff, reduceIte, Nat.reduceLT, or_self, true_or, or_true, if_true, if_false, and_self, and_true, true_and, not_false_eq_true, not_true_eq_false, fd_SR_goDown_50]
  exact (w3.trans w4).mono (by omega)
theorem ww_writePage {d P a : Nat} {v u : Int32} {h : am_H} (w : wk P h) (r : ruh h a) : am_Rt nm_pr (d + 4) mi_SR_writePage [.ref 2, .ref a, .int v, .int u] h (fun o h' => o = .inl none ∧ wp P 0 h h') := by
  refine am_in' (d := d + 3) mt_SR_writePage 4 rfl rfl rfl ?_
  refine am_go [] 4 ?_
  simp only [am_wp, am_stp, am_en, am_as, am_pad, am_nth, am_set, am_st1, am_st2, am_kl, am_kill, am_mem, am_fv, am_tk, am_wt, am_bk, Option.toList, List.cons_append, List.nil_append, Nat.reduceAdd, Nat.reduceEqDiff, Nat.reduceLeDiff, reduceIte, Nat.reduceLT, or_self, true_or, or_true, if_true, if_false, and_self, and_true, true_and, not_false_eq_true, not_true_eq_false, fd_SR_writePage_0, fd_SR_writePage_1, fd_SR_writePage_4, fd_SR_writePage_5, w.kd 2 1 (by decide), w.R 2 8 14 (by decide), w.kd 14 8 (by decide)]
  refine am_call (ww_finishPage w) (fun o g1 q => ?_)
  obtain ⟨rfl, w1⟩ := q
  simp only [am_wp, am_stp, am_en, am_as, am_pad, am_nth, am_set, am_st1, am_st2, am_kl, am_kill, am_mem, am_fv, am_tk, am_wt, am_bk, Option.toList, List.cons_append, List.nil_append, Nat.reduceAdd, Nat.reduceEqDiff, Nat.reduceLeDiff, reduceIte, Nat.reduceLT, or_self, true_or, or_true, if_true, if_false, and_self, and_true, true_and, not_false_eq_true, not_true_eq_false]
  refine am_go [] 8 ?_
  simp only [am_wp, am_stp, am_en, am_as, am_pad, am_nth, am_set, am_st1, am_st2, am_kl, am_kill, am_mem, am_fv, am_tk, am_wt, am_bk, Option.toList, List.cons_append, List.nil_append, Nat.reduceAdd, Nat.reduceEqDiff, Nat.reduceLeDiff, reduceIte, Nat.reduceLT, or_self, true_or, or_true, if_true, if_false, and_self, and_true, true_and, not_false_eq_true, not_true_eq_false, fd_SR_writePage_8, fd_SR_writePage_9, fd_SR_writePage_12, fd_SR_writePage_13, fd_SR_writePage_14, fd_SR_writePage_15, fd_SR_writePage_18, fd_SR_writePage_21, w1.1.kd 2 1 (by decide), w1.1.R 2 8 14 (by decide), w1.1.kd 14 8 (by decide), w1.1.R 2 1 21 (by decide), w1.1.kd 21 9 (by decide)]
  refine am_call (ww_claim w1.1) (fun o g2 q => ?_)
  obtain ⟨rfl, w2⟩ := q
  have w2 := (w1.trans w2).mono (l := 0) (by omega)
  have r2 := w2.2.ru r
  simp only [am_wp, am_stp, am_en, am_as, am_pad, am_nth, am_set, am_st1, am_st2, am_kl, am_kill, am_mem, am_fv, am_tk, am_wt, am_bk, Option.toList, List.cons_append, List.nil_append, Nat.reduceAdd, Nat.reduceEqDiff, Nat.reduceLeDiff, reduceIte, Nat.reduceLT, or_self, true_or, or_true, if_true, if_false, and_self, and_true, true_and, not_false_eq_true, not_true_eq_false]
  refine am_go [] 6 ?_
  simp only [am_wp, am_stp, am_en, am_as, am_pad, am_nth, am_set, am_st1, am_st2, am_kl, am_kill, am_mem, am_fv, am_tk, am_wt, am_bk, Option.toList, List.cons_append, List.nil_append, Nat.reduceAdd, Nat.reduceEqDiff, Nat.reduceLeDiff, reduceIte, Nat.reduceLT, or_self, true_or, or_true, if_true, if_false, and_self, and_true, true_and, not_false_eq_true, not_true_eq_false, fd_SR_writePage_24, fd_SR_writePage_25, fd_SR_writePage_26, fd_SR_writePage_29, fd_SR_writePage_30, fd_SR_writePage_31, r2.1]
  have w3 := w2.runI (j := 4) (v := am_I g2 a 4 + 1) r2
  generalize am_sI g2 a 4 (am_I g2 a 4 + 1) = g3 at *
  refine am_go [] 6 ?_
  simp only [am_wp, am_stp, am_en, am_as, am_pad, am_nth, am_set, am_st1, am_st2, am_kl, am_kill, am_mem, am_fv, am_tk, am_wt, am_bk, Option.toList, List.cons_append, List.nil_append, Nat.reduceAdd, Nat.reduceEqDiff, Nat.reduceLeDiff, reduceIte, Nat.reduceLT, or_self, true_or, or_true, if_true, if_false, and_self, and_true, true_and, not_false_eq_true, not_true_eq_false, fd_SR_writePage_34, fd_SR_writePage_35, fd_SR_writePage_38, fd_SR_writePage_39, fd_SR_writePage_40, fd_SR_writePage_43, w3.1.kd 2 1 (by decide), w3.1.R 2 0 18 (by decide), w3.1.kd 18 4 (by decide), w3.1.R 2 8 14 (by decide)]
  refine am_call (ww_store w3.1) (fun o g4 q => ?_)
  obtain ⟨b, w4⟩ := q
  have w4 := (w3.trans w4).mono (l := 0) (by omega)
  obtain ⟨x, rfl, -⟩ := b01_cases b
  simp only [am_wp, am_stp, am_en, am_as, am_pad, am_nth, am_set, am_st1, am_st2, am_kl, am_kill, am_mem, am_fv, am_tk, am_wt, am_bk, Option.toList, List.cons_append, List.nil_append, Nat.reduceAdd, Nat.reduceEqDiff, Nat.reduceLeDiff, reduceIte, Nat.reduceLT, or_self, true_or, or_true, if_true, if_false, and_self, and_true, true_and, not_false_eq_true, not_true_eq_false]
  have fin : ∀ g, wp P 0 h g → am_Ex nm_pr (d + 3) mt_SR_writePage (53, [.ref 2, .ref a, .int v, .int u], [], g) (fun o h' => o = .inl none ∧ wp P 0 h h') := fun g wg => by
    refine am_go [] 2 ?_
    simp only [am_wp, am_stp, am_en, am_as, am_pad, am_nth, am_set, am_st1, am_st2, am_kl, am_kill, am_mem, am_fv, am_tk, am_wt, am_bk, Option.toList, List.cons_append, List.nil_append, Nat.reduceAdd, Nat.reduceEqDiff, Nat.reduceLeDiff, reduceIte, Nat.reduceLT, or_self, true_or, or_true, if_true, if_false, and_self, and_true, true_and, not_false_eq_true, not_true_eq_false, fd_SR_writePage_53]
    exact wg
  refine am_go [49, 53] 1 ?_
  simp only [am_wp, am_stp, am_en, am_as, am_pad, am_nth, am_set, am_st1, am_st2, am_kl, am_kill, am_mem, am_fv, am_tk, am_wt, am_bk, Option.toList, List.cons_append, List.nil_append, Nat.reduceAdd, Nat.reduceEqDiff, Nat.reduceLeDiff, reduceIte, Nat.reduceLT, or_self, true_or, or_true, if_true, if_false, and_self, and_true, true_and, not_false_eq_true, not_true_eq_false, fd_SR_writePage_46]
  refine wif ?_ (fin _ w4)
  refine am_go [] 2 ?_
  simp only [am_wp, am_stp, am_en, am_as, am_pad, am_nth, am_set, am_st1, am_st2, am_kl, am_kill, am_mem, am_fv, am_tk, am_wt, am_bk, Option.toList, List.cons_append, List.nil_append, Nat.reduceAdd, Nat.reduceEqDiff, Nat.reduceLeDiff, reduceIte, Nat.reduceLT, or_self, true_or, or_true, if_true, if_false, and_self, and_true, true_and, not_false_eq_true, not_true_eq_false, fd_SR_writePage_49, fd_SR_writePage_50, w4.1.kd 2 1 (by decide)]
  refine am_call (ww_goDown w4.1) (fun o g5 q => ?_)
  obtain ⟨rfl, w5⟩ := q
  simp only [am_wp, am_stp, am_en, am_as, am_pad, am_nth, am_set, am_st1, am_st2, am_kl, am_kill, am_mem, am_fv, am_tk, am_wt, am_bk, Option.toList, List.cons_append, List.nil_append, Nat.reduceAdd, Nat.reduceEqDiff, Nat.reduceLeDiff, reduceIte, Nat.reduceLT, or_self, true_or, or_true, if_true, if_false, and_self, and_true, true_and, not_false_eq_true, not_true_eq_false]
  exact fin _ ((w4.trans w5).mono (by omega))
