/-! .. the blend 25 .. 38 -/
section BS2
variable {arr p s : Nat} {h : am_H}
theorem bs_eq (k : Nat) {g : am_H} (hg : bs_it arr p s h k = g) : bs_it arr p s h (k + 1) = am_sR (am_sR (am_sR (am_al g 7 0 11) (am_nx g) 4 p) (am_nx g) 5 s) arr k (am_nx g) := by
  subst hg
  rfl
theorem bs_arr {j : Nat} (ha : arr < am_nx h) : ∀ k : Nat, am_R (bs_it arr p s h k) arr j = if j < k then am_nx h + j else am_R h arr j
  | 0 => by rw [if_neg (by omega)]; rfl
  | k + 1 => by
    have ih := bs_arr (j := j) ha k
    have hn := bs_nx (arr := arr) (p := p) (s := s) (h := h) k
    rw [bs_eq k rfl]
    generalize bs_it arr p s h k = g at *
    have hne : arr ≠ am_nx g := by omega
    simp only [hx_nx_sI, hx_ce_sI, hx_sl_sI, hx_kd_sI, hx_ln_sI, hx_I_sI, hx_L_sI, hx_R_sI, hx_nx_sL, hx_ce_sL, hx_sl_sL, hx_kd_sL, hx_ln_sL, hx_I_sL, hx_L_sL, hx_R_sL, hx_nx_sR, hx_ce_sR, hx_sl_sR, hx_kd_sR, hx_ln_sR, hx_I_sR, hx_L_sR, hx_R_sR, hx_nx_al, hx_ce_al, hx_sl_al, hx_kd_al, hx_ln_al, hx_I_al, hx_L_al, hx_R_al, hx_nx_row, hx_ce_row, hx_sl_row, hx_kd_row, hx_ln_row, hx_I_row, hx_L_row, hx_R_row, hx_nx_mk, hx_kd_mk, hx_ln_mk, hx_I_mk, hx_L_mk, hx_R_mk, am_wp, am_stp, am_en, am_as, am_pad, am_nth, am_set, am_st1, am_st2, am_kl, am_kill, am_mem, am_fv, am_tk, am_wt, am_bk, Option.toList, List.cons_append, List.nil_append, Nat.reduceAdd, Nat.reduceEqDiff, Nat.reduceLeDiff, reduceIte, Nat.reduceLT, or_self, true_or, or_true, if_true, if_false, and_self, and_true, true_and, not_false_eq_true, not_true_eq_false, hne]
    rw [ih, hn]
    by_cases e : j = k
    · subst e; rw [if_pos rfl, if_pos (by omega)]
    · rw [if_neg e]
      by_cases e2 : j < k
      · rw [if_pos e2, if_pos (by omega)]
      · rw [if_neg e2, if_neg (by omega)]
theorem bs_new (ha : arr < am_nx h) : ∀ k i : Nat, i < k → fr_C (bs_it arr p s h k) (am_nx h + i) 7 0 (fun j => if j = 4 then p else if j = 5 then s else 0)
  | 0, i, hi => by omega
  | k + 1, i, hi => by
    have hn := bs_nx (arr := arr) (p := p) (s := s) (h := h) k
    by_cases e : i = k
    · subst e
      rw [bs_eq i rfl, ← hn]
      generalize bs_it arr p s h i = g at *
      have hne : am_nx g ≠ arr := by omega
      refine ⟨?_, ?_, ⟨fun j => ?_, fun j => ?_⟩, ?_⟩
      all_goals (first | (funext j) | skip)
      all_goals (simp only [hx_nx_sI, hx_ce_sI, hx_sl_sI, hx_kd_sI, hx_ln_sI, hx_I_sI, hx_L_sI, hx_R_sI, hx_nx_sL, hx_ce_sL, hx_sl_sL, hx_kd_sL, hx_ln_sL, hx_I_sL, hx_L_sL, hx_R_sL, hx_nx_sR, hx_ce_sR, hx_sl_sR, hx_kd_sR, hx_ln_sR, hx_I_sR, hx_L_sR, hx_R_sR, hx_nx_al, hx_ce_al, hx_sl_al, hx_kd_al, hx_ln_al, hx_I_al, hx_L_al, hx_R_al, hx_nx_row, hx_ce_row, hx_sl_row, hx_kd_row, hx_ln_row, hx_I_row, hx_L_row, hx_R_row, hx_nx_mk, hx_kd_mk, hx_ln_mk, hx_I_mk, hx_L_mk, hx_R_mk, am_wp, am_stp, am_en, am_as, am_pad, am_nth, am_set, am_st1, am_st2, am_kl, am_kill, am_mem, am_fv, am_tk, am_wt, am_bk, Option.toList, List.cons_append, List.nil_append, Nat.reduceAdd, Nat.reduceEqDiff, Nat.reduceLeDiff, reduceIte, Nat.reduceLT, or_self, true_or, or_true, if_true, if_false, and_self, and_true, true_and, not_false_eq_true, not_true_eq_false, hne])
      all_goals ((repeat' split) <;> first | rfl | omega)
    · obtain ⟨c1, c2, ⟨c3, c4⟩, c5⟩ := bs_new ha k i (by omega)
      rw [bs_eq k rfl]
      generalize bs_it arr p s h k = g at *
      have hne : am_nx h + i ≠ am_nx g := by omega
      have hne2 : am_nx h + i ≠ arr := by omega
      refine ⟨?_, ?_, ⟨fun j => ?_, fun j => ?_⟩, ?_⟩
      · simp only [hx_nx_sI, hx_ce_sI, hx_sl_sI, hx_kd_sI, hx_ln_sI, hx_I_sI, hx_L_sI, hx_R_sI, hx_nx_sL, hx_ce_sL, hx_sl_sL, hx_kd_sL, hx_ln_sL, hx_I_sL, hx_L_sL, hx_R_sL, hx_nx_sR, hx_ce_sR, hx_sl_sR, hx_kd_sR, hx_ln_sR, hx_I_sR, hx_L_sR, hx_R_sR, hx_nx_al, hx_ce_al, hx_sl_al, hx_kd_al, hx_ln_al, hx_I_al, hx_L_al, hx_R_al, hx_nx_row, hx_ce_row, hx_sl_row, hx_kd_row, hx_ln_row, hx_I_row, hx_L_row, hx_R_row, hx_nx_mk, hx_kd_mk, hx_ln_mk, hx_I_mk, hx_L_mk, hx_R_mk, am_wp, am_stp, am_en, am_as, am_pad, am_nth, am_set, am_st1, am_st2, am_kl, am_kill, am_mem, am_fv, am_tk, am_wt, am_bk, Option.toList, List.cons_append, List.nil_append, Nat.reduceAdd, Nat.reduceEqDiff, Nat.reduceLeDiff, reduceIte, Nat.reduceLT, or_self, true_or, or_true, if_true, if_false, and_self, and_true, true_and, not_false_eq_true, not_true_eq_false, hne]; exact c1
      · simp only [hx_nx_sI, hx_ce_sI, hx_sl_sI, hx_kd_sI, hx_ln_sI, hx_I_sI, hx_L_sI, hx_R_sI, hx_nx_sL, hx_ce_sL, hx_sl_sL, hx_kd_sL, hx_ln_sL, hx_I_sL, hx_L_sL, hx_R_sL, hx_nx_sR, hx_ce_sR, hx_sl_sR, hx_kd_sR, hx_ln_sR, hx_I_sR, hx_L_sR, hx_R_sR, hx_nx_al, hx_ce_al, hx_sl_al, hx_kd_al, hx_ln_al, hx_I_al, hx_L_al, hx_R_al, hx_nx_row, hx_ce_row, hx_sl_row, hx_kd_row, hx_ln_row, hx_I_row, hx_L_row, hx_R_row, hx_nx_mk, hx_kd_mk, hx_ln_mk, hx_I_mk, hx_L_mk, hx_R_mk, am_wp, am_stp, am_en, am_as, am_pad, am_nth, am_set, am_st1, am_st2, am_kl, am_kill, am_mem, am_fv, am_tk, am_wt, am_bk, Option.toList, List.cons_append, List.nil_append, Nat.reduceAdd, Nat.reduceEqDiff, Nat.reduceLeDiff, reduceIte, Nat.reduceLT, or_self, true_or, or_true, if_true, if_false, and_self, and_true, true_and, not_false_eq_true, not_true_eq_false, hne]; exact c2
      · simp only [hx_nx_sI, hx_ce_sI, hx_sl_sI, hx_kd_sI, hx_ln_sI, hx_I_sI, hx_L_sI, hx_R_sI, hx_nx_sL, hx_ce_sL, hx_sl_sL, hx_kd_sL, hx_ln_sL, hx_I_sL, hx_L_sL, hx_R_sL, hx_nx_sR, hx_ce_sR, hx_sl_sR, hx_kd_sR, hx_ln_sR, hx_I_sR, hx_L_sR, hx_R_sR, hx_nx_al, hx_ce_al, hx_sl_al, hx_kd_al, hx_ln_al, hx_I_al, hx_L_al, hx_R_al, hx_nx_row, hx_ce_row, hx_sl_row, hx_kd_row, hx_ln_row, hx_I_row, hx_L_row, hx_R_row, hx_nx_mk, hx_kd_mk, hx_ln_mk, hx_I_mk, hx_L_mk, hx_R_mk, am_wp, am_stp, am_en, am_as, am_pad, am_nth, am_set, am_st1, am_st2, am_kl, am_kill, am_mem, am_fv, am_tk, am_wt, am_bk, Option.toList, List.cons_append, List.nil_append, Nat.reduceAdd, Nat.reduceEqDiff, Nat.reduceLeDiff, reduceIte, Nat.reduceLT, or_self, true_or, or_true, if_true, if_false, and_self, and_true, true_and, not_false_eq_true, not_true_eq_false, hne]; exact c3 j
      · simp only [hx_nx_sI, hx_ce_sI, hx_sl_sI, hx_kd_sI, hx_ln_sI, hx_I_sI, hx_L_sI, hx_R_sI, hx_nx_sL, hx_ce_sL, hx_sl_sL, hx_kd_sL, hx_ln_sL, hx_I_sL, hx_L_sL, hx_R_sL, hx_nx_sR, hx_ce_sR, hx_sl_sR, hx_kd_sR, hx_ln_sR, hx_I_sR, hx_L_sR, hx_R_sR, hx_nx_al, hx_ce_al, hx_sl_al, hx_kd_al, hx_ln_al, hx_I_al, hx_L_al, hx_R_al, hx_nx_row, hx_ce_row, hx_sl_row, hx_kd_row, hx_ln_row, hx_I_row, hx_L_row, hx_R_row, hx_nx_mk, hx_kd_mk, hx_ln_mk, hx_I_mk, hx_L_mk, hx_R_mk, am_wp, am_stp, am_en, am_as, am_pad, am_nth, am_set, am_st1, am_st2, am_kl, am_kill, am_mem, am_fv, am_tk, am_wt, am_bk, Option.toList, List.cons_append, List.nil_append, Nat.reduceAdd, Nat.reduceEqDiff, Nat.reduceLeDiff, reduceIte, Nat.reduceLT, or_self, true_or, or_true, if_true, if_false, and_self, and_true, true_and, not_false_eq_true, not_true_eq_false, hne]; exact c4 j
      · funext j; simp only [hx_nx_sI, hx_ce_sI, hx_sl_sI, hx_kd_sI, hx_ln_sI, hx_I_sI, hx_L_sI, hx_R_sI, hx_nx_sL, hx_ce_sL, hx_sl_sL, hx_kd_sL, hx_ln_sL, hx_I_sL, hx_L_sL, hx_R_sL, hx_nx_sR, hx_ce_sR, hx_sl_sR, hx_kd_sR, hx_ln_sR, hx_I_sR, hx_L_sR, hx_R_sR, hx_nx_al, hx_ce_al, hx_sl_al, hx_kd_al, hx_ln_al, hx_I_al, hx_L_al, hx_R_al, hx_nx_row, hx_ce_row, hx_sl_row, hx_kd_row, hx_ln_row, hx_I_row, hx_L_row, hx_R_row, hx_nx_mk, hx_kd_mk, hx_ln_mk, hx_I_mk, hx_L_mk, hx_R_mk, am_wp, am_stp, am_en, am_as, am_pad, am_nth, am_set, am_st1, am_st2, am_kl, am_kill, am_mem, am_fv, am_tk, am_wt, am_bk, Option.toList, List.cons_append, List.nil_append, Nat.reduceAdd, Nat.reduceEqDiff, Nat.reduceLeDiff, reduceIte, Nat.reduceLT, or_self, true_or, or_true, if_true, if_false, and_self, and_true, true_and, not_false_eq_true, not_true_eq_false, hne, hne2]; exact congrFun c5 j
theorem bs_xt (ha : arr < am_nx h) {n : Nat} (hn : n ≤ arr) : ∀ k : Nat, am_xt [] n h (bs_it arr p s h k) := fun k q hq _ =>
  ⟨bs_kd (by omega) k, bs_ln (by omega) k, funext fun j => bs_I (by omega) k, funext fun j => bs_L (by omega) k, funext fun j => bs_R (by omega) (by omega) k⟩
end BS2
def fr_4 (h : am_H) : Prop := fr_C h 25 2 0 (fun j => if j = 0 then 26 else if j = 2 then 29 else if j = 3 then 27 else if j = 4 then 28 else 0) ∧ fr_C h 26 3 0 (fun _ => 0) ∧ fr_C h 27 202 9 (fun j => if j < 9 then 30 + j else 0) ∧ fr_C h 28 203 10 (fun j => if j < 10 then 29 else 0) ∧ fr_C h 29 11 0 (fun j => if j = 4 then 3 else 0) ∧ ∀ i, i < 9 → fr_C h (30 + i) 7 0 (fun j => if j = 4 then 18 else if j = 5 then 21 else 0)
theorem fr_4.xt {S : List Nat} {n : Nat} {h h' : am_H} (c : fr_4 h) (x : am_xt S n h h') (ha : 39 ≤ n) (h0 : ∀ q ∈ S, q < 25 ∨ 39 ≤ q) : fr_4 h' := by
  have w : ∀ q, 25 ≤ q → q < 39 → q ∉ S := fun q h1 h2 h3 => by have := h0 q h3; omega
  obtain ⟨c1, c2, c3, c4, c5, c6⟩ := c
  exact ⟨c1.xt x (by omega) (w 25 (by decide) (by decide)), c2.xt x (by omega) (w 26 (by decide) (by decide)), c3.xt x (by omega) (w 27 (by decide) (by decide)), c4.xt x (by omega) (w 28 (by decide) (by decide)), c5.xt x (by omega) (w 29 (by decide) (by decide)), fun i hi => (c6 i hi).xt x (by omega) (w (30 + i) (by omega) (by omega))⟩
theorem l2_new_Bl {d : Nat} {h : am_H} (hq : am_nx h = 25) : am_Rt nm_pr (d + 3) mi_Blend_init [.ref 25, .ref 3, .ref 18, .ref 21] (am_al h 2 0 8) (fun o h' => o = .inl none ∧ am_nx h' = 39 ∧ am_ce h' = am_ce h + 14 ∧ am_sl h' = am_sl h + 134 ∧ am_xt [] 25 h h' ∧ fr_4 h') := by
  have k0 : am_kd (am_al h 2 0 8) 25 = 2 := by rw [hx_kd_al, if_pos hq.symm]
  have z0 : am_zz (am_al h 2 0 8) 25 := by have := am_zz.al (h := h) (k := 2) (n := 0) (s := 8); rw [hq] at this; exact this
  refine am_call (l2_Blend_init (q := 26) k0 (by decide) z0 (by rw [hx_nx_al, hq]) (by decide)) (fun o h1 q => ?_)
  obtain ⟨rfl, rfl⟩ := q
  obtain ⟨g, hg⟩ : ∃ g, g = bs_H1 (am_al h 2 0 8) 25 26 3 := ⟨_, rfl⟩
  have g1 : am_nx g = 30 := by rw [hg]; unfold bs_H1; simp only [hx_nx_sI, hx_ce_sI, hx_sl_sI, hx_kd_sI, hx_ln_sI, hx_I_sI, hx_L_sI, hx_R_sI, hx_nx_sL, hx_ce_sL, hx_sl_sL, hx_kd_sL, hx_ln_sL, hx_I_sL, hx_L_sL, hx_R_sL, hx_nx_sR, hx_ce_sR, hx_sl_sR, hx_kd_sR, hx_ln_sR, hx_I_sR, hx_L_sR, hx_R_sR, hx_nx_al, hx_ce_al, hx_sl_al, hx_kd_al, hx_ln_al, hx_I_al, hx_L_al, hx_R_al, hx_nx_row, hx_ce_row, hx_sl_row, hx_kd_row, hx_ln_row, hx_I_row, hx_L_row, hx_R_row, hx_nx_mk, hx_kd_mk, hx_ln_mk, hx_I_mk, hx_L_mk, hx_R_mk, hq, Nat.reduceAdd]
  rw [← hg]
  have n30 : ∀ i, i < 9 → fr_C (bs_it 27 18 21 g 9) (30 + i) 7 0 (fun j => if j = 4 then 18 else if j = 5 then 21 else 0) := fun i hi => by
    have := bs_new (arr := 27) (p := 18) (s := 21) (h := g) (by rw [g1]; decide) 9 i hi
    rw [g1] at this
    exact this
  have gx : am_xt [] 25 h g := by
    rw [hg]
    unfold bs_H1
    refine (((((am_xt.refl.al ?_).mk ?_ (Or.inr (by decide))).mk ?_ (Or.inr (by decide))).mk ?_ (Or.inr (by decide))).al ?_).sR (Or.inr (by decide)) |>.sR (Or.inr (by decide))
    all_goals (simp only [hx_nx_sI, hx_ce_sI, hx_sl_sI, hx_kd_sI, hx_ln_sI, hx_I_sI, hx_L_sI, hx_R_sI, hx_nx_sL, hx_ce_sL, hx_sl_sL, hx_kd_sL, hx_ln_sL, hx_I_sL, hx_L_sL, hx_R_sL, hx_nx_sR, hx_ce_sR, hx_sl_sR, hx_kd_sR, hx_ln_sR, hx_I_sR, hx_L_sR, hx_R_sR, hx_nx_al, hx_ce_al, hx_sl_al, hx_kd_al, hx_ln_al, hx_I_al, hx_L_al, hx_R_al, hx_nx_row, hx_ce_row, hx_sl_row, hx_kd_row, hx_ln_row, hx_I_row, hx_L_row, hx_R_row, hx_nx_mk, hx_kd_mk, hx_ln_mk, hx_I_mk, hx_L_mk, hx_R_mk, hq]; omega)
  have b27 : (27 : Nat) < am_nx g := by rw [g1]; decide
  have hF : ∀ i, i < 9 → fr_C (am_row (bs_it 27 18 21 g 9) 28 (fun j => if j < 10 then 29 else 0)) (30 + i) 7 0 (fun j => if j = 4 then 18 else if j = 5 then 21 else 0) := fun i hi => by
    obtain ⟨c1, c2, ⟨c3, c4⟩, c5⟩ := n30 i hi
    refine ⟨c1, c2, ⟨c3, c4⟩, ?_⟩
    funext j
    rw [hx_R_row, if_neg (by omega)]
    exact congrFun c5 j
  refine ⟨rfl, ?_, ?_, ?_, ?_, ?_⟩
  · simp only [hx_nx_sI, hx_ce_sI, hx_sl_sI, hx_kd_sI, hx_ln_sI, hx_I_sI, hx_L_sI, hx_R_sI, hx_nx_sL, hx_ce_sL, hx_sl_sL, hx_kd_sL, hx_ln_sL, hx_I_sL, hx_L_sL, hx_R_sL, hx_nx_sR, hx_ce_sR, hx_sl_sR, hx_kd_sR, hx_ln_sR, hx_I_sR, hx_L_sR, hx_R_sR, hx_nx_al, hx_ce_al, hx_sl_al, hx_kd_al, hx_ln_al, hx_I_al, hx_L_al, hx_R_al, hx_nx_row, hx_ce_row, hx_sl_row, hx_kd_row, hx_ln_row, hx_I_row, hx_L_row, hx_R_row, hx_nx_mk, hx_kd_mk, hx_ln_mk, hx_I_mk, hx_L_mk, hx_R_mk]; rw [bs_nx, g1]
  · simp only [hx_nx_sI, hx_ce_sI, hx_sl_sI, hx_kd_sI, hx_ln_sI, hx_I_sI, hx_L_sI, hx_R_sI, hx_nx_sL, hx_ce_sL, hx_sl_sL, hx_kd_sL, hx_ln_sL, hx_I_sL, hx_L_sL, hx_R_sL, hx_nx_sR, hx_ce_sR, hx_sl_sR, hx_kd_sR, hx_ln_sR, hx_I_sR, hx_L_sR, hx_R_sR, hx_nx_al, hx_ce_al, hx_sl_al, hx_kd_al, hx_ln_al, hx_I_al, hx_L_al, hx_R_al, hx_nx_row, hx_ce_row, hx_sl_row, hx_kd_row, hx_ln_row, hx_I_row, hx_L_row, hx_R_row, hx_nx_mk, hx_kd_mk, hx_ln_mk, hx_I_mk, hx_L_mk, hx_R_mk]; rw [bs_ce, hg]; unfold bs_H1 am_mk; simp only [hx_nx_sI, hx_ce_sI, hx_sl_sI, hx_kd_sI, hx_ln_sI, hx_I_sI, hx_L_sI, hx_R_sI, hx_nx_sL, hx_ce_sL, hx_sl_sL, hx_kd_sL, hx_ln_sL, hx_I_sL, hx_L_sL, hx_R_sL, hx_nx_sR, hx_ce_sR, hx_sl_sR, hx_kd_sR, hx_ln_sR, hx_I_sR, hx_L_sR, hx_R_sR, hx_nx_al, hx_ce_al, hx_sl_al, hx_kd_al, hx_ln_al, hx_I_al, hx_L_al, hx_R_al, hx_nx_row, hx_ce_row, hx_sl_row, hx_kd_row, hx_ln_row, hx_I_row, hx_L_row, hx_R_row, hx_nx_mk, hx_kd_mk, hx_ln_mk, hx_I_mk, hx_L_mk, hx_R_mk, Nat.add_assoc, Nat.reduceAdd]
  · simp only [hx_nx_sI, hx_ce_sI, hx_sl_sI, hx_kd_sI, hx_ln_sI, hx_I_sI, hx_L_sI, hx_R_sI, hx_nx_sL, hx_ce_sL, hx_sl_sL, hx_kd_sL, hx_ln_sL, hx_I_sL, hx_L_sL, hx_R_sL, hx_nx_sR, hx_ce_sR, hx_sl_sR, hx_kd_sR, hx_ln_sR, hx_I_sR, hx_L_sR, hx_R_sR, hx_nx_al, hx_ce_al, hx_sl_al, hx_kd_al, hx_ln_al, hx_I_al, hx_L_al, hx_R_al, hx_nx_row, hx_ce_row, hx_sl_row, hx_kd_row, hx_ln_row, hx_I_row, hx_L_row, hx_R_row, hx_nx_mk, hx_kd_mk, hx_ln_mk, hx_I_mk, hx_L_mk, hx_R_mk]; rw [bs_sl, hg]; unfold bs_H1 am_mk; simp only [hx_nx_sI, hx_ce_sI, hx_sl_sI, hx_kd_sI, hx_ln_sI, hx_I_sI, hx_L_sI, hx_R_sI, hx_nx_sL, hx_ce_sL, hx_sl_sL, hx_kd_sL, hx_ln_sL, hx_I_sL, hx_L_sL, hx_R_sL, hx_nx_sR, hx_ce_sR, hx_sl_sR, hx_kd_sR, hx_ln_sR, hx_I_sR, hx_L_sR, hx_R_sR, hx_nx_al, hx_ce_al, hx_sl_al, hx_kd_al, hx_ln_al, hx_I_al, hx_L_al, hx_R_al, hx_nx_row, hx_ce_row, hx_sl_row, hx_kd_row, hx_ln_row, hx_I_row, hx_L_row, hx_R_row, hx_nx_mk, hx_kd_mk, hx_ln_mk, hx_I_mk, hx_L_mk, hx_R_mk, Nat.add_assoc, Nat.reduceAdd, Nat.reduceMul]
  · exact (gx.trans (bs_xt b27 (n := 25) (by decide) 9) (Nat.le_refl _)).row (Or.inr (by decide))
  · refine ⟨⟨?_, ?_, ⟨fun j => ?_, fun j => ?_⟩, ?_⟩, ⟨?_, ?_, ⟨fun j => ?_, fun j => ?_⟩, ?_⟩, ⟨?_, ?_, ⟨fun j => ?_, fun j => ?_⟩, ?_⟩, ⟨?_, ?_, ⟨fun j => ?_, fun j => ?_⟩, ?_⟩, ⟨?_, ?_, ⟨fun j => ?_, fun j => ?_⟩, ?_⟩, hF⟩
    all_goals (first | (funext j) | skip)
    all_goals (simp only [hx_nx_sI, hx_ce_sI, hx_sl_sI, hx_kd_sI, hx_ln_sI, hx_I_sI, hx_L_sI, hx_R_sI, hx_nx_sL, hx_ce_sL, hx_sl_sL, hx_kd_sL, hx_ln_sL, hx_I_sL, hx_L_sL, hx_R_sL, hx_nx_sR, hx_ce_sR, hx_sl_sR, hx_kd_sR, hx_ln_sR, hx_I_sR, hx_L_sR, hx_R_sR, hx_nx_al, hx_ce_al, hx_sl_al, hx_kd_al, hx_ln_al, hx_I_al, hx_L_al, hx_R_al, hx_nx_row, hx_ce_row, hx_sl_row, hx_kd_row, hx_ln_row, hx_I_row, hx_L_row, hx_R_row, hx_nx_mk, hx_kd_mk, hx_ln_mk, hx_I_mk, hx_L_mk, hx_R_mk, am_wp, am_stp, am_en, am_as, am_pad, am_nth, am_set, am_st1, am_st2, am_kl, am_kill, am_mem, am_fv, am_tk, am_wt, am_bk, Option.toList, List.cons_append, List.nil_append, Nat.reduceAdd, Nat.reduceEqDiff, Nat.reduceLeDiff, reduceIte, Nat.reduceLT, or_self, true_or, or_true, if_true, if_false, and_self, and_true, true_and, not_false_eq_true, not_true_eq_false])
    all_goals (first | rw [bs_kd (by rw [g1]; decide)] | rw [bs_ln (by rw [g1]; decide)] | rw [bs_I (by rw [g1]; decide)] | rw [bs_L (by rw [g1]; decide)] | rw [bs_arr b27, g1] | rw [bs_R (by rw [g1]; decide) (by decide)] | skip)
    all_goals (try rw [hg])
    all_goals (try unfold bs_H1)
    all_goals (try simp only [hx_nx_sI, hx_ce_sI, hx_sl_sI, hx_kd_sI, hx_ln_sI, hx_I_sI, hx_L_sI, hx_R_sI, hx_nx_sL, hx_ce_sL, hx_sl_sL, hx_kd_sL, hx_ln_sL, hx_I_sL, hx_L_sL, hx_R_sL, hx_nx_sR, hx_ce_sR, hx_sl_sR, hx_kd_sR, hx_ln_sR, hx_I_sR, hx_L_sR, hx_R_sR, hx_nx_al, hx_ce_al, hx_sl_al, hx_kd_al, hx_ln_al, hx_I_al, hx_L_al, hx_R_al, hx_nx_row, hx_ce_row, hx_sl_row, hx_kd_row, hx_ln_row, hx_I_row, hx_L_row, hx_R_row, hx_nx_mk, hx_kd_mk, hx_ln_mk, hx_I_mk, hx_L_mk, hx_R_mk, hq, am_wp, am_stp, am_en, am_as, am_pad, am_nth, am_set, am_st1, am_st2, am_kl, am_kill, am_mem, am_fv, am_tk, am_wt, am_bk, Option.toList, List.cons_append, List.nil_append, Nat.reduceAdd, Nat.reduceEqDiff, Nat.reduceLeDiff, reduceIte, Nat.reduceLT, or_self, true_or, or_true, if_true, if_false, and_self, and_true, true_and, not_false_eq_true, not_true_eq_false])
    all_goals (try simp)
    all_goals ((repeat' split) <;> first | rfl | omega)
