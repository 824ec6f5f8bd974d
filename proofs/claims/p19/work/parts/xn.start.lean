/-! THE START -/
/-- from pc 205 on: the head is written -/
theorem l2_SR_6w {d P : Nat} {x v : Int32} {h : am_H} {Q : am_O → am_H → Prop} (hS : cl_Sh h) (hP : cl_Pg P h) (k2 : am_kd h 2 = 1) (r0 : am_R h 2 0 = 18) (r8 : am_R h 2 8 = 14) (r3 : am_R h 2 3 = 8) (k8 : am_kd h 8 = 6) (i8 : am_I h 8 1 = 0) (i12 : am_I h 2 12 = 1) (i13 : am_I h 2 13 = 1)
    (z15 : am_I h 15 = fun _ => 0) (z19 : am_I h 19 = fun _ => 0) (z20 : am_I h 20 = fun j => if j = 0 then 1 else 0)
    (hx : ∀ h', am_fi [14, 15, 19, 20] h h' → am_L h' = am_L h → (am_I h' 19 = fun j => if 128 ≤ j ∧ j < 256 then hd_p (j - 128) else 0) → (am_I h' 20 = fun j => if j = 1 then 1 else if j = 0 then 1 else 0) → am_I h' 14 1 = nI 7 → Q (.inl none) h') :
    am_Ex nm_pr (d + 4) mt_SR_init (205, [.ref 2, .int x, .int (nI P), .int v], [], h) Q := by
  refine am_go [] 4 ?_
  simp only [am_wp, am_stp, am_en, am_as, am_pad, am_nth, am_set, am_st1, am_st2, am_kl, am_kill, am_mem, am_fv, am_tk, am_wt, am_bk, Option.toList, List.cons_append, List.nil_append, Nat.reduceAdd, Nat.reduceEqDiff, Nat.reduceLeDiff, reduceIte, Nat.reduceLT, or_self, true_or, or_true, if_true, if_false, and_self, and_true, true_and, not_false_eq_true, not_true_eq_false, fd_SR_init_205, fd_SR_init_206, fd_SR_init_207, fd_SR_init_210, k2, i12]
  refine am_call (l2_fillHead1 hS k2 r8 r3 k8 i8 i13) (fun o h1 q => ?_)
  obtain ⟨rfl, a1, a2, a3, a4⟩ := q
  simp only [am_wp, am_stp, am_en, am_as, am_pad, am_nth, am_set, am_st1, am_st2, am_kl, am_kill, am_mem, am_fv, am_tk, am_wt, am_bk, Option.toList, List.cons_append, List.nil_append, Nat.reduceAdd, Nat.reduceEqDiff, Nat.reduceLeDiff, reduceIte, Nat.reduceLT, or_self, true_or, or_true, if_true, if_false, and_self, and_true, true_and, not_false_eq_true, not_true_eq_false]
  have S1 := hS.fi a1
  have P1 := hP.fi a1 (by simp)
  have K2 : am_kd h1 2 = 1 := by rw [a1.2.2.2.1]; exact k2
  have R8 : am_R h1 2 8 = 14 := by rw [a1.2.2.2.2.2.1]; exact r8
  have R0 : am_R h1 2 0 = 18 := by rw [a1.2.2.2.2.2.1]; exact r0
  refine am_go [] 4 ?_
  simp only [am_wp, am_stp, am_en, am_as, am_pad, am_nth, am_set, am_st1, am_st2, am_kl, am_kill, am_mem, am_fv, am_tk, am_wt, am_bk, Option.toList, List.cons_append, List.nil_append, Nat.reduceAdd, Nat.reduceEqDiff, Nat.reduceLeDiff, reduceIte, Nat.reduceLT, or_self, true_or, or_true, if_true, if_false, and_self, and_true, true_and, not_false_eq_true, not_true_eq_false, fd_SR_init_213, fd_SR_init_214, fd_SR_init_217, fd_SR_init_218, K2, R8, S1.1]
  refine am_call (l2_seal S1) (fun o h2 q => ?_)
  obtain ⟨rfl, b1, b2, b3⟩ := q
  simp only [am_wp, am_stp, am_en, am_as, am_pad, am_nth, am_set, am_st1, am_st2, am_kl, am_kill, am_mem, am_fv, am_tk, am_wt, am_bk, Option.toList, List.cons_append, List.nil_append, Nat.reduceAdd, Nat.reduceEqDiff, Nat.reduceLeDiff, reduceIte, Nat.reduceLT, or_self, true_or, or_true, if_true, if_false, and_self, and_true, true_and, not_false_eq_true, not_true_eq_false]
  have S2 := S1.fi b1
  have P2 := P1.fi b1 (by simp)
  have K22 : am_kd h2 2 = 1 := by rw [b1.2.2.2.1]; exact K2
  have R82 : am_R h2 2 8 = 14 := by rw [b1.2.2.2.2.2.1]; exact R8
  have R02 : am_R h2 2 0 = 18 := by rw [b1.2.2.2.2.2.1]; exact R0
  refine am_go [] 7 ?_
  simp only [am_wp, am_stp, am_en, am_as, am_pad, am_nth, am_set, am_st1, am_st2, am_kl, am_kill, am_mem, am_fv, am_tk, am_wt, am_bk, Option.toList, List.cons_append, List.nil_append, Nat.reduceAdd, Nat.reduceEqDiff, Nat.reduceLeDiff, reduceIte, Nat.reduceLT, or_self, true_or, or_true, if_true, if_false, and_self, and_true, true_and, not_false_eq_true, not_true_eq_false, fd_SR_init_221, fd_SR_init_222, fd_SR_init_225, fd_SR_init_226, fd_SR_init_227, fd_SR_init_230, fd_SR_init_233, K22, R82, R02, P2.1]
  refine am_call (l2_lay (p := 1) (m := 128) (by have := P2.2.2.2.2.2.2.2.2.1; omega) (by decide) P2 S2) (fun o h3 q => ?_)
  obtain ⟨rfl, c1, c2, c3⟩ := q
  simp only [am_wp, am_stp, am_en, am_as, am_pad, am_nth, am_set, am_st1, am_st2, am_kl, am_kill, am_mem, am_fv, am_tk, am_wt, am_bk, Option.toList, List.cons_append, List.nil_append, Nat.reduceAdd, Nat.reduceEqDiff, Nat.reduceLeDiff, reduceIte, Nat.reduceLT, or_self, true_or, or_true, if_true, if_false, and_self, and_true, true_and, not_false_eq_true, not_true_eq_false]
  have P3 := P2.fi c1 (by simp)
  have K23 : am_kd h3 2 = 1 := by rw [c1.2.2.2.1]; exact K22
  have R03 : am_R h3 2 0 = 18 := by rw [c1.2.2.2.2.2.1]; exact R02
  refine am_go [] 4 ?_
  simp only [am_wp, am_stp, am_en, am_as, am_pad, am_nth, am_set, am_st1, am_st2, am_kl, am_kill, am_mem, am_fv, am_tk, am_wt, am_bk, Option.toList, List.cons_append, List.nil_append, Nat.reduceAdd, Nat.reduceEqDiff, Nat.reduceLeDiff, reduceIte, Nat.reduceLT, or_self, true_or, or_true, if_true, if_false, and_self, and_true, true_and, not_false_eq_true, not_true_eq_false, fd_SR_init_236, fd_SR_init_237, fd_SR_init_240, fd_SR_init_241, K23, R03, P3.1]
  refine am_call (l2_checkSum (p := 1) (by have := P3.2.2.2.2.2.2.2.2.1; omega) P3) (fun o h4 q => ?_)
  obtain ⟨rfl, rfl⟩ := q
  simp only [am_wp, am_stp, am_en, am_as, am_pad, am_nth, am_set, am_st1, am_st2, am_kl, am_kill, am_mem, am_fv, am_tk, am_wt, am_bk, Option.toList, List.cons_append, List.nil_append, Nat.reduceAdd, Nat.reduceEqDiff, Nat.reduceLeDiff, reduceIte, Nat.reduceLT, or_self, true_or, or_true, if_true, if_false, and_self, and_true, true_and, not_false_eq_true, not_true_eq_false]
  refine am_go [] 3 ?_
  simp only [am_wp, am_stp, am_en, am_as, am_pad, am_nth, am_set, am_st1, am_st2, am_kl, am_kill, am_mem, am_fv, am_tk, am_wt, am_bk, Option.toList, List.cons_append, List.nil_append, Nat.reduceAdd, Nat.reduceEqDiff, Nat.reduceLeDiff, reduceIte, Nat.reduceLT, or_self, true_or, or_true, if_true, if_false, and_self, and_true, true_and, not_false_eq_true, not_true_eq_false, fd_SR_init_244]
  have e15 : am_I h1 15 = fun j => if j < 128 then hd_1 j else 0 := by rw [a2, z15]
  have e15' : ∀ j, am_I h1 15 j = if j < 128 then hd_1 j else 0 := fun j => congrFun e15 j
  have b2' : ∀ j, am_I h2 15 j = if 120 ≤ j ∧ j < 128 then sm_O (sm_F (am_I h1 15) (1 : Int32).toInt64 120) (j - 120) else am_I h1 15 j := fun j => congrFun b2 j
  have eF : sm_F (am_I h1 15) (1 : Int32).toInt64 120 = hd_z := by
    unfold hd_z
    exact sm_F_ext 120 (fun j hj => by rw [e15' j]; exact if_pos (by omega))
  have e152 : ∀ j, j < 128 → am_I h2 15 j = hd_p j := by
    intro j hj
    rw [b2' j, eF]
    unfold hd_p
    by_cases e : j < 120
    · rw [if_pos e, if_neg (by omega), e15' j, if_pos (by omega)]
    · rw [if_neg e, if_pos (by omega)]
  have e19 : am_I h3 19 = fun j => if 128 ≤ j ∧ j < 256 then hd_p (j - 128) else 0 := by
    rw [c2]
    funext j
    have q1 : am_I h2 19 = fun _ => 0 := by rw [b1.2.2.2.2.2.2.1 19 (by simp), a1.2.2.2.2.2.2.1 19 (by simp), z19]
    by_cases e : 128 ≤ j ∧ j < 256
    · rw [if_pos (by omega), if_pos e, show j - 1 * 128 = j - 128 by omega, e152 _ (by omega), hd_b8]
    · rw [if_neg (by omega), if_neg e, q1]
  have e19' : ∀ j, am_I h3 19 j = if 128 ≤ j ∧ j < 256 then hd_p (j - 128) else 0 := fun j => congrFun e19 j
  refine hx _ ?_ ?_ ?_ ?_ ?_
  · exact (((a1.sub (by simp)).trans (b1.sub (by simp))).trans (c1.sub (by simp))).sI (by simp)
  · simp only [hx_nx_sI, hx_ce_sI, hx_sl_sI, hx_kd_sI, hx_ln_sI, hx_I_sI, hx_L_sI, hx_R_sI, hx_nx_sL, hx_ce_sL, hx_sl_sL, hx_kd_sL, hx_ln_sL, hx_I_sL, hx_L_sL, hx_R_sL, hx_nx_sR, hx_ce_sR, hx_sl_sR, hx_kd_sR, hx_ln_sR, hx_I_sR, hx_L_sR, hx_R_sR, hx_nx_al, hx_ce_al, hx_sl_al, hx_kd_al, hx_ln_al, hx_I_al, hx_L_al, hx_R_al, hx_nx_row, hx_ce_row, hx_sl_row, hx_kd_row, hx_ln_row, hx_I_row, hx_L_row, hx_R_row, hx_nx_mk, hx_kd_mk, hx_ln_mk, hx_I_mk, hx_L_mk, hx_R_mk]; rw [c3, b3, a4]
  · funext j
    simp only [hx_nx_sI, hx_ce_sI, hx_sl_sI, hx_kd_sI, hx_ln_sI, hx_I_sI, hx_L_sI, hx_R_sI, hx_nx_sL, hx_ce_sL, hx_sl_sL, hx_kd_sL, hx_ln_sL, hx_I_sL, hx_L_sL, hx_R_sL, hx_nx_sR, hx_ce_sR, hx_sl_sR, hx_kd_sR, hx_ln_sR, hx_I_sR, hx_L_sR, hx_R_sR, hx_nx_al, hx_ce_al, hx_sl_al, hx_kd_al, hx_ln_al, hx_I_al, hx_L_al, hx_R_al, hx_nx_row, hx_ce_row, hx_sl_row, hx_kd_row, hx_ln_row, hx_I_row, hx_L_row, hx_R_row, hx_nx_mk, hx_kd_mk, hx_ln_mk, hx_I_mk, hx_L_mk, hx_R_mk, am_wp, am_stp, am_en, am_as, am_pad, am_nth, am_set, am_st1, am_st2, am_kl, am_kill, am_mem, am_fv, am_tk, am_wt, am_bk, Option.toList, List.cons_append, List.nil_append, Nat.reduceAdd, Nat.reduceEqDiff, Nat.reduceLeDiff, reduceIte, Nat.reduceLT, or_self, true_or, or_true, if_true, if_false, and_self, and_true, true_and, not_false_eq_true, not_true_eq_false, e19]
  · funext j
    have q1 : am_I h3 20 = fun j => if j = 0 then 1 else 0 := by rw [c1.2.2.2.2.2.2.1 20 (by simp), b1.2.2.2.2.2.2.1 20 (by simp), a1.2.2.2.2.2.2.1 20 (by simp), z20]
    have q2 : (fun j => am_I h3 19 (1 * 128 + 120 + j)) = fun j => am_I h3 19 (248 + j) := rfl
    have q3 : cs_B (fun j => am_I h3 19 (1 * 128 + 120 + j)) (sm_F (fun j => am_I h3 19 (1 * 128 + j)) (nI 1).toInt64 120) 8 = 1 := by
      rw [cs_B_1]
      intro i hi
      have hc := (cs_B_1 8).mp hd_cs i hi
      have eS : sm_F (fun j => am_I h3 19 (1 * 128 + j)) (nI 1).toInt64 120 = sm_F hd_p (nI 1).toInt64 120 := sm_F_ext 120 (fun j hj => by
        rw [e19', if_pos (by omega), show 1 * 128 + j - 128 = j by omega])
      rw [eS, ← hc, e19', if_pos (by omega), show 1 * 128 + 120 + i - 128 = 120 + i by omega]
    simp only [hx_nx_sI, hx_ce_sI, hx_sl_sI, hx_kd_sI, hx_ln_sI, hx_I_sI, hx_L_sI, hx_R_sI, hx_nx_sL, hx_ce_sL, hx_sl_sL, hx_kd_sL, hx_ln_sL, hx_I_sL, hx_L_sL, hx_R_sL, hx_nx_sR, hx_ce_sR, hx_sl_sR, hx_kd_sR, hx_ln_sR, hx_I_sR, hx_L_sR, hx_R_sR, hx_nx_al, hx_ce_al, hx_sl_al, hx_kd_al, hx_ln_al, hx_I_al, hx_L_al, hx_R_al, hx_nx_row, hx_ce_row, hx_sl_row, hx_kd_row, hx_ln_row, hx_I_row, hx_L_row, hx_R_row, hx_nx_mk, hx_kd_mk, hx_ln_mk, hx_I_mk, hx_L_mk, hx_R_mk, am_wp, am_stp, am_en, am_as, am_pad, am_nth, am_set, am_st1, am_st2, am_kl, am_kill, am_mem, am_fv, am_tk, am_wt, am_bk, Option.toList, List.cons_append, List.nil_append, Nat.reduceAdd, Nat.reduceEqDiff, Nat.reduceLeDiff, reduceIte, Nat.reduceLT, or_self, true_or, or_true, if_true, if_false, and_self, and_true, true_and, not_false_eq_true, not_true_eq_false]
    rw [q3, q1]
  · rw [hx_I_sI, if_neg (by decide), c1.2.2.2.2.2.2.1 14 (by simp), b1.2.2.2.2.2.2.1 14 (by simp), a3]; rfl
theorem l2_SR_initw {d : Nat} {x : Int32} {h : am_H} (hq : am_nx h = 3) (hS : fr_SR h (fun _ => 0) (fun _ => 0)) : am_Rt nm_pr (d + 5) mi_SR_init [.ref 2, .int x] h (fun o h' => o = .inl none ∧ am_nx h' = 72 ∧ am_ce h' = am_ce h + 69 ∧ am_sl h' = am_sl h + 1160 + 132 * pg_n x ∧ fr_All (pg_n x) h' ∧ am_I h' 14 1 = nI 7 ∧ am_xt [2] 2 h h') := by
  obtain ⟨p1, p2, p3⟩ := pg_spec x
  refine am_in' mt_SR_init 4 rfl rfl rfl ?_
  show am_Ex nm_pr (d + 4) mt_SR_init (0, [.ref 2, .int x, .retAddr 0, .retAddr 0], [], h) _
  refine l2_SR_1 hq hS (fun h1 a1 a2 a3 a4 a5 a6 a7 a8 => ?_)
  refine l2_SR_2 a1 a7 (fun h2 b1 b2 b3 b4 b5 b6 => ?_)
  rw [p1]
  refine l2_SR_3 b1 b5 p2 p3 (fun h3 c1 c2 c3 c4 c5 c6 => ?_)
  refine l2_SR_4 c1 c5 rfl rfl rfl (fun h4 d1 d2 d3 d4 d5 d6 d7 => ?_)
  have t1 : fr_1 h1 := ⟨a4, a5⟩
  have t2 : fr_1 h4 := ((t1.xt b6 (by decide) (by simp)).xt c6 (by decide) (by simp)).xt d7 (by decide) (by simp)
  have u2 : fr_2 h4 := (b4.xt c6 (by decide) (by simp)).xt d7 (by decide) (by simp)
  have v2 : fr_3 (pg_n x) h4 := c4.xt d7 (by decide) (by simp)
  have w2 : fr_5 h4 0 := by
    refine ⟨?_, fun j hj => by omega⟩
    have e : (fun j => if j < 0 then 40 + 4 * j else 0) = fun _ => 0 := by funext j; rw [if_neg (by omega)]
    rw [e]
    exact ((a6.xt b6 (by decide) (by decide)).xt c6 (by decide) (by decide)).xt d7 (by decide) (by decide)
  refine l2_SR_5 rfl 8 0 h4 rfl d1 d6 w2 (fun h5 e1 e2 e3 e4 e5 e6 => ?_)
  have t5 : fr_1 h5 := t2.xt e6 (by decide) (by simp)
  have u5 : fr_2 h5 := u2.xt e6 (by decide) (by simp)
  have v5 : fr_3 (pg_n x) h5 := v2.xt e6 (by decide) (by simp)
  have x5 : fr_4 h5 := d4.xt e6 (by decide) (by simp)
  have y5 := d5.xt e6 (by decide) (by decide)
  obtain ⟨s1, s2, s3⟩ := id e4
  obtain ⟨⟨g1, g2, g3, g4⟩, g5, ⟨g6, g7, g8⟩, ⟨g9, g10, g11⟩, g12, g13, g14⟩ := id v5
  have sh : cl_Sh h5 := ⟨u5.2.1.1, by rw [u5.2.1.2.2.2]; rfl, u5.2.2.1.1, u5.2.2.1.2.1⟩
  have pg : cl_Pg (pg_n x) h5 := ⟨g1, by rw [g2]; rfl, by rw [g2]; rfl, by rw [g3]; rfl, g5.1, g5.2.1, g6, g7, p2, p3⟩
  have xt0 : am_xt [2, 12] 2 h h5 := by
    have q1 : am_xt [2, 12] 2 h h1 := a8.sub (by simp)
    have q2 : am_xt [2, 12] 13 h1 h2 := b6.sub (by simp)
    have q3 : am_xt [2, 12] 18 h2 h3 := c6.sub (by simp)
    have q4 : am_xt [2, 12] 25 h3 h4 := d7.sub (by simp)
    have q5 : am_xt [2, 12] 40 h4 h5 := e6.sub (by simp)
    exact (((q1.trans q2 (by decide)).trans q3 (by decide)).trans q4 (by decide)).trans q5 (by decide)
  refine l2_SR_6w sh pg s1 (by rw [s2]; rfl) (by rw [s2]; rfl) (by rw [s2]; rfl) t5.2.1.1 (t5.2.1.2.2.1.1 1) (by rw [s3]; rfl) (by rw [s3]; rfl) (funext u5.2.2.1.2.2.1.1) (funext g5.2.2.1.1) g8 (fun h' z1 z2 z3 z4 z6 => ?_)
  have z5 : am_xt [14, 15, 19, 20] 72 h5 h' := am_xt.refl.fi z1
  refine ⟨rfl, z1.1.trans e1, ?_, ?_, ⟨t5.xt z5 (by decide) (by simp), ⟨u5.1.xt z5 (by decide) (by decide), u5.2.2.2.1.xt z5 (by decide) (by decide), u5.2.2.2.2.xt z5 (by decide) (by decide)⟩, sh.fi z1, pg.fi z1 (by decide), ?_, z3, z4, ?_, g12.xt z5 (by decide) (by decide), g13.xt z5 (by decide) (by decide), g14.xt z5 (by decide) (by decide), x5.xt z5 (by decide) (by simp), y5.xt z5 (by decide) (by decide), ?_, ?_⟩, z6, ?_⟩
  · rw [z1.2.1, e2, d2, c2, b2, a2]
  · rw [z1.2.2.1, e3, d3, c3, b3, a3]; omega
  · rw [z1.2.2.2.2.2.2.1 18 (by decide)]; exact g3
  · obtain ⟨q1, q2, q3, q4, q5⟩ := z5 21 (by decide) (by decide)
    exact ⟨q1.trans g9, q5.trans g10, q3.trans g11⟩
  · refine ⟨e5.1.xt z5 (by decide) (by decide), fun j hj => (e5.2 j hj).xt z5 (by omega) ?_ ?_ ?_ ?_⟩
    all_goals (simp; omega)
  · obtain ⟨q1, q2, q3⟩ := e4.xt z5 (by decide) (by decide)
    refine ⟨q1, ?_, q3⟩
    rw [q2]
    funext j
    match j with
    | 0 => rfl
    | 1 => rfl
    | 2 => rfl
    | 3 => rfl
    | 4 => rfl
    | 5 => rfl
    | 6 => rfl
    | 7 => rfl
    | 8 => rfl
    | 9 => rfl
    | 10 => rfl
    | n + 11 => simp
  · intro q hq hS
    have r1 := xt0 q hq (by simp; omega)
    have r2 := z5 q (by omega) (by simp; omega)
    exact ⟨r2.1.trans r1.1, r2.2.1.trans r1.2.1, r2.2.2.1.trans r1.2.2.1, r2.2.2.2.1.trans r1.2.2.2.1, r2.2.2.2.2.trans r1.2.2.2.2⟩
