/-! THE TABLE BECOMES A RUN -/
/-- cells that are not the object's are as they were; k runs were made -/
def lf (k : Nat) (h h' : am_H) : Prop := (∀ a, a < 2 ∨ (72 ≤ a ∧ a < 109) → am_kd h' a = am_kd h a ∧ am_ln h' a = am_ln h a ∧ am_I h' a = am_I h a ∧ am_L h' a = am_L h a ∧ am_R h' a = am_R h a) ∧ am_nx h ≤ am_nx h' ∧ am_ce h' ≤ am_ce h + 2 * k ∧ am_sl h' ≤ am_sl h + 17 * k
theorem lf.refl {h : am_H} : lf 0 h h := ⟨fun _ _ => ⟨rfl, rfl, rfl, rfl, rfl⟩, Nat.le_refl _, by omega, by omega⟩
theorem lf.trans {k l : Nat} {h h1 h2 : am_H} (a : lf k h h1) (b : lf l h1 h2) : lf (k + l) h h2 := by
  obtain ⟨a1, a2, a3, a4⟩ := a
  obtain ⟨b1, b2, b3, b4⟩ := b
  refine ⟨fun x hx => ?_, by omega, by omega, by omega⟩
  obtain ⟨p1, p2, p3, p4, p5⟩ := a1 x hx
  obtain ⟨q1, q2, q3, q4, q5⟩ := b1 x hx
  exact ⟨q1.trans p1, q2.trans p2, q3.trans p3, q4.trans p4, q5.trans p5⟩
theorem lf.mono {k l : Nat} {h h1 : am_H} (a : lf k h h1) (hk : k ≤ l) : lf l h h1 := ⟨a.1, a.2.1, by have := a.2.2.1; omega, by have := a.2.2.2; omega⟩
theorem lf.fx {S : List Nat} {h h1 : am_H} (f : am_fx S h h1) (hS : ∀ q ∈ S, (2 ≤ q ∧ q < 72) ∨ 109 ≤ q) : lf 0 h h1 := by
  obtain ⟨f1, f2, f3, f4, f5, f6, f7, f8⟩ := f
  refine ⟨fun a ha => ?_, by omega, by omega, by omega⟩
  have hn : a ∉ S := fun z => by have := hS a z; omega
  exact ⟨by rw [f4], by rw [f5], f6 a hn, f7 a hn, f8 a hn⟩
theorem lf.fi {S : List Nat} {h h1 : am_H} (f : am_fi S h h1) (hS : ∀ q ∈ S, (2 ≤ q ∧ q < 72) ∨ 109 ≤ q) : lf 0 h h1 := lf.fx f.fx hS
theorem lf.nr {P : Nat} {h h' : am_H} {lv : Int32} {L : List ent} {ps : List (Nat × List ent)} (q : nr_Q P h h' lv L ps) (hx : 109 ≤ am_nx h) : lf 1 h h' := by
  obtain ⟨⟨q1, q2, q3⟩, q4, -⟩ := q
  refine ⟨fun a ha => q4 a (by omega) ?_, by omega, by omega, by omega⟩
  unfold wr_w
  simp
  omega
theorem so_app {A B : List ent} : so (A ++ B) → ∀ a ∈ A, ∀ b ∈ B, a.1 < b.1 := by
  induction A with
  | nil => intro _ a ha; simp at ha
  | cons x A ih =>
    intro h a ha b hb
    rcases List.mem_cons.mp ha with e | e
    · subst e; exact h.1 b (by simp [hb])
    · exact ih h.2 a e b hb
theorem ch_E_mem {ps : List (Nat × List ent)} {q : Nat × List ent} {e : ent} : q ∈ ps → e ∈ q.2 → e ∈ ch_E ps := by
  induction ps with
  | nil => intro h; simp at h
  | cons x r ih =>
    intro h1 h2
    unfold ch_E
    rcases List.mem_cons.mp h1 with e1 | e1
    · subst e1; simp [h2]
    · simp [ih e1 h2]
theorem ch_C.ne {P : Nat} {h : am_H} : ∀ {ps : List (Nat × List ent)}, ch_C P h ps → ∀ q ∈ ps, q.2 ≠ []
  | [], _, q, hq => by simp at hq
  | x :: r, a, q, hq => by
    rcases List.mem_cons.mp hq with e | e
    · subst e; exact a.1.2.2.1
    · exact a.2.2.ne q e
/-- a new run can be read -/
theorem nr_Q.rd {P : Nat} {h h' : am_H} {lv : Int32} {L : List ent} {ps : List (Nat × List ent)} (q : nr_Q P h h' lv L ps) (hL : so L) (hne : L ≠ []) : rd_S P h' (am_nx h) ps := by
  obtain ⟨q1, q2, q3, q4, q5, ⟨k5, i1, i8, i4, i3⟩, q7, q8, q9, q10, ⟨q11, q12⟩, q13, q14⟩ := q
  have hz := fz_le (am_I h 22) P
  have hP := q5.2.2.1.2.2.2.2.2.2.2.2.2
  cases ps with
  | nil => exact absurd q13.symm hne
  | cons p r =>
    refine ⟨k5, i4, by omega, q7, p, r, rfl, i3 p.1 rfl, fun x hx => ?_⟩
    have hxne := q7.ne x (by simp [hx])
    have hpne := q7.ne p (by simp)
    cases hx2 : x.2 with
    | nil => exact absurd hx2 hxne
    | cons e D =>
      cases hp2 : p.2 with
      | nil => exact absurd hp2 hpne
      | cons e0 D0 =>
        rw [(q8 x (by simp [hx])).2.2 e (by rw [hx2]; rfl)]
        have hs : so (p.2 ++ ch_E r) := by rw [← q13] at hL; exact hL
        exact l_min (so_app hs e0 (by rw [hp2]; simp) e (ch_E_mem hx (by rw [hx2]; simp)))
theorem nw_R.nr {P : Nat} {h h' : am_H} {lv : Int32} {L : List ent} {ps : List (Nat × List ent)} {Rs : List rn} (N : nw_R P h Rs) (q : nr_Q P h h' lv L ps) (hx : 109 ≤ am_nx h) : nw_R P h' Rs := by
  obtain ⟨⟨q1, -, -⟩, q2, q3, q4, q5, -, q7, q8, q9, q10, -⟩ := q
  obtain ⟨c1, c2, c3, c4, c5⟩ := N
  have n : ∀ x, (x = 8 ∨ x = 9 ∨ 109 ≤ x) → x ∉ 2 :: wr_w := fun x hx => by unfold wr_w; simp; omega
  refine ⟨fun i r hr => ?_, by rw [(q2 8 (by omega) (n 8 (by decide))).2.2.1]; exact c2, c3, c4, c5⟩
  obtain ⟨x1, x2, x3⟩ := c1 i r hr
  obtain ⟨y1, y2, y3, y4, y5⟩ := q2 r.1 x2.2 (n r.1 (by omega))
  refine ⟨by rw [(q2 9 (by omega) (n 9 (by decide))).2.2.2.2]; exact x1, by omega, x3.fr y1 y3 q10 (fun p hp hm => ?_)⟩
  obtain ⟨z, z1, z2⟩ := List.mem_map.mp hm
  have := (x3.held p hp).2.2
  rw [← z2, (q8 z z1).2.1] at this
  exact absurd this (by decide)
/-- what a run is before it stands in a list -/
def rn_0 (P : Nat) (h : am_H) (r : rn) : Prop := rd_S P h r.1 r.2.2 ∧ am_I h r.1 1 = nI r.2.1 ∧ r.2.1 ≤ 3 ∧ am_I h r.1 8 = 0 ∧ (∀ q ∈ r.2.2, am_I h 20 q.1 = 1) ∧ r.2.2.length = npg (ch_E r.2.2) ∧ so (ch_E r.2.2) ∧ ∀ e ∈ ch_E r.2.2, eo e
theorem nr_Q.rn0 {P lv : Nat} {h h' : am_H} {L : List ent} {ps : List (Nat × List ent)} (q : nr_Q P h h' (nI lv) L ps) (hL : so L) (ho : ∀ e ∈ L, eo e) (hne : L ≠ []) (hl : lv ≤ 3) : rn_0 P h' (am_nx h, lv, ps) := by
  have r := q.rd hL hne
  obtain ⟨q1, q2, q3, q4, q5, ⟨k5, i1, i8, i4, i3⟩, q7, q8, q9, q10, ⟨q11, q12⟩, q13, q14⟩ := q
  exact ⟨r, i1, hl, i8, fun x hx => (q8 x hx).1, by rw [q13]; exact q14, by rw [q13]; exact hL, by rw [q13]; exact ho⟩
theorem nw_R.put {P : Nat} {h h' : am_H} {r : rn} {Rs : List rn} (N : nw_R P h Rs) (q : pf_Q h h' Rs.length r.1) (hr : rn_0 P h r) (ha : 109 ≤ r.1 ∧ r.1 < am_nx h) (hn : r.1 ∉ Rs.map (·.1)) (hl : Rs.length < 9) (hd : (rn_p r ++ pgs Rs).Nodup) : nw_R P h' (r :: Rs) := by
  obtain ⟨c1, c2, c3, c4, c5⟩ := N
  obtain ⟨f, q2, q3, q4, q5, q6, q7, q8⟩ := q
  have fr : fr_P h h' [] := fr_P.of (f.2.2.2.2.2.1 20 (by simp; omega)) (f.2.2.2.2.2.1 22 (by simp; omega)) (f.2.2.2.2.2.1 23 (by simp; omega)) (f.2.2.2.2.2.2.1 24 (by simp; omega)) (f.2.2.2.2.2.1 19 (by simp; omega))
  refine ⟨fun i x hx => ?_, by rw [q2]; simp, by simp; omega, by simp only [List.map_cons]; exact List.nodup_cons.mpr ⟨hn, c4⟩, hd⟩
  cases i with
  | zero =>
    have e : r = x := by simpa using hx
    subst e
    refine ⟨by rw [q4]; rfl, by rw [f.1]; exact ha, ?_⟩
    obtain ⟨⟨a1, a2, a3, a4, p, rest, a5, a6, a7⟩, d1, d2, d3, d4, d5, d6, d7⟩ := hr
    have I : ∀ j, j ≠ 8 → am_I h' r.1 j = am_I h r.1 j := fun j hj => by rw [q5]; unfold up_f; rw [if_neg hj]
    refine ⟨⟨by rw [f.2.2.2.1]; exact a1, by rw [I 4 (by decide)]; exact a2, a3, a4.mono (fun y _ j hj => (fr y.1 (by simp)).2.2.2.2 j hj) (fun y _ => (fr y.1 (by simp)).2.2.1) (fun y _ => (fr y.1 (by simp)).2.1), p, rest, a5, by rw [I 3 (by decide)]; exact a6, fun y hy => by rw [(fr y.1 (by simp)).2.2.2.1]; exact a7 y hy⟩, by rw [I 1 (by decide)]; exact d1, d2, ?_, fun y hy => by rw [(fr y.1 (by simp)).1]; exact d4 y hy, d5, d6, d7⟩
    rw [q5]
    unfold up_f
    rw [if_pos rfl, d3]
    decide
  | succ i =>
    have hx' : Rs[i]? = some x := by simpa using hx
    have hi := (List.getElem?_eq_some_iff.mp hx').1
    obtain ⟨x1, x2, x3⟩ := c1 i x hx'
    have hne : x.1 ≠ r.1 := fun e => hn (e ▸ List.mem_map_of_mem (List.mem_of_getElem? hx'))
    refine ⟨?_, by rw [f.1]; exact x2, x3.fr (by rw [f.2.2.2.1]) (f.2.2.2.2.2.1 x.1 (by simp; omega)) fr (by simp)⟩
    rw [q4]
    dsimp only
    rw [if_neg (by omega)]
    unfold sh_f
    rw [if_pos (by omega), Nat.add_sub_cancel]
    exact x1
theorem nw_R.wh {P : Nat} {h h' : am_H} {Rs : List rn} (N : nw_R P h Rs) (q : wh_Q P h h') : nw_R P h' Rs := by
  obtain ⟨c1, c2, c3, c4, c5⟩ := N
  obtain ⟨f, q2, q3, q4⟩ := q
  refine ⟨fun i r hr => ?_, by rw [f.2.2.2.2.2.2.1 8 (by simp)]; exact c2, c3, c4, c5⟩
  obtain ⟨x1, x2, x3⟩ := c1 i r hr
  refine ⟨by rw [f.2.2.2.2.2.1]; exact x1, by rw [f.1]; exact x2, x3.fr (by rw [f.2.2.2.1]) (f.2.2.2.2.2.2.1 r.1 (by simp; omega)) q4 (fun p hp hm => ?_)⟩
  have := (x3.held p hp).1
  simp at hm
  omega
theorem nw_R.kd {P : Nat} {h : am_H} {Rs : List rn} (N : nw_R P h Rs) : ∀ i, i < Rs.length → am_kd h (am_R h 9 i) = 5 := fun i hi => by
  obtain ⟨x1, x2, x3⟩ := N.1 i _ (List.getElem?_eq_getElem hi)
  rw [x1]
  exact x3.1.1
theorem tb_S.zero {h : am_H} {n : Nat} (T : tb_S h n) : tb_S (am_sI h 3 4 0) 0 := by
  obtain ⟨t1, t2, t3, t4, t5, t6, t7, t8, t9, t10, t11, t12, t13, t14⟩ := T
  exact ⟨t1, t2, t3, t4, t5, t6, t7, t8, t9, t10, t11, t12, by simp only [hx_nx_sI, hx_ce_sI, hx_sl_sI, hx_kd_sI, hx_ln_sI, hx_I_sI, hx_L_sI, hx_R_sI, hx_nx_sL, hx_ce_sL, hx_sl_sL, hx_kd_sL, hx_ln_sL, hx_I_sL, hx_L_sL, hx_R_sL, hx_nx_sR, hx_ce_sR, hx_sl_sR, hx_kd_sR, hx_ln_sR, hx_I_sR, hx_L_sR, hx_R_sR, hx_nx_al, hx_ce_al, hx_sl_al, hx_kd_al, hx_ln_al, hx_I_al, hx_L_al, hx_R_al, hx_nx_row, hx_ce_row, hx_sl_row, hx_kd_row, hx_ln_row, hx_I_row, hx_L_row, hx_R_row, hx_nx_mk, hx_kd_mk, hx_ln_mk, hx_I_mk, hx_L_mk, hx_R_mk, am_wp, am_stp, am_en, am_as, am_pad, am_nth, am_set, am_st1, am_st2, am_kl, am_kill, am_mem, am_fv, am_tk, am_wt, am_bk, Option.toList, List.cons_append, List.nil_append, Nat.reduceAdd, Nat.reduceEqDiff, Nat.reduceLeDiff, reduceIte, Nat.reduceLT, or_self, true_or, or_true, if_true, if_false, and_self, and_true, true_and, not_false_eq_true, not_true_eq_false]; rfl, by omega⟩
theorem bm_one (L : List ent) : bm [L] = L := by
  show mg [] L = L
  simp [mg]
theorem tl_len (h : am_H) : ∀ r i, (tl h i r).length = r
  | 0, i => rfl
  | r + 1, i => by simp [tl, tl_len h r (i + 1)]
/-- the object of pages P: n entries in the table, the runs Rs -/
def cl_S (P : Nat) (h : am_H) (n : Nat) (Rs : List rn) : Prop := sk_K P h ∧ tb_S h n ∧ nw_R P h Rs ∧ sp_F P h (pgs Rs).length ∧ 109 ≤ am_nx h
/-- the table's cells -/
def tb_E (h h' : am_H) : Prop := am_L h' 4 = am_L h 4 ∧ am_I h' 5 = am_I h 5 ∧ am_L h' 6 = am_L h 6
theorem tb_E.fx {S : List Nat} {h h' : am_H} (f : am_fx S h h') (hS : 4 ∉ S ∧ 5 ∉ S ∧ 6 ∉ S) : tb_E h h' := ⟨f.2.2.2.2.2.2.1 4 hS.1, f.2.2.2.2.2.1 5 hS.2.1, f.2.2.2.2.2.2.1 6 hS.2.2⟩
theorem tb_E.trans {h h1 h2 : am_H} (a : tb_E h h1) (b : tb_E h1 h2) : tb_E h h2 := ⟨b.1.trans a.1, b.2.1.trans a.2.1, b.2.2.trans a.2.2⟩
theorem tb_S.fx {S : List Nat} {h h' : am_H} {n : Nat} (c : tb_S h n) (b : am_fx S h h') (h3 : 3 ∉ S) : tb_S h' n := by
  obtain ⟨-, -, -, b4, b5, b6, -, b8⟩ := b
  unfold tb_S at *
  rw [b4, b5, b8 3 h3, b6 3 h3]
  exact c
theorem l2_flush6 {d P n : Nat} {Rs : List rn} {h : am_H} (c : cl_S P h n Rs) (hn : 0 < n) (h6 : 6 ≤ up 0 (lvs Rs)) : am_Rt nm_pr (d + 7) mi_SR_flushTable [.ref 2] h (fun o h' => o = .inl (some (.int (-1))) ∧ h' = h) := by
  obtain ⟨hK, T, N, F, hx⟩ := c
  obtain ⟨⟨k2, r0, r1, rr2, r3, r5, r8⟩, S0, P0, Sp0, B0, ⟨k8, r8', k9, n9⟩, i185, i215⟩ := id hK
  have hle := up_le 0 (lvs Rs)
  have hle2 : (lvs Rs).length ≤ 9 := by unfold lvs; rw [List.length_map]; exact N.2.2.1
  have t1 := T.1
  have n64 := T.2.2.2.2.2.2.2.2.2.2.2.2.2
  have i34 : am_I h 3 4 = nI n := T.2.2.2.2.2.2.2.2.2.2.2.2.1
  have z : ¬ nI n = 0 := nI_ne0 hn (by omega)
  refine am_in' (d := d + 6) mt_SR_flushTable 2 rfl rfl rfl ?_
  refine am_go [10, 23] 4 ?_
  simp only [am_wp, am_stp, am_en, am_as, am_pad, am_nth, am_set, am_st1, am_st2, am_kl, am_kill, am_mem, am_fv, am_tk, am_wt, am_bk, Option.toList, List.cons_append, List.nil_append, Nat.reduceAdd, Nat.reduceEqDiff, Nat.reduceLeDiff, reduceIte, Nat.reduceLT, or_self, true_or, or_true, if_true, if_false, and_self, and_true, true_and, not_false_eq_true, not_true_eq_false, fd_SR_flushTable_0, fd_SR_flushTable_1, fd_SR_flushTable_4, fd_SR_flushTable_7, k2, rr2, t1, i34, z]
  refine am_go [] 4 ?_
  simp only [am_wp, am_stp, am_en, am_as, am_pad, am_nth, am_set, am_st1, am_st2, am_kl, am_kill, am_mem, am_fv, am_tk, am_wt, am_bk, Option.toList, List.cons_append, List.nil_append, Nat.reduceAdd, Nat.reduceEqDiff, Nat.reduceLeDiff, reduceIte, Nat.reduceLT, or_self, true_or, or_true, if_true, if_false, and_self, and_true, true_and, not_false_eq_true, not_true_eq_false, fd_SR_flushTable_10, fd_SR_flushTable_11, fd_SR_flushTable_14, fd_SR_flushTable_15, k2, r3, k8]
  refine am_call (l2_countUpTo (d := d + 5) (L := 0) hK (by decide) N) (fun o h1 q => ?_)
  obtain ⟨rfl, rfl⟩ := q
  have l6 : ¬ nI (up 0 (lvs Rs)) < 6 := nI_nlt (b := 6) h6 (by omega)
  simp only [am_wp, am_stp, am_en, am_as, am_pad, am_nth, am_set, am_st1, am_st2, am_kl, am_kill, am_mem, am_fv, am_tk, am_wt, am_bk, Option.toList, List.cons_append, List.nil_append, Nat.reduceAdd, Nat.reduceEqDiff, Nat.reduceLeDiff, reduceIte, Nat.reduceLT, or_self, true_or, or_true, if_true, if_false, and_self, and_true, true_and, not_false_eq_true, not_true_eq_false]
  refine am_go [25] 4 ?_
  simp only [am_wp, am_stp, am_en, am_as, am_pad, am_nth, am_set, am_st1, am_st2, am_kl, am_kill, am_mem, am_fv, am_tk, am_wt, am_bk, Option.toList, List.cons_append, List.nil_append, Nat.reduceAdd, Nat.reduceEqDiff, Nat.reduceLeDiff, reduceIte, Nat.reduceLT, or_self, true_or, or_true, if_true, if_false, and_self, and_true, true_and, not_false_eq_true, not_true_eq_false, fd_SR_flushTable_18, fd_SR_flushTable_20, fd_SR_flushTable_23, fd_SR_flushTable_24, l6]
theorem l2_flushTable {d P n : Nat} {Rs : List rn} {h : am_H} (c : cl_S P h n Rs) (hn : 0 < n) (hT : so (tl h 0 n)) (ho : ∀ e ∈ tl h 0 n, eo e) (h6 : up 0 (lvs Rs) < 6) (hl : Rs.length < 9) : am_Rt nm_pr (d + 7) mi_SR_flushTable [.ref 2] h (fun o h' => lf 1 h h' ∧ tb_E h h' ∧ ((o = .inl (some (.int 1)) ∧ npg (tl h 0 n) + (pgs Rs).length ≤ P - 2 ∧ ∃ ps, cl_S P h' 0 ((am_nx h, 0, ps) :: Rs) ∧ ch_E ps = tl h 0 n) ∨ (o = .inl (some (.int (-1))) ∧ P - 2 < npg (tl h 0 n) + (pgs Rs).length))) := by
  obtain ⟨hK, T, N, F, hx⟩ := id c
  obtain ⟨⟨k2, r0, r1, rr2, r3, r5, r8⟩, S0, P0, Sp0, B0, ⟨k8, r8', k9, n9⟩, i185, i215⟩ := id hK
  have P4 := P0.2.2.2.2.2.2.2.2.1
  have P1024 := P0.2.2.2.2.2.2.2.2.2
  have hle := up_le 0 (lvs Rs)
  have t1 := T.1
  have n64 := T.2.2.2.2.2.2.2.2.2.2.2.2.2
  have i34 : am_I h 3 4 = nI n := T.2.2.2.2.2.2.2.2.2.2.2.2.1
  have z : ¬ nI n = 0 := nI_ne0 hn (by omega)
  have hzz := fz_le (am_I h 22) P
  have hou : ou false ([(29, tl h 0 n)].map (·.2)) = tl h 0 n := by
    show bm [tl h 0 n] = _
    exact bm_one _
  have htot : tot [(29, tl h 0 n)] = n := by simp [tot, tl_len]
  have hO : ∀ x ∈ [(29, tl h 0 n)], so x.2 ∧ ∀ e ∈ x.2, eo e := by
    intro x hx
    have : x = (29, tl h 0 n) := by simpa using hx
    subst this
    exact ⟨hT, ho⟩
  have l6 : nI (up 0 (lvs Rs)) < 6 := nI_lt (b := 6) h6 (by decide)
  refine am_in' (d := d + 6) mt_SR_flushTable 2 rfl rfl rfl ?_
  refine am_go [10, 23] 4 ?_
  simp only [am_wp, am_stp, am_en, am_as, am_pad, am_nth, am_set, am_st1, am_st2, am_kl, am_kill, am_mem, am_fv, am_tk, am_wt, am_bk, Option.toList, List.cons_append, List.nil_append, Nat.reduceAdd, Nat.reduceEqDiff, Nat.reduceLeDiff, reduceIte, Nat.reduceLT, or_self, true_or, or_true, if_true, if_false, and_self, and_true, true_and, not_false_eq_true, not_true_eq_false, fd_SR_flushTable_0, fd_SR_flushTable_1, fd_SR_flushTable_4, fd_SR_flushTable_7, k2, rr2, t1, i34, z]
  refine am_go [] 4 ?_
  simp only [am_wp, am_stp, am_en, am_as, am_pad, am_nth, am_set, am_st1, am_st2, am_kl, am_kill, am_mem, am_fv, am_tk, am_wt, am_bk, Option.toList, List.cons_append, List.nil_append, Nat.reduceAdd, Nat.reduceEqDiff, Nat.reduceLeDiff, reduceIte, Nat.reduceLT, or_self, true_or, or_true, if_true, if_false, and_self, and_true, true_and, not_false_eq_true, not_true_eq_false, fd_SR_flushTable_10, fd_SR_flushTable_11, fd_SR_flushTable_14, fd_SR_flushTable_15, k2, r3, k8]
  refine am_call (l2_countUpTo (d := d + 5) (L := 0) hK (by decide) N) (fun o h1 q => ?_)
  obtain ⟨rfl, rfl⟩ := q
  simp only [am_wp, am_stp, am_en, am_as, am_pad, am_nth, am_set, am_st1, am_st2, am_kl, am_kill, am_mem, am_fv, am_tk, am_wt, am_bk, Option.toList, List.cons_append, List.nil_append, Nat.reduceAdd, Nat.reduceEqDiff, Nat.reduceLeDiff, reduceIte, Nat.reduceLT, or_self, true_or, or_true, if_true, if_false, and_self, and_true, true_and, not_false_eq_true, not_true_eq_false]
  refine am_go [23, 25] 2 ?_
  simp only [am_wp, am_stp, am_en, am_as, am_pad, am_nth, am_set, am_st1, am_st2, am_kl, am_kill, am_mem, am_fv, am_tk, am_wt, am_bk, Option.toList, List.cons_append, List.nil_append, Nat.reduceAdd, Nat.reduceEqDiff, Nat.reduceLeDiff, reduceIte, Nat.reduceLT, or_self, true_or, or_true, if_true, if_false, and_self, and_true, true_and, not_false_eq_true, not_true_eq_false, fd_SR_flushTable_18, fd_SR_flushTable_20, l6]
  refine am_go [] 2 ?_
  simp only [am_wp, am_stp, am_en, am_as, am_pad, am_nth, am_set, am_st1, am_st2, am_kl, am_kill, am_mem, am_fv, am_tk, am_wt, am_bk, Option.toList, List.cons_append, List.nil_append, Nat.reduceAdd, Nat.reduceEqDiff, Nat.reduceLeDiff, reduceIte, Nat.reduceLT, or_self, true_or, or_true, if_true, if_false, and_self, and_true, true_and, not_false_eq_true, not_true_eq_false, fd_SR_flushTable_25, fd_SR_flushTable_26, k2]
  refine am_call (l2_blendTable (d := d + 3) (P := P) k2 r5 B0 T) (fun o g1 q => ?_)
  obtain ⟨rfl, F1, B1, j1⟩ := q
  have K1 : sk_K P g1 := hK.fx F1 B1.1 (by simp)
  obtain ⟨⟨k2a, r0a, r1a, rr2a, r3a, r5a, r8a⟩, S1, P1, Sp1, B1', N1, i185a, i215a⟩ := id K1
  have G1 : sp_F P g1 (pgs Rs).length := F.fx F1 (by simp)
  have I22 : am_I g1 22 = am_I h1 22 := F1.2.2.2.2.2.1 22 (by simp)
  simp only [am_wp, am_stp, am_en, am_as, am_pad, am_nth, am_set, am_st1, am_st2, am_kl, am_kill, am_mem, am_fv, am_tk, am_wt, am_bk, Option.toList, List.cons_append, List.nil_append, Nat.reduceAdd, Nat.reduceEqDiff, Nat.reduceLeDiff, reduceIte, Nat.reduceLT, or_self, true_or, or_true, if_true, if_false, and_self, and_true, true_and, not_false_eq_true, not_true_eq_false]
  refine am_go [] 5 ?_
  simp only [am_wp, am_stp, am_en, am_as, am_pad, am_nth, am_set, am_st1, am_st2, am_kl, am_kill, am_mem, am_fv, am_tk, am_wt, am_bk, Option.toList, List.cons_append, List.nil_append, Nat.reduceAdd, Nat.reduceEqDiff, Nat.reduceLeDiff, reduceIte, Nat.reduceLT, or_self, true_or, or_true, if_true, if_false, and_self, and_true, true_and, not_false_eq_true, not_true_eq_false, fd_SR_flushTable_29, fd_SR_flushTable_30, fd_SR_flushTable_31, fd_SR_flushTable_34, fd_SR_flushTable_37, k2a, r1a, Sp1.1, G1.1]
  refine am_call (l2_countPages (d := d + 1) (old := false) (show fz (am_I g1 22) P < 1000000 by rw [I22]; omega) K1 B1 j1 hO (by rw [htot]; omega)) (fun o g2 q => ?_)
  obtain ⟨cc, rfl, hcc, F2, q⟩ := q
  rw [hou] at q
  have F2' : am_fx (14 :: 15 :: bl_w) g1 g2 := F2.fx
  have K2 : sk_K P g2 := K1.fi F2 (by decide)
  obtain ⟨⟨k2b, r0b, r1b, rr2b, r3b, r5b, r8b⟩, S2, P2, Sp2, B2', N2, i185b, i215b⟩ := id K2
  have G2 : sp_F P g2 (pgs Rs).length := G1.fi F2 (by decide)
  have I22b : am_I g2 22 = am_I h1 22 := (F2.2.2.2.2.2.2.1 22 (by decide)).trans I22
  simp only [am_wp, am_stp, am_en, am_as, am_pad, am_nth, am_set, am_st1, am_st2, am_kl, am_kill, am_mem, am_fv, am_tk, am_wt, am_bk, Option.toList, List.cons_append, List.nil_append, Nat.reduceAdd, Nat.reduceEqDiff, Nat.reduceLeDiff, reduceIte, Nat.reduceLT, or_self, true_or, or_true, if_true, if_false, and_self, and_true, true_and, not_false_eq_true, not_true_eq_false]
  refine am_go [50, 52] 4 ?_
  simp only [am_wp, am_stp, am_en, am_as, am_pad, am_nth, am_set, am_st1, am_st2, am_kl, am_kill, am_mem, am_fv, am_tk, am_wt, am_bk, Option.toList, List.cons_append, List.nil_append, Nat.reduceAdd, Nat.reduceEqDiff, Nat.reduceLeDiff, reduceIte, Nat.reduceLT, or_self, true_or, or_true, if_true, if_false, and_self, and_true, true_and, not_false_eq_true, not_true_eq_false, fd_SR_flushTable_40, fd_SR_flushTable_41, fd_SR_flushTable_44, fd_SR_flushTable_47, k2b, r1b, Sp2.1, G2.1]
  have Fa : lf 0 h1 g2 := (lf.fx F1 (by simp)).trans (lf.fi F2 (by unfold bl_w; simp))
  have Ta : tb_E h1 g2 := (tb_E.fx F1 (by simp)).trans (tb_E.fx F2' (by decide))
  have hF2 := F.2
  rcases q with ⟨q1, q2⟩ | ⟨q1, q2⟩
  · have l1 : ¬ nI (fz (am_I g2 22) P) < nI cc := nI_nlt (by rw [I22b, ← I22]; exact q1) (by rw [I22b]; omega)
    simp only [l1, am_wp, am_stp, am_en, am_as, am_pad, am_nth, am_set, am_st1, am_st2, am_kl, am_kill, am_mem, am_fv, am_tk, am_wt, am_bk, Option.toList, List.cons_append, List.nil_append, Nat.reduceAdd, Nat.reduceEqDiff, Nat.reduceLeDiff, reduceIte, Nat.reduceLT, or_self, true_or, or_true, if_true, if_false, and_self, and_true, true_and, not_false_eq_true, not_true_eq_false]
    refine am_go [] 2 ?_
    simp only [am_wp, am_stp, am_en, am_as, am_pad, am_nth, am_set, am_st1, am_st2, am_kl, am_kill, am_mem, am_fv, am_tk, am_wt, am_bk, Option.toList, List.cons_append, List.nil_append, Nat.reduceAdd, Nat.reduceEqDiff, Nat.reduceLeDiff, reduceIte, Nat.reduceLT, or_self, true_or, or_true, if_true, if_false, and_self, and_true, true_and, not_false_eq_true, not_true_eq_false, fd_SR_flushTable_52, fd_SR_flushTable_53, k2b]
    have T2 : tb_S g2 n := (T.fx F1 (by simp)).fx F2' (by decide)
    refine am_call (l2_blendTable (d := d + 3) (P := P) k2b r5b B2' T2) (fun o g3 q => ?_)
    obtain ⟨rfl, F3, B3, j3⟩ := q
    have etl : tl g2 0 n = tl h1 0 n := tl_eq Ta.1 Ta.2.1 Ta.2.2 n 0
    rw [etl] at B3
    have K3 : sk_K P g3 := K2.fx F3 B3.1 (by simp)
    obtain ⟨⟨k2c, r0c, r1c, rr2c, r3c, r5c, r8c⟩, S3, P3, Sp3, B3', N3, i185c, i215c⟩ := id K3
    have G3 : sp_F P g3 (pgs Rs).length := G2.fx F3 (by simp)
    have I22c : am_I g3 22 = am_I h1 22 := (F3.2.2.2.2.2.1 22 (by simp)).trans I22b
    have nx3 : am_nx g3 = am_nx h1 := F3.1.trans (F2.1.trans F1.1)
    have T3 : tb_S g3 n := T2.fx F3 (by simp)
    have NW3 : nw_R P g3 Rs := ((N.fx F1 (by simp)).fi F2 (by decide)).fx F3 (by simp)
    simp only [am_wp, am_stp, am_en, am_as, am_pad, am_nth, am_set, am_st1, am_st2, am_kl, am_kill, am_mem, am_fv, am_tk, am_wt, am_bk, Option.toList, List.cons_append, List.nil_append, Nat.reduceAdd, Nat.reduceEqDiff, Nat.reduceLeDiff, reduceIte, Nat.reduceLT, or_self, true_or, or_true, if_true, if_false, and_self, and_true, true_and, not_false_eq_true, not_true_eq_false]
    refine am_go [] 3 ?_
    simp only [am_wp, am_stp, am_en, am_as, am_pad, am_nth, am_set, am_st1, am_st2, am_kl, am_kill, am_mem, am_fv, am_tk, am_wt, am_bk, Option.toList, List.cons_append, List.nil_append, Nat.reduceAdd, Nat.reduceEqDiff, Nat.reduceLeDiff, reduceIte, Nat.reduceLT, or_self, true_or, or_true, if_true, if_false, and_self, and_true, true_and, not_false_eq_true, not_true_eq_false, fd_SR_flushTable_56, fd_SR_flushTable_57, fd_SR_flushTable_58, k2c]
    have htl : tl h1 0 n ≠ [] := fun z => by
      have := tl_len h1 n 0
      rw [z] at this
      simp at this
      omega
    have hW := l2_writeRun (d := d) (lv := nI 0) (old := false) (by rw [nx3]; exact hx) K3 B3 j3 hO (by rw [htot]; omega) (by rw [hou]; exact htl) (by rw [hou, I22c, ← q2, ← I22]; exact q1) G3.1
    rw [hou] at hW
    refine am_call hW (fun o g4 q => ?_)
    obtain ⟨rfl, ps, Q4⟩ := q
    have NW4 : nw_R P g4 Rs := NW3.nr Q4 (by rw [nx3]; exact hx)
    have R4 := Q4.rn0 (lv := 0) hT ho htl (by decide)
    have L4 : lf 1 g3 g4 := lf.nr Q4 (by rw [nx3]; exact hx)
    obtain ⟨⟨x1, x2, x3⟩, x4, x5, x6, K4, ⟨y1, y2, y3, y4, y5⟩, z1, z2, z3, z4, ⟨z5, z6⟩, z7, z8⟩ := id Q4
    obtain ⟨⟨k2d, r0d, r1d, rr2d, r3d, r5d, r8d⟩, S4, P4', Sp4, B4, ⟨k8d, r8d', k9d, n9d⟩, i185d, i215d⟩ := id K4
    have nlo : ∀ x, x < 14 → x ≠ 2 → x ∉ 2 :: wr_w := fun x h1 h2 => by unfold wr_w; simp; omega
    have lo4 : ∀ x, x < 14 → x ≠ 2 → _ := fun x h1 h2 => x4 x (by omega) (nlo x h1 h2)
    have T4 : tb_S g4 n := by
      unfold tb_S at *
      rw [(lo4 3 (by decide) (by decide)).1, (lo4 3 (by decide) (by decide)).2.2.2.2, (lo4 3 (by decide) (by decide)).2.2.1, (lo4 4 (by decide) (by decide)).1, (lo4 4 (by decide) (by decide)).2.1, (lo4 5 (by decide) (by decide)).1, (lo4 5 (by decide) (by decide)).2.1, (lo4 6 (by decide) (by decide)).1, (lo4 6 (by decide) (by decide)).2.1, (lo4 7 (by decide) (by decide)).1]
      exact T3
    have E4 : tb_E g3 g4 := ⟨(lo4 4 (by decide) (by decide)).2.2.2.1, (lo4 5 (by decide) (by decide)).2.2.1, (lo4 6 (by decide) (by decide)).2.2.2.1⟩
    simp only [am_wp, am_stp, am_en, am_as, am_pad, am_nth, am_set, am_st1, am_st2, am_kl, am_kill, am_mem, am_fv, am_tk, am_wt, am_bk, Option.toList, List.cons_append, List.nil_append, Nat.reduceAdd, Nat.reduceEqDiff, Nat.reduceLeDiff, reduceIte, Nat.reduceLT, or_self, true_or, or_true, if_true, if_false, and_self, and_true, true_and, not_false_eq_true, not_true_eq_false]
    refine am_go [69, 71] 4 ?_
    simp only [am_wp, am_stp, am_en, am_as, am_pad, am_nth, am_set, am_st1, am_st2, am_kl, am_kill, am_mem, am_fv, am_tk, am_wt, am_bk, Option.toList, List.cons_append, List.nil_append, Nat.reduceAdd, Nat.reduceEqDiff, Nat.reduceLeDiff, reduceIte, Nat.reduceLT, or_self, true_or, or_true, if_true, if_false, and_self, and_true, true_and, not_false_eq_true, not_true_eq_false, fd_SR_flushTable_61, fd_SR_flushTable_62, fd_SR_flushTable_63, fd_SR_flushTable_66, k2d, i215d]
    refine am_go [] 4 ?_
    simp only [am_wp, am_stp, am_en, am_as, am_pad, am_nth, am_set, am_st1, am_st2, am_kl, am_kill, am_mem, am_fv, am_tk, am_wt, am_bk, Option.toList, List.cons_append, List.nil_append, Nat.reduceAdd, Nat.reduceEqDiff, Nat.reduceLeDiff, reduceIte, Nat.reduceLT, or_self, true_or, or_true, if_true, if_false, and_self, and_true, true_and, not_false_eq_true, not_true_eq_false, fd_SR_flushTable_71, fd_SR_flushTable_72, fd_SR_flushTable_75, fd_SR_flushTable_76, k2d, r3d, k8d]
    refine am_call (l2_putFirst (d := d + 5) k8d r8d' k9d n9d NW4.2.1 hl NW4.kd y1 (by omega)) (fun o g5 q => ?_)
    obtain ⟨rfl, Q5⟩ := q
    have na : am_nx g3 ∉ Rs.map (·.1) := fun hm => by
      obtain ⟨r, e1, e2⟩ := List.mem_map.mp hm
      obtain ⟨i, hi⟩ := List.getElem?_of_mem e1
      have := (NW3.1 i r hi).2.1.2
      omega
    have hdis : (rn_p (am_nx g3, 0, ps) ++ pgs Rs).Nodup := by
      refine List.nodup_append.mpr ⟨z3, N.2.2.2.2, fun x hx1 y hy e => ?_⟩
      obtain ⟨r, e1, e2⟩ := List.mem_flatMap.mp hy
      obtain ⟨i, hi⟩ := List.getElem?_of_mem e1
      obtain ⟨w, w1, w2⟩ := List.mem_map.mp hx1
      have h1' := ((NW3.1 i r hi).2.2.held y e2).2.2
      have h2' := (z2 w w1).2.1
      rw [w2, e] at h2'
      rw [h2'] at h1'
      exact absurd h1' (by decide)
    have NW5 : nw_R P g5 ((am_nx g3, 0, ps) :: Rs) := NW4.put Q5 R4 ⟨by show 109 ≤ am_nx g3; rw [nx3]; exact hx, by show am_nx g3 < am_nx g4; omega⟩ na hl hdis
    have f5 := Q5.1
    have bk5 : bl_K g5 := B4.fx f5 (by simp; omega)
    have K5 : sk_K P g5 := by
      obtain ⟨c1, c2, c3, c4, c5, c6, c7, c8⟩ := K4
      obtain ⟨e1, e2, e3, e4, e5, e6, e7, e8⟩ := f5
      refine ⟨by rw [e4, e8 2 (by simp; omega)]; exact c1, ?_, ?_, ?_, bk5, by rw [e4, e5, Q5.2.2.1]; exact c6, by rw [e6 18 (by simp; omega)]; exact c7, by rw [e6 2 (by simp; omega)]; exact c8⟩
      · unfold cl_Sh at *
        rw [e4, e5, e8 14 (by simp; omega)]
        exact c2
      · unfold cl_Pg at *
        rw [e4, e5, e8 18 (by simp; omega), e6 18 (by simp; omega)]
        exact c3
      · unfold cl_Sp at *
        rw [e4, e5, e8 21 (by simp; omega), e6 21 (by simp; omega)]
        exact c4
    have T5 : tb_S g5 n := T4.fx f5 (by simp; omega)
    have k2e : am_kd g5 2 = 1 := K5.1.1
    simp only [am_wp, am_stp, am_en, am_as, am_pad, am_nth, am_set, am_st1, am_st2, am_kl, am_kill, am_mem, am_fv, am_tk, am_wt, am_bk, Option.toList, List.cons_append, List.nil_append, Nat.reduceAdd, Nat.reduceEqDiff, Nat.reduceLeDiff, reduceIte, Nat.reduceLT, or_self, true_or, or_true, if_true, if_false, and_self, and_true, true_and, not_false_eq_true, not_true_eq_false]
    refine am_go [] 2 ?_
    simp only [am_wp, am_stp, am_en, am_as, am_pad, am_nth, am_set, am_st1, am_st2, am_kl, am_kill, am_mem, am_fv, am_tk, am_wt, am_bk, Option.toList, List.cons_append, List.nil_append, Nat.reduceAdd, Nat.reduceEqDiff, Nat.reduceLeDiff, reduceIte, Nat.reduceLT, or_self, true_or, or_true, if_true, if_false, and_self, and_true, true_and, not_false_eq_true, not_true_eq_false, fd_SR_flushTable_79, fd_SR_flushTable_80, k2e]
    refine am_call (l2_writeHead (d := d + 2) K5 NW5.2.1 NW5.2.2.1 NW5.kd) (fun o g6 q => ?_)
    obtain ⟨rfl, Q6⟩ := q
    have NW6 := NW5.wh Q6
    obtain ⟨F6, m2, K6, m4⟩ := id Q6
    have T6 : tb_S g6 n := T5.fi F6 (by simp)
    simp only [am_wp, am_stp, am_en, am_as, am_pad, am_nth, am_set, am_st1, am_st2, am_kl, am_kill, am_mem, am_fv, am_tk, am_wt, am_bk, Option.toList, List.cons_append, List.nil_append, Nat.reduceAdd, Nat.reduceEqDiff, Nat.reduceLeDiff, reduceIte, Nat.reduceLT, or_self, true_or, or_true, if_true, if_false, and_self, and_true, true_and, not_false_eq_true, not_true_eq_false]
    refine am_go [90, 92] 3 ?_
    simp only [am_wp, am_stp, am_en, am_as, am_pad, am_nth, am_set, am_st1, am_st2, am_kl, am_kill, am_mem, am_fv, am_tk, am_wt, am_bk, Option.toList, List.cons_append, List.nil_append, Nat.reduceAdd, Nat.reduceEqDiff, Nat.reduceLeDiff, reduceIte, Nat.reduceLT, or_self, true_or, or_true, if_true, if_false, and_self, and_true, true_and, not_false_eq_true, not_true_eq_false, fd_SR_flushTable_83, fd_SR_flushTable_84, fd_SR_flushTable_87, K6.1.1, K6.2.2.2.2.2.2.2]
    refine am_go [] 6 ?_
    simp only [am_wp, am_stp, am_en, am_as, am_pad, am_nth, am_set, am_st1, am_st2, am_kl, am_kill, am_mem, am_fv, am_tk, am_wt, am_bk, Option.toList, List.cons_append, List.nil_append, Nat.reduceAdd, Nat.reduceEqDiff, Nat.reduceLeDiff, reduceIte, Nat.reduceLT, or_self, true_or, or_true, if_true, if_false, and_self, and_true, true_and, not_false_eq_true, not_true_eq_false, fd_SR_flushTable_92, fd_SR_flushTable_93, fd_SR_flushTable_96, fd_SR_flushTable_97, fd_SR_flushTable_100, fd_SR_flushTable_101, K6.1.1, K6.1.2.2.2.1, T6.1]
    have F7 : am_fi [3] g6 (am_sI g6 3 4 0) := am_fi.refl.sI (by simp)
    have G5 : sp_F P g5 (ps.length + (pgs Rs).length) := by
      have i22 : am_I g5 22 = am_I g4 22 := f5.2.2.2.2.2.1 22 (by simp; omega)
      have i21 : am_I g5 21 = am_I g4 21 := f5.2.2.2.2.2.1 21 (by simp; omega)
      refine ⟨by rw [i22, i21]; exact z6, ?_⟩
      rw [i22]
      have := G3.2
      omega
    have G7 : sp_F P (am_sI g6 3 4 0) (pgs ((am_nx g3, 0, ps) :: Rs)).length := by
      have e : (pgs ((am_nx g3, 0, ps) :: Rs)).length = ps.length + (pgs Rs).length := by simp [pgs, rn_p]
      rw [e]
      exact (G5.fi F6 (by simp)).fi F7 (by simp)
    have La : lf 1 h1 (am_sI g6 3 4 0) := by
      have a1 := ((Fa.trans (lf.fx F3 (by simp))).trans L4).trans (lf.fx f5 (by simp; omega))
      have a2 := (a1.trans (lf.fi F6 (by simp))).trans (lf.fi F7 (by simp))
      simpa using a2
    have Ea : tb_E h1 (am_sI g6 3 4 0) := (((Ta.trans (tb_E.fx F3 (by simp))).trans E4).trans (tb_E.fx f5 (by simp; omega))).trans ((tb_E.fx F6.fx (by simp)).trans (tb_E.fx F7.fx (by simp)))
    have q1' : cc ≤ fz (am_I h1 22) P := by rw [← I22]; exact q1
    refine ⟨La, Ea, Or.inl ⟨by omega, ps, ⟨K6.fi F7 (by simp), T6.zero, ?_, ?_, ?_⟩, z7⟩⟩
    · rw [← nx3]; exact NW6.fi F7 (by simp)
    · rw [← nx3]; exact G7
    · have := La.2.1
      omega
  · have l1 : nI (fz (am_I g2 22) P) < nI cc := nI_lt (by rw [I22b, ← I22]; exact q1) (by omega)
    simp only [l1, am_wp, am_stp, am_en, am_as, am_pad, am_nth, am_set, am_st1, am_st2, am_kl, am_kill, am_mem, am_fv, am_tk, am_wt, am_bk, Option.toList, List.cons_append, List.nil_append, Nat.reduceAdd, Nat.reduceEqDiff, Nat.reduceLeDiff, reduceIte, Nat.reduceLT, or_self, true_or, or_true, if_true, if_false, and_self, and_true, true_and, not_false_eq_true, not_true_eq_false]
    refine am_go [] 2 ?_
    simp only [am_wp, am_stp, am_en, am_as, am_pad, am_nth, am_set, am_st1, am_st2, am_kl, am_kill, am_mem, am_fv, am_tk, am_wt, am_bk, Option.toList, List.cons_append, List.nil_append, Nat.reduceAdd, Nat.reduceEqDiff, Nat.reduceLeDiff, reduceIte, Nat.reduceLT, or_self, true_or, or_true, if_true, if_false, and_self, and_true, true_and, not_false_eq_true, not_true_eq_false, fd_SR_flushTable_50, fd_SR_flushTable_51]
    refine ⟨Fa.mono (by omega), Ta, Or.inr ?_⟩
    rw [I22] at q2
    omega
