/-! STREAMS while pages are written that no run has -/
theorem rs_S.wp {P t : Nat} {S : List Nat} {L : List ent} {h h' : am_H} (a : rs_S P h t L) (b : am_fi S h h') (hS : t ∉ S) (hp : ∀ q, am_I h 22 q = 1 → (∀ j, j < 128 → am_I h' 19 (q * 128 + j) = am_I h 19 (q * 128 + j)) ∧ am_I h' 22 q = am_I h 22 q ∧ am_I h' 23 q = am_I h 23 q) : rs_S P h' t L := by
  have e1 := b.2.2.2.2.2.2.1 t hS
  have e2 := b.2.2.2.2.2.2.2 t hS
  cases L with
  | nil =>
    obtain ⟨a1, a2⟩ := a
    exact ⟨a1.fi b, by rw [e1]; exact a2⟩
  | cons e L =>
    obtain ⟨a1, a2, a3, a4, C, ps, ⟨p1, p2, p3, p4, p5, p6, p7, p8, p9⟩, a6⟩ := a
    have pg : ∀ {ps : List (Nat × List ent)}, ch_C P h ps → ∀ q ∈ ps, am_I h 22 q.1 = 1 := by
      intro ps
      induction ps with
      | nil => intro _ q hq; simp at hq
      | cons x r ih =>
        intro c q hq
        rcases List.mem_cons.mp hq with e | e
        · subst e; exact c.1.2.1.2
        · exact ih c.2.2 q e
    refine ⟨by rw [e1]; exact a1, by rw [e2]; exact a2, by rw [e1]; exact a3, by rw [e2]; exact a4, C, ps, ⟨p1.fi b, by rw [e1]; exact p2, p3, p4, fun hC => ?_, by rw [e1]; exact p6, p7, ?_, p9.mono (fun q hq j hj => (hp q.1 (pg p9 q hq)).1 j hj) (fun q hq => (hp q.1 (pg p9 q hq)).2.2) (fun q hq => (hp q.1 (pg p9 q hq)).2.1)⟩, a6⟩
    · obtain ⟨x, y, u, ⟨c1, c2⟩, c3, c4, c5, c6⟩ := p5 hC
      refine ⟨x, y, u, ⟨c1, by rw [(hp x c2).2.1]; exact c2⟩, c3, by rw [e1]; exact c4, by rw [e1]; exact c5, ?_⟩
      rw [e2]
      exact el_ext (fun j j1 j2 => (hp x c2).1 j (by omega)) c6
    · cases ps with
      | nil => trivial
      | cons q r => rw [e1]; exact p8
theorem st_P.wp {P t : Nat} {S : List Nat} {L : List ent} {h h' : am_H} (a : st_P P h t L) (b : am_fi S h h') (hS : ∀ q ∈ S, (q < 29 ∨ 38 < q) ∧ q ≠ 3 ∧ q ≠ 4 ∧ q ≠ 5 ∧ q ≠ 6) (hp : ∀ q, am_I h 22 q = 1 → (∀ j, j < 128 → am_I h' 19 (q * 128 + j) = am_I h 19 (q * 128 + j)) ∧ am_I h' 22 q = am_I h 22 q ∧ am_I h' 23 q = am_I h 23 q) : st_P P h' t L := by
  have ht : t ∉ S := fun q => by have := hS t q; have := a.1; omega
  refine ⟨a.1, ?_⟩
  rcases a.2 with q | q
  · exact Or.inl (q.wp b ht hp)
  · exact Or.inr (q.fi b.fx ⟨ht, fun q => (hS 3 q).2.1 rfl, fun q => (hS 4 q).2.2.1 rfl, fun q => (hS 5 q).2.2.2.1 rfl, fun q => (hS 6 q).2.2.2.2 rfl⟩)
theorem st_P.lo {P t : Nat} {S : List Nat} {L : List ent} {h h' : am_H} (a : st_P P h t L) (b : am_fi S h h') (hS : ∀ q ∈ S, ((q < 29 ∨ 38 < q) ∧ q ≠ 3 ∧ q ≠ 4 ∧ q ≠ 5 ∧ q ≠ 6) ∧ q ≠ 19 ∧ q ≠ 22 ∧ q ≠ 23) : st_P P h' t L :=
  a.wp b (fun q hq => (hS q hq).1) (fun q _ => ⟨fun j _ => congrFun (b.2.2.2.2.2.2.1 19 (fun z => (hS 19 z).2.1 rfl)) _, congrFun (b.2.2.2.2.2.2.1 22 (fun z => (hS 22 z).2.2.1 rfl)) _, congrFun (b.2.2.2.2.2.2.1 23 (fun z => (hS 23 z).2.2.2 rfl)) _⟩)
/-- .. all inputs -/
theorem bl_S.wp {P : Nat} {S : List Nat} {ins : List (Nat × List ent)} {h h' : am_H} (a : bl_S P h ins) (b : am_fi S h h') (h5 : am_I h' 25 5 = am_I h 25 5) (hS : ∀ q ∈ S, (q < 29 ∨ 38 < q) ∧ q ≠ 3 ∧ q ≠ 4 ∧ q ≠ 5 ∧ q ≠ 6) (hp : ∀ q, am_I h 22 q = 1 → (∀ j, j < 128 → am_I h' 19 (q * 128 + j) = am_I h 19 (q * 128 + j)) ∧ am_I h' 22 q = am_I h 22 q ∧ am_I h' 23 q = am_I h 23 q) : bl_S P h' ins := by
  obtain ⟨b1, b2, b3, b4, b5⟩ := a
  refine ⟨b1.fi b, by rw [h5]; exact b2, b3, b4, fun s x hx => ?_⟩
  obtain ⟨y1, y2⟩ := b5 s x hx
  exact ⟨by rw [b.2.2.2.2.2.1]; exact y1, y2.wp b hS hp⟩
theorem bl_S.lo {P : Nat} {S : List Nat} {ins : List (Nat × List ent)} {h h' : am_H} (a : bl_S P h ins) (b : am_fi S h h') (hS : ∀ q ∈ S, ((q < 29 ∨ 38 < q) ∧ q ≠ 3 ∧ q ≠ 4 ∧ q ≠ 5 ∧ q ≠ 6) ∧ q ≠ 19 ∧ q ≠ 22 ∧ q ≠ 23 ∧ q ≠ 25) : bl_S P h' ins := by
  obtain ⟨b1, b2, b3, b4, b5⟩ := a
  refine ⟨b1.fi b, by rw [b.2.2.2.2.2.2.1 25 (fun z => (hS 25 z).2.2.2.2 rfl)]; exact b2, b3, b4, fun s x hx => ?_⟩
  obtain ⟨y1, y2⟩ := b5 s x hx
  exact ⟨by rw [b.2.2.2.2.2.1]; exact y1, y2.lo b (fun q hq => ⟨(hS q hq).1, (hS q hq).2.1, (hS q hq).2.2.1, (hS q hq).2.2.2.1⟩)⟩
/-! THE OBJECT'S PARTS, WHATEVER THEY HOLD -/
def sk_K (P : Nat) (h : am_H) : Prop := (am_kd h 2 = 1 ∧ am_R h 2 0 = 18 ∧ am_R h 2 1 = 21 ∧ am_R h 2 2 = 3 ∧ am_R h 2 3 = 8 ∧ am_R h 2 5 = 25 ∧ am_R h 2 8 = 14) ∧ cl_Sh h ∧ cl_Pg P h ∧ cl_Sp P h ∧ bl_K h ∧ (am_kd h 8 = 6 ∧ am_R h 8 0 = 9 ∧ am_kd h 9 = 200 ∧ am_ln h 9 = 9) ∧ am_I h 18 5 = 0 ∧ am_I h 2 15 = 0
theorem sk_K.mv {P : Nat} {S : List Nat} {h h' : am_H} (c : sk_K P h) (f : am_fi S h h') (e1 : am_I h' 18 0 = am_I h 18 0) (e2 : am_I h' 18 5 = am_I h 18 5) (e3 : am_I h' 21 0 = am_I h 21 0) (e4 : am_I h' 2 15 = am_I h 2 15) : sk_K P h' := by
  obtain ⟨c1, c2, c3, c4, c5, c6, c7, c8⟩ := c
  have c2' := c2.fi f
  have c5' := c5.fi f
  obtain ⟨f1, f2, f3, f4, f5, f6, f7, f8⟩ := f
  refine ⟨by rw [f4, f6]; exact c1, c2', ?_, ?_, c5', by rw [f4, f5, f6]; exact c6, by rw [e2]; exact c7, by rw [e4]; exact c8⟩
  · unfold cl_Pg at *
    rw [f4, f5, f6, e1]
    exact c3
  · unfold cl_Sp at *
    rw [f4, f5, f6, e3]
    exact c4
theorem sk_K.fi {P : Nat} {S : List Nat} {h h' : am_H} (c : sk_K P h) (f : am_fi S h h') (hS : 2 ∉ S ∧ 18 ∉ S ∧ 21 ∉ S) : sk_K P h' :=
  c.mv f (congrFun (f.2.2.2.2.2.2.1 18 hS.2.1) 0) (congrFun (f.2.2.2.2.2.2.1 18 hS.2.1) 5) (congrFun (f.2.2.2.2.2.2.1 21 hS.2.2) 0) (congrFun (f.2.2.2.2.2.2.1 2 hS.1) 15)
theorem sk_K.fx {P : Nat} {S : List Nat} {h h' : am_H} (c : sk_K P h) (f : am_fx S h h') (hB : bl_K h') (hS : ∀ q ∈ S, 24 < q) : sk_K P h' := by
  obtain ⟨c1, c2, c3, c4, c5, c6, c7, c8⟩ := c
  obtain ⟨f1, f2, f3, f4, f5, f6, f7, f8⟩ := f
  have g : ∀ x, x ≤ 24 → x ∉ S := fun x hx hm => by have := hS x hm; omega
  refine ⟨by rw [f4, f8 2 (g 2 (by decide))]; exact c1, ?_, ?_, ?_, hB, by rw [f4, f5, f8 8 (g 8 (by decide))]; exact c6, by rw [f6 18 (g 18 (by decide))]; exact c7, by rw [f6 2 (g 2 (by decide))]; exact c8⟩
  · unfold cl_Sh at *
    rw [f4, f5, f8 14 (g 14 (by decide))]
    exact c2
  · unfold cl_Pg at *
    rw [f4, f5, f8 18 (g 18 (by decide)), f6 18 (g 18 (by decide))]
    exact c3
  · unfold cl_Sp at *
    rw [f4, f5, f8 21 (g 21 (by decide)), f6 21 (g 21 (by decide))]
    exact c4
/-- behind a page that was written -/
def wp_Q (P : Nat) (h h' : am_H) (a p : Nat) (nx : Int32) (k : Nat) (C : List ent) : Prop := am_fi [15, 18, 19, 20, 21, 22, 23, 24, a] h h' ∧ sk_K P h' ∧ pg_C P h' p C ∧ am_I h' 20 = up_f (am_I h 20) p 1 ∧ am_I h' 22 = up_f (am_I h 22) p 1 ∧ am_I h' 23 = up_f (am_I h 23) p nx ∧ am_L h' 24 = up_f (am_L h 24) p (am_L h 14 3) ∧ (∀ j, ¬ (p * 128 ≤ j ∧ j < p * 128 + 128) → am_I h' 19 j = am_I h 19 j) ∧ am_I h' 21 4 = am_I h 21 4 - 1 ∧ am_I h' a = up_f (am_I h a) 4 (nI (k + 1)) ∧ am_I h' 18 3 = am_I h 18 3
theorem l2_writePage {d P p a k u : Nat} {nx : Int32} {C : List ent} {pk : Option Int64} {h : am_H} (hK : sk_K P h) (h2 : 2 ≤ p) (hp : p < P) (h22 : am_I h 22 p = 0) (ka : am_kd h a = 5) (ha : 72 ≤ a) (ia : am_I h a 4 = nI k) (hU : sh_U h u C.length pk) (hC : C ≠ []) (hE : el (am_I h 15) 5 none C u) (ho : ∀ e ∈ C, eo e) : am_Rt nm_pr (d + 4) mi_SR_writePage [.ref 2, .ref a, .int (nI p), .int nx] h (fun o h' => o = .inl none ∧ wp_Q P h h' a p nx k C) := by
  obtain ⟨⟨k2, r0, r1, r2, r3, r5, r8⟩, S0, P0, Sp0, B0, N0, i185, i215⟩ := id hK
  have hu := hU.2.2.2.2.1
  have hle := el_le hE
  have k14 := S0.1
  refine am_in' (d := d + 3) mt_SR_writePage 4 rfl rfl rfl ?_
  refine am_go [] 4 ?_
  simp only [am_wp, am_stp, am_en, am_as, am_pad, am_nth, am_set, am_st1, am_st2, am_kl, am_kill, am_mem, am_fv, am_tk, am_wt, am_bk, Option.toList, List.cons_append, List.nil_append, Nat.reduceAdd, Nat.reduceEqDiff, Nat.reduceLeDiff, reduceIte, Nat.reduceLT, or_self, true_or, or_true, if_true, if_false, and_self, and_true, true_and, not_false_eq_true, not_true_eq_false, fd_SR_writePage_0, fd_SR_writePage_1, fd_SR_writePage_4, fd_SR_writePage_5, k2, r8, k14]
  refine am_call (l2_finishPage (d := d + 2) S0) (fun o h1 q => ?_)
  obtain ⟨rfl, F1, L1, b4, b5⟩ := q
  have K1 := hK.fi F1 (by simp)
  obtain ⟨⟨k2', r0', r1', r2', r3', r5', r8'⟩, S1, P1, Sp1, B1, N1, i185', i215'⟩ := id K1
  have z22 : am_I h1 22 p = 0 := by rw [F1.2.2.2.2.2.2.1 22 (by simp)]; exact h22
  have fk : am_L h1 14 3 = am_L h 14 3 := by rw [L1]
  simp only [am_wp, am_stp, am_en, am_as, am_pad, am_nth, am_set, am_st1, am_st2, am_kl, am_kill, am_mem, am_fv, am_tk, am_wt, am_bk, Option.toList, List.cons_append, List.nil_append, Nat.reduceAdd, Nat.reduceEqDiff, Nat.reduceLeDiff, reduceIte, Nat.reduceLT, or_self, true_or, or_true, if_true, if_false, and_self, and_true, true_and, not_false_eq_true, not_true_eq_false]
  refine am_go [] 8 ?_
  simp only [am_wp, am_stp, am_en, am_as, am_pad, am_nth, am_set, am_st1, am_st2, am_kl, am_kill, am_mem, am_fv, am_tk, am_wt, am_bk, Option.toList, List.cons_append, List.nil_append, Nat.reduceAdd, Nat.reduceEqDiff, Nat.reduceLeDiff, reduceIte, Nat.reduceLT, or_self, true_or, or_true, if_true, if_false, and_self, and_true, true_and, not_false_eq_true, not_true_eq_false, fd_SR_writePage_8, fd_SR_writePage_9, fd_SR_writePage_12, fd_SR_writePage_13, fd_SR_writePage_14, fd_SR_writePage_15, fd_SR_writePage_18, fd_SR_writePage_21, k2', r1', r8', S1.1, Sp1.1, fk]
  refine am_call (l2_claim (d := d + 1) Sp1 h2 hp z22) (fun o h2' q => ?_)
  obtain ⟨rfl, e2⟩ := q
  have F2 : am_fi [21, 22, 23, 24] h1 h2' := by rw [e2]; exact (((am_fi.refl.sI (by simp)).sI (by simp)).sI (by simp)).sL (by simp)
  have v21 : am_I h2' 21 0 = am_I h1 21 0 := by rw [e2]; simp only [hx_nx_sI, hx_ce_sI, hx_sl_sI, hx_kd_sI, hx_ln_sI, hx_I_sI, hx_L_sI, hx_R_sI, hx_nx_sL, hx_ce_sL, hx_sl_sL, hx_kd_sL, hx_ln_sL, hx_I_sL, hx_L_sL, hx_R_sL, hx_nx_sR, hx_ce_sR, hx_sl_sR, hx_kd_sR, hx_ln_sR, hx_I_sR, hx_L_sR, hx_R_sR, hx_nx_al, hx_ce_al, hx_sl_al, hx_kd_al, hx_ln_al, hx_I_al, hx_L_al, hx_R_al, hx_nx_row, hx_ce_row, hx_sl_row, hx_kd_row, hx_ln_row, hx_I_row, hx_L_row, hx_R_row, hx_nx_mk, hx_kd_mk, hx_ln_mk, hx_I_mk, hx_L_mk, hx_R_mk, am_wp, am_stp, am_en, am_as, am_pad, am_nth, am_set, am_st1, am_st2, am_kl, am_kill, am_mem, am_fv, am_tk, am_wt, am_bk, Option.toList, List.cons_append, List.nil_append, Nat.reduceAdd, Nat.reduceEqDiff, Nat.reduceLeDiff, reduceIte, Nat.reduceLT, or_self, true_or, or_true, if_true, if_false, and_self, and_true, true_and, not_false_eq_true, not_true_eq_false]
  have v4 : am_I h2' 21 4 = am_I h1 21 4 - 1 := by rw [e2]; simp only [hx_nx_sI, hx_ce_sI, hx_sl_sI, hx_kd_sI, hx_ln_sI, hx_I_sI, hx_L_sI, hx_R_sI, hx_nx_sL, hx_ce_sL, hx_sl_sL, hx_kd_sL, hx_ln_sL, hx_I_sL, hx_L_sL, hx_R_sL, hx_nx_sR, hx_ce_sR, hx_sl_sR, hx_kd_sR, hx_ln_sR, hx_I_sR, hx_L_sR, hx_R_sR, hx_nx_al, hx_ce_al, hx_sl_al, hx_kd_al, hx_ln_al, hx_I_al, hx_L_al, hx_R_al, hx_nx_row, hx_ce_row, hx_sl_row, hx_kd_row, hx_ln_row, hx_I_row, hx_L_row, hx_R_row, hx_nx_mk, hx_kd_mk, hx_ln_mk, hx_I_mk, hx_L_mk, hx_R_mk, am_wp, am_stp, am_en, am_as, am_pad, am_nth, am_set, am_st1, am_st2, am_kl, am_kill, am_mem, am_fv, am_tk, am_wt, am_bk, Option.toList, List.cons_append, List.nil_append, Nat.reduceAdd, Nat.reduceEqDiff, Nat.reduceLeDiff, reduceIte, Nat.reduceLT, or_self, true_or, or_true, if_true, if_false, and_self, and_true, true_and, not_false_eq_true, not_true_eq_false]
  have v22 : am_I h2' 22 = up_f (am_I h1 22) p 1 := by rw [e2]; funext j; unfold up_f; simp only [hx_nx_sI, hx_ce_sI, hx_sl_sI, hx_kd_sI, hx_ln_sI, hx_I_sI, hx_L_sI, hx_R_sI, hx_nx_sL, hx_ce_sL, hx_sl_sL, hx_kd_sL, hx_ln_sL, hx_I_sL, hx_L_sL, hx_R_sL, hx_nx_sR, hx_ce_sR, hx_sl_sR, hx_kd_sR, hx_ln_sR, hx_I_sR, hx_L_sR, hx_R_sR, hx_nx_al, hx_ce_al, hx_sl_al, hx_kd_al, hx_ln_al, hx_I_al, hx_L_al, hx_R_al, hx_nx_row, hx_ce_row, hx_sl_row, hx_kd_row, hx_ln_row, hx_I_row, hx_L_row, hx_R_row, hx_nx_mk, hx_kd_mk, hx_ln_mk, hx_I_mk, hx_L_mk, hx_R_mk, am_wp, am_stp, am_en, am_as, am_pad, am_nth, am_set, am_st1, am_st2, am_kl, am_kill, am_mem, am_fv, am_tk, am_wt, am_bk, Option.toList, List.cons_append, List.nil_append, Nat.reduceAdd, Nat.reduceEqDiff, Nat.reduceLeDiff, reduceIte, Nat.reduceLT, or_self, true_or, or_true, if_true, if_false, and_self, and_true, true_and, not_false_eq_true, not_true_eq_false]
  have v23 : am_I h2' 23 = up_f (am_I h1 23) p nx := by rw [e2]; funext j; unfold up_f; simp only [hx_nx_sI, hx_ce_sI, hx_sl_sI, hx_kd_sI, hx_ln_sI, hx_I_sI, hx_L_sI, hx_R_sI, hx_nx_sL, hx_ce_sL, hx_sl_sL, hx_kd_sL, hx_ln_sL, hx_I_sL, hx_L_sL, hx_R_sL, hx_nx_sR, hx_ce_sR, hx_sl_sR, hx_kd_sR, hx_ln_sR, hx_I_sR, hx_L_sR, hx_R_sR, hx_nx_al, hx_ce_al, hx_sl_al, hx_kd_al, hx_ln_al, hx_I_al, hx_L_al, hx_R_al, hx_nx_row, hx_ce_row, hx_sl_row, hx_kd_row, hx_ln_row, hx_I_row, hx_L_row, hx_R_row, hx_nx_mk, hx_kd_mk, hx_ln_mk, hx_I_mk, hx_L_mk, hx_R_mk, am_wp, am_stp, am_en, am_as, am_pad, am_nth, am_set, am_st1, am_st2, am_kl, am_kill, am_mem, am_fv, am_tk, am_wt, am_bk, Option.toList, List.cons_append, List.nil_append, Nat.reduceAdd, Nat.reduceEqDiff, Nat.reduceLeDiff, reduceIte, Nat.reduceLT, or_self, true_or, or_true, if_true, if_false, and_self, and_true, true_and, not_false_eq_true, not_true_eq_false]
  have v24 : am_L h2' 24 = up_f (am_L h1 24) p (am_L h 14 3) := by rw [e2]; funext j; unfold up_f; simp only [hx_nx_sI, hx_ce_sI, hx_sl_sI, hx_kd_sI, hx_ln_sI, hx_I_sI, hx_L_sI, hx_R_sI, hx_nx_sL, hx_ce_sL, hx_sl_sL, hx_kd_sL, hx_ln_sL, hx_I_sL, hx_L_sL, hx_R_sL, hx_nx_sR, hx_ce_sR, hx_sl_sR, hx_kd_sR, hx_ln_sR, hx_I_sR, hx_L_sR, hx_R_sR, hx_nx_al, hx_ce_al, hx_sl_al, hx_kd_al, hx_ln_al, hx_I_al, hx_L_al, hx_R_al, hx_nx_row, hx_ce_row, hx_sl_row, hx_kd_row, hx_ln_row, hx_I_row, hx_L_row, hx_R_row, hx_nx_mk, hx_kd_mk, hx_ln_mk, hx_I_mk, hx_L_mk, hx_R_mk, am_wp, am_stp, am_en, am_as, am_pad, am_nth, am_set, am_st1, am_st2, am_kl, am_kill, am_mem, am_fv, am_tk, am_wt, am_bk, Option.toList, List.cons_append, List.nil_append, Nat.reduceAdd, Nat.reduceEqDiff, Nat.reduceLeDiff, reduceIte, Nat.reduceLT, or_self, true_or, or_true, if_true, if_false, and_self, and_true, true_and, not_false_eq_true, not_true_eq_false]
  clear e2
  have K2 : sk_K P h2' := K1.mv F2 (congrFun (F2.2.2.2.2.2.2.1 18 (by simp)) 0) (congrFun (F2.2.2.2.2.2.2.1 18 (by simp)) 5) v21 (congrFun (F2.2.2.2.2.2.2.1 2 (by simp)) 15)
  have F12 : am_fi [15, 21, 22, 23, 24] h h2' := (F1.sub (by simp)).trans (F2.sub (by simp))
  have ka2 : am_kd h2' a = 5 := by rw [F12.2.2.2.1]; exact ka
  have ia2 : am_I h2' a = am_I h a := F12.2.2.2.2.2.2.1 a (by simp; omega)
  have ia3 : am_I h2' a 4 = nI k := by rw [ia2]; exact ia
  obtain ⟨⟨k2s, r0s, r1s, r2s, r3s, r5s, r8s⟩, S2, P2, Sp2, B2, N2, i185s, i215s⟩ := id K2
  simp only [am_wp, am_stp, am_en, am_as, am_pad, am_nth, am_set, am_st1, am_st2, am_kl, am_kill, am_mem, am_fv, am_tk, am_wt, am_bk, Option.toList, List.cons_append, List.nil_append, Nat.reduceAdd, Nat.reduceEqDiff, Nat.reduceLeDiff, reduceIte, Nat.reduceLT, or_self, true_or, or_true, if_true, if_false, and_self, and_true, true_and, not_false_eq_true, not_true_eq_false]
  refine am_go [] 6 ?_
  simp only [am_wp, am_stp, am_en, am_as, am_pad, am_nth, am_set, am_st1, am_st2, am_kl, am_kill, am_mem, am_fv, am_tk, am_wt, am_bk, Option.toList, List.cons_append, List.nil_append, Nat.reduceAdd, Nat.reduceEqDiff, Nat.reduceLeDiff, reduceIte, Nat.reduceLT, or_self, true_or, or_true, if_true, if_false, and_self, and_true, true_and, not_false_eq_true, not_true_eq_false, fd_SR_writePage_24, fd_SR_writePage_25, fd_SR_writePage_26, fd_SR_writePage_29, fd_SR_writePage_30, fd_SR_writePage_31, ka2, ia3, nI_1]
  have F3 : am_fi [a] h2' (am_sI h2' a 4 (nI (k + 1))) := am_fi.refl.sI (by simp)
  have xa : am_I (am_sI h2' a 4 (nI (k + 1))) a = up_f (am_I h a) 4 (nI (k + 1)) := by
    rw [← ia2]; funext j; unfold up_f; simp only [hx_nx_sI, hx_ce_sI, hx_sl_sI, hx_kd_sI, hx_ln_sI, hx_I_sI, hx_L_sI, hx_R_sI, hx_nx_sL, hx_ce_sL, hx_sl_sL, hx_kd_sL, hx_ln_sL, hx_I_sL, hx_L_sL, hx_R_sL, hx_nx_sR, hx_ce_sR, hx_sl_sR, hx_kd_sR, hx_ln_sR, hx_I_sR, hx_L_sR, hx_R_sR, hx_nx_al, hx_ce_al, hx_sl_al, hx_kd_al, hx_ln_al, hx_I_al, hx_L_al, hx_R_al, hx_nx_row, hx_ce_row, hx_sl_row, hx_kd_row, hx_ln_row, hx_I_row, hx_L_row, hx_R_row, hx_nx_mk, hx_kd_mk, hx_ln_mk, hx_I_mk, hx_L_mk, hx_R_mk, am_wp, am_stp, am_en, am_as, am_pad, am_nth, am_set, am_st1, am_st2, am_kl, am_kill, am_mem, am_fv, am_tk, am_wt, am_bk, Option.toList, List.cons_append, List.nil_append, Nat.reduceAdd, Nat.reduceEqDiff, Nat.reduceLeDiff, reduceIte, Nat.reduceLT, or_self, true_or, or_true, if_true, if_false, and_self, and_true, true_and, not_false_eq_true, not_true_eq_false]
  generalize am_sI h2' a 4 (nI (k + 1)) = h3 at F3 xa ⊢
  have K3 : sk_K P h3 := K2.fi F3 (by simp; omega)
  obtain ⟨⟨k2t, r0t, r1t, r2t, r3t, r5t, r8t⟩, S3, P3, Sp3, B3, N3, i185t, i215t⟩ := id K3
  refine am_go [] 6 ?_
  simp only [am_wp, am_stp, am_en, am_as, am_pad, am_nth, am_set, am_st1, am_st2, am_kl, am_kill, am_mem, am_fv, am_tk, am_wt, am_bk, Option.toList, List.cons_append, List.nil_append, Nat.reduceAdd, Nat.reduceEqDiff, Nat.reduceLeDiff, reduceIte, Nat.reduceLT, or_self, true_or, or_true, if_true, if_false, and_self, and_true, true_and, not_false_eq_true, not_true_eq_false, fd_SR_writePage_34, fd_SR_writePage_35, fd_SR_writePage_38, fd_SR_writePage_39, fd_SR_writePage_40, fd_SR_writePage_43, k2t, r0t, r8t, P3.1]
  refine am_call (l2_store (d := d) P3 S3 hp i185t) (fun o h4 q => ?_)
  obtain ⟨rfl, F4, L4, c0, c3, c5, c19, c15, c20⟩ := q
  have one0 : ¬ (1 : Int32) = 0 := by decide
  simp only [am_wp, am_stp, am_en, am_as, am_pad, am_nth, am_set, am_st1, am_st2, am_kl, am_kill, am_mem, am_fv, am_tk, am_wt, am_bk, Option.toList, List.cons_append, List.nil_append, Nat.reduceAdd, Nat.reduceEqDiff, Nat.reduceLeDiff, reduceIte, Nat.reduceLT, or_self, true_or, or_true, if_true, if_false, and_self, and_true, true_and, not_false_eq_true, not_true_eq_false]
  refine am_go [49] 3 ?_
  simp only [am_wp, am_stp, am_en, am_as, am_pad, am_nth, am_set, am_st1, am_st2, am_kl, am_kill, am_mem, am_fv, am_tk, am_wt, am_bk, Option.toList, List.cons_append, List.nil_append, Nat.reduceAdd, Nat.reduceEqDiff, Nat.reduceLeDiff, reduceIte, Nat.reduceLT, or_self, true_or, or_true, if_true, if_false, and_self, and_true, true_and, not_false_eq_true, not_true_eq_false, fd_SR_writePage_46, fd_SR_writePage_53, one0]
  have F123 : am_fi [15, 21, 22, 23, 24, a] h h3 := (F12.sub (by simp)).trans (F3.sub (by simp))
  have FA : am_fi [15, 18, 19, 20, 21, 22, 23, 24, a] h h4 := (F123.sub (by simp)).trans (F4.sub (by simp))
  have K4 : sk_K P h4 := K3.mv F4 c0 (by rw [c5, i185t]) (congrFun (F4.2.2.2.2.2.2.1 21 (by simp)) 0) (congrFun (F4.2.2.2.2.2.2.1 2 (by simp)) 15)
  have s22 : am_I h4 22 = up_f (am_I h 22) p 1 := by
    rw [F4.2.2.2.2.2.2.1 22 (by simp), F3.2.2.2.2.2.2.1 22 (by simp; omega), v22, F1.2.2.2.2.2.2.1 22 (by simp)]
  have s23 : am_I h4 23 = up_f (am_I h 23) p nx := by
    rw [F4.2.2.2.2.2.2.1 23 (by simp), F3.2.2.2.2.2.2.1 23 (by simp; omega), v23, F1.2.2.2.2.2.2.1 23 (by simp)]
  have s24 : am_L h4 24 = up_f (am_L h 24) p (am_L h 14 3) := by
    rw [L4, F3.2.2.2.2.2.2.2 24 (by simp; omega), v24, L1]
  have s15 : am_I h3 15 = am_I h1 15 := by
    rw [F3.2.2.2.2.2.2.1 15 (by simp; omega), F2.2.2.2.2.2.2.1 15 (by simp)]
  have s19 : am_I h3 19 = am_I h 19 := F123.2.2.2.2.2.2.1 19 (by simp; omega)
  have s20 : am_I h3 20 = am_I h 20 := F123.2.2.2.2.2.2.1 20 (by simp; omega)
  refine ⟨FA, K4, ⟨h2, ⟨hp, ?_⟩, hC, by omega, ho, ?_, u, hu, ?_⟩, by rw [c20, s20], s22, s23, s24, fun j hj => ?_, ?_, ?_, ?_⟩
  · rw [s22]; unfold up_f; rw [if_pos rfl]
  · rw [c15 4 (by decide), s15, b4, hU.2.2.1, am_b8_b8, b8_and]
    exact and255 (by omega)
  · have := el_b8 ho hE
    refine el_ext (fun j j1 j2 => ?_) this
    show am_I h4 19 (p * 128 + j) = am_b8 (am_I h 15 j)
    rw [c15 j (by omega), s15, b5 j j1]
  · rw [c19 j hj, s19]
  · rw [F4.2.2.2.2.2.2.1 21 (by simp), F3.2.2.2.2.2.2.1 21 (by simp; omega), v4, F1.2.2.2.2.2.2.1 21 (by simp)]
  · rw [F4.2.2.2.2.2.2.1 a (by simp; omega)]; exact xa
  · rw [c3, F123.2.2.2.2.2.2.1 18 (by simp; omega)]
/-! HOW MANY PAGES -/
theorem l2_countPages_loop {d P most N : Nat} {old : Bool} {h : am_H} {Q : am_O → am_H → Prop} (hm : most < 1000000)
    (hx : ∀ c g, c < 1000000 → am_fi (14 :: 15 :: bl_w) h g → ((c ≤ most ∧ c = N) ∨ (most < c ∧ most < N)) → Q (.inl (some (.int (nI c)))) g) : ∀ (n i : Nat) (ins : List (Nat × List ent)) (g : am_H) (c u : Nat) (pk : Option Int64), tot ins ≤ n → i + n < 900000 → c ≤ i → am_fi (14 :: 15 :: bl_w) h g → sk_K P g → bl_S P g ins → am_I g 25 7 = (if old = true then 1 else 0) → (∀ x ∈ ins, so x.2 ∧ ∀ e ∈ x.2, eo e) → N = c + np u pk (ou old (ins.map (·.2))) → (c = 0 → u = 121) → (0 < c → ∃ ce, sh_U g u ce pk ∧ 5 + 2 * ce ≤ u) →
    am_Ex nm_pr (d + 4) mt_SR_countPages (4, [.ref 2, .int (nI most), .int (nI c), .int (nI i)], [], g) Q
  | n, i, ins, g, c, u, pk, hn, hi, hci, F, hK, hB, h7, hO, hN, hz, hu => by
    obtain ⟨⟨k2, r0, r1, r2, r3, r5, r8⟩, S0, P0, Sp0, B0, N0, i185, i215⟩ := id hK
    have k25 := B0.1
    have li : nI i < 1000000 := nI_lt (b := 1000000) (by omega) (by decide)
    have one0 : ¬ (1 : Int32) = 0 := by decide
    refine am_go [10, 91] 3 ?_
    simp only [am_wp, am_stp, am_en, am_as, am_pad, am_nth, am_set, am_st1, am_st2, am_kl, am_kill, am_mem, am_fv, am_tk, am_wt, am_bk, Option.toList, List.cons_append, List.nil_append, Nat.reduceAdd, Nat.reduceEqDiff, Nat.reduceLeDiff, reduceIte, Nat.reduceLT, or_self, true_or, or_true, if_true, if_false, and_self, and_true, true_and, not_false_eq_true, not_true_eq_false, fd_SR_countPages_4, fd_SR_countPages_5, fd_SR_countPages_7, li]
    by_cases hc : most < c
    · have l1 : nI most < nI c := nI_lt hc (by omega)
      refine am_go [15] 6 ?_
      simp only [am_wp, am_stp, am_en, am_as, am_pad, am_nth, am_set, am_st1, am_st2, am_kl, am_kill, am_mem, am_fv, am_tk, am_wt, am_bk, Option.toList, List.cons_append, List.nil_append, Nat.reduceAdd, Nat.reduceEqDiff, Nat.reduceLeDiff, reduceIte, Nat.reduceLT, or_self, true_or, or_true, if_true, if_false, and_self, and_true, true_and, not_false_eq_true, not_true_eq_false, fd_SR_countPages_10, fd_SR_countPages_11, fd_SR_countPages_12, fd_SR_countPages_91, fd_SR_countPages_92, l1]
      exact hx c g (by omega) F (Or.inr ⟨hc, by omega⟩)
    · have l1 : ¬ nI most < nI c := nI_nlt (by omega) (by omega)
      refine am_go [15, 91] 3 ?_
      simp only [am_wp, am_stp, am_en, am_as, am_pad, am_nth, am_set, am_st1, am_st2, am_kl, am_kill, am_mem, am_fv, am_tk, am_wt, am_bk, Option.toList, List.cons_append, List.nil_append, Nat.reduceAdd, Nat.reduceEqDiff, Nat.reduceLeDiff, reduceIte, Nat.reduceLT, or_self, true_or, or_true, if_true, if_false, and_self, and_true, true_and, not_false_eq_true, not_true_eq_false, fd_SR_countPages_10, fd_SR_countPages_11, fd_SR_countPages_12, l1]
      refine am_go [] 3 ?_
      simp only [am_wp, am_stp, am_en, am_as, am_pad, am_nth, am_set, am_st1, am_st2, am_kl, am_kill, am_mem, am_fv, am_tk, am_wt, am_bk, Option.toList, List.cons_append, List.nil_append, Nat.reduceAdd, Nat.reduceEqDiff, Nat.reduceLeDiff, reduceIte, Nat.reduceLT, or_self, true_or, or_true, if_true, if_false, and_self, and_true, true_and, not_false_eq_true, not_true_eq_false, fd_SR_countPages_15, fd_SR_countPages_16, fd_SR_countPages_19, k2, r5, k25]
      refine am_call (l2_advance (d := d) P0 Sp0 hB h7 hO (by omega)) (fun o g1 q => ?_)
      obtain ⟨F1, q⟩ := q
      rcases q with ⟨rfl, q⟩ | ⟨e, ins', rfl, q1, q2, q3, q4, q5, q6, q7, q8, q9⟩
      · simp only [am_wp, am_stp, am_en, am_as, am_pad, am_nth, am_set, am_st1, am_st2, am_kl, am_kill, am_mem, am_fv, am_tk, am_wt, am_bk, Option.toList, List.cons_append, List.nil_append, Nat.reduceAdd, Nat.reduceEqDiff, Nat.reduceLeDiff, reduceIte, Nat.reduceLT, or_self, true_or, or_true, if_true, if_false, and_self, and_true, true_and, not_false_eq_true, not_true_eq_false]
        refine am_go [25] 4 ?_
        simp only [am_wp, am_stp, am_en, am_as, am_pad, am_nth, am_set, am_st1, am_st2, am_kl, am_kill, am_mem, am_fv, am_tk, am_wt, am_bk, Option.toList, List.cons_append, List.nil_append, Nat.reduceAdd, Nat.reduceEqDiff, Nat.reduceLeDiff, reduceIte, Nat.reduceLT, or_self, true_or, or_true, if_true, if_false, and_self, and_true, true_and, not_false_eq_true, not_true_eq_false, fd_SR_countPages_22, fd_SR_countPages_91, fd_SR_countPages_92]
        refine hx c g1 (by omega) (F.trans (F1.sub (by intro x hx; simp [hx]))) (Or.inl ⟨by omega, ?_⟩)
        rw [hN, q]; rfl
      · have FA : am_fi (14 :: 15 :: bl_w) h g1 := F.trans (F1.sub (by intro x hx; simp [hx]))
        have K1 : sk_K P g1 := hK.fi F1 (by decide)
        obtain ⟨⟨k2', r0', r1', r2', r3', r5', r8'⟩, S1, P1, Sp1, B1, N1, i185', i215'⟩ := id K1
        have k25' := B1.1
        have r250 := B1.2.1
        have k26 := B1.2.2.1
        have i14 : am_I g1 14 = am_I g 14 := F1.2.2.2.2.2.2.1 14 (by decide)
        have l14 : am_L g1 14 = am_L g 14 := F1.2.2.2.2.2.2.2 14 (by decide)
        rw [q1] at hN
        simp only [am_wp, am_stp, am_en, am_as, am_pad, am_nth, am_set, am_st1, am_st2, am_kl, am_kill, am_mem, am_fv, am_tk, am_wt, am_bk, Option.toList, List.cons_append, List.nil_append, Nat.reduceAdd, Nat.reduceEqDiff, Nat.reduceLeDiff, reduceIte, Nat.reduceLT, or_self, true_or, or_true, if_true, if_false, and_self, and_true, true_and, not_false_eq_true, not_true_eq_false]
        -- the entry comes onto the sheet
        have tail : ∀ (g2 : am_H) (c' u' ce : Nat) (pk' : Option Int64), am_fi [14, 15] g1 g2 → sh_U g2 u' ce pk' → 5 + 2 * ce ≤ u' → u' + es (sh1 pk' e.1) e ≤ 120 → 0 < c' → c' ≤ i + 1 → N = c' + np (u' + es (sh1 pk' e.1) e) (some e.1) (ou old (ins'.map (·.2))) → am_Ex nm_pr (d + 4) mt_SR_countPages (64, [.ref 2, .int (nI most), .int (nI c'), .int (nI i)], [], g2) Q := by
          intro g2 c' u' ce pk' F2 U2 hce hfit hc' hci' hN'
          have K2 : sk_K P g2 := K1.fi F2 (by decide)
          obtain ⟨⟨k2s, r0s, r1s, r2s, r3s, r5s, r8s⟩, S2, P2, Sp2, B2, N2, i185s, i215s⟩ := id K2
          have k26s := B2.2.2.1
          have w1 : am_L g2 25 1 = e.1 := by rw [F2.2.2.2.2.2.2.2 25 (by simp)]; exact q6
          have w2 : am_I g2 26 0 = e.2.1 := by rw [F2.2.2.2.2.2.2.1 26 (by simp)]; exact q7
          have w3 : am_L g2 26 1 = e.2.2 := by rw [F2.2.2.2.2.2.2.2 26 (by simp)]; exact q8
          refine am_go [] 9 ?_
          simp only [am_wp, am_stp, am_en, am_as, am_pad, am_nth, am_set, am_st1, am_st2, am_kl, am_kill, am_mem, am_fv, am_tk, am_wt, am_bk, Option.toList, List.cons_append, List.nil_append, Nat.reduceAdd, Nat.reduceEqDiff, Nat.reduceLeDiff, reduceIte, Nat.reduceLT, or_self, true_or, or_true, if_true, if_false, and_self, and_true, true_and, not_false_eq_true, not_true_eq_false, fd_SR_countPages_64, fd_SR_countPages_65, fd_SR_countPages_68, fd_SR_countPages_69, fd_SR_countPages_72, fd_SR_countPages_75, fd_SR_countPages_76, fd_SR_countPages_79, fd_SR_countPages_82, k2s, r8s, r5s, B2.1, B2.2.1, w1, S2.1]
          refine am_call (l2_append (d := d + 1) (t := 26) U2 q9 hfit (by decide) (by have := U2.2.2.2.2.1; omega) k26s w2 w3) (fun o g3 z => ?_)
          obtain ⟨rfl, F3, U3, -, -, -⟩ := z
          simp only [am_wp, am_stp, am_en, am_as, am_pad, am_nth, am_set, am_st1, am_st2, am_kl, am_kill, am_mem, am_fv, am_tk, am_wt, am_bk, Option.toList, List.cons_append, List.nil_append, Nat.reduceAdd, Nat.reduceEqDiff, Nat.reduceLeDiff, reduceIte, Nat.reduceLT, or_self, true_or, or_true, if_true, if_false, and_self, and_true, true_and, not_false_eq_true, not_true_eq_false]
          refine am_go [4] 2 ?_
          simp only [am_wp, am_stp, am_en, am_as, am_pad, am_nth, am_set, am_st1, am_st2, am_kl, am_kill, am_mem, am_fv, am_tk, am_wt, am_bk, Option.toList, List.cons_append, List.nil_append, Nat.reduceAdd, Nat.reduceEqDiff, Nat.reduceLeDiff, reduceIte, Nat.reduceLT, or_self, true_or, or_true, if_true, if_false, and_self, and_true, true_and, not_false_eq_true, not_true_eq_false, fd_SR_countPages_85, fd_SR_countPages_88, nI_1]
          have hn' : ∃ k, n = k + 1 := ⟨n - 1, by omega⟩
          obtain ⟨k, rfl⟩ := hn'
          have F23 := F2.trans F3
          have B3 : bl_S P g3 ins' := q3.lo F23 (by simp)
          refine l2_countPages_loop hm hx k (i + 1) ins' g3 c' _ _ (by omega) (by omega) hci' (FA.trans (F23.sub (by simp))) (K2.fi F3 (by decide)) B3 (by rw [F23.2.2.2.2.2.2.1 25 (by simp)]; exact q4) q5 hN' (fun z => by omega) (fun _ => ⟨ce + 1, U3, ?_⟩)
          have := es_ge (sh1_le pk' e.1) e
          omega
        -- a new page
        have fresh : ∀ w : Nat, w = np (5 + es 0 e) (some e.1) (ou old (ins'.map (·.2))) → N = c + (w + 1) → am_Ex nm_pr (d + 4) mt_SR_countPages (53, [.ref 2, .int (nI most), .int (nI c), .int (nI i)], [], g1) Q := by
          intro w hw hN'
          refine am_go [] 5 ?_
          simp only [am_wp, am_stp, am_en, am_as, am_pad, am_nth, am_set, am_st1, am_st2, am_kl, am_kill, am_mem, am_fv, am_tk, am_wt, am_bk, Option.toList, List.cons_append, List.nil_append, Nat.reduceAdd, Nat.reduceEqDiff, Nat.reduceLeDiff, reduceIte, Nat.reduceLT, or_self, true_or, or_true, if_true, if_false, and_self, and_true, true_and, not_false_eq_true, not_true_eq_false, fd_SR_countPages_53, fd_SR_countPages_56, fd_SR_countPages_57, fd_SR_countPages_60, fd_SR_countPages_61, k2', r8', S1.1, nI_1]
          refine am_call (l2_beginPage (d := d + 1) S1) (fun o g2 z => ?_)
          obtain ⟨rfl, F2, U2, -⟩ := z
          simp only [am_wp, am_stp, am_en, am_as, am_pad, am_nth, am_set, am_st1, am_st2, am_kl, am_kill, am_mem, am_fv, am_tk, am_wt, am_bk, Option.toList, List.cons_append, List.nil_append, Nat.reduceAdd, Nat.reduceEqDiff, Nat.reduceLeDiff, reduceIte, Nat.reduceLT, or_self, true_or, or_true, if_true, if_false, and_self, and_true, true_and, not_false_eq_true, not_true_eq_false]
          have h20 := es_le 0 e
          exact tail g2 (c + 1) 5 0 none F2 U2 (by omega) (by show 5 + es 0 e ≤ 120; omega) (by omega) (by omega) (by rw [hN', hw]; show _ = c + 1 + np (5 + es 0 e) _ _; omega)
        by_cases c0 : c = 0
        · have z0 : nI c = 0 := by rw [c0]; rfl
          have u0 := hz c0
          rw [u0, np_121] at hN
          refine am_go [29, 53] 3 ?_
          simp only [am_wp, am_stp, am_en, am_as, am_pad, am_nth, am_set, am_st1, am_st2, am_kl, am_kill, am_mem, am_fv, am_tk, am_wt, am_bk, Option.toList, List.cons_append, List.nil_append, Nat.reduceAdd, Nat.reduceEqDiff, Nat.reduceLeDiff, reduceIte, Nat.reduceLT, or_self, true_or, or_true, if_true, if_false, and_self, and_true, true_and, not_false_eq_true, not_true_eq_false, fd_SR_countPages_22, fd_SR_countPages_25, fd_SR_countPages_26, one0, z0]
          have := fresh _ rfl hN
          rw [z0] at this
          exact this
        · have z0 : ¬ nI c = 0 := nI_ne0 (by omega) (by omega)
          obtain ⟨ce, U, hce⟩ := hu (by omega)
          have U1 : sh_U g1 u ce pk := by
            obtain ⟨v1, v2, v3, v4, v5, v6⟩ := U
            refine ⟨S1, by rw [i14]; exact v2, by rw [i14]; exact v3, v4, v5, ?_⟩
            cases pk with
            | none => exact v6
            | some x => rw [l14]; exact v6
          refine am_go [29, 53] 3 ?_
          simp only [am_wp, am_stp, am_en, am_as, am_pad, am_nth, am_set, am_st1, am_st2, am_kl, am_kill, am_mem, am_fv, am_tk, am_wt, am_bk, Option.toList, List.cons_append, List.nil_append, Nat.reduceAdd, Nat.reduceEqDiff, Nat.reduceLeDiff, reduceIte, Nat.reduceLT, or_self, true_or, or_true, if_true, if_false, and_self, and_true, true_and, not_false_eq_true, not_true_eq_false, fd_SR_countPages_22, fd_SR_countPages_25, fd_SR_countPages_26, one0, z0]
          refine am_go [] 9 ?_
          simp only [am_wp, am_stp, am_en, am_as, am_pad, am_nth, am_set, am_st1, am_st2, am_kl, am_kill, am_mem, am_fv, am_tk, am_wt, am_bk, Option.toList, List.cons_append, List.nil_append, Nat.reduceAdd, Nat.reduceEqDiff, Nat.reduceLeDiff, reduceIte, Nat.reduceLT, or_self, true_or, or_true, if_true, if_false, and_self, and_true, true_and, not_false_eq_true, not_true_eq_false, fd_SR_countPages_29, fd_SR_countPages_30, fd_SR_countPages_33, fd_SR_countPages_34, fd_SR_countPages_37, fd_SR_countPages_40, fd_SR_countPages_41, fd_SR_countPages_44, fd_SR_countPages_47, k2', r8', r5', k25', r250, q6, S1.1]
          refine am_call (l2_fits (d := d + 2) (t := 26) U1 k26 q7 q8) (fun o g2 z => ?_)
          obtain ⟨rfl, rfl⟩ := z
          simp only [am_wp, am_stp, am_en, am_as, am_pad, am_nth, am_set, am_st1, am_st2, am_kl, am_kill, am_mem, am_fv, am_tk, am_wt, am_bk, Option.toList, List.cons_append, List.nil_append, Nat.reduceAdd, Nat.reduceEqDiff, Nat.reduceLeDiff, reduceIte, Nat.reduceLT, or_self, true_or, or_true, if_true, if_false, and_self, and_true, true_and, not_false_eq_true, not_true_eq_false]
          refine am_go [53, 64] 1 ?_
          simp only [am_wp, am_stp, am_en, am_as, am_pad, am_nth, am_set, am_st1, am_st2, am_kl, am_kill, am_mem, am_fv, am_tk, am_wt, am_bk, Option.toList, List.cons_append, List.nil_append, Nat.reduceAdd, Nat.reduceEqDiff, Nat.reduceLeDiff, reduceIte, Nat.reduceLT, or_self, true_or, or_true, if_true, if_false, and_self, and_true, true_and, not_false_eq_true, not_true_eq_false, fd_SR_countPages_50]
          by_cases hf : u + es (sh1 pk e.1) e ≤ 120
          · rw [np, if_pos hf] at hN
            simp only [hf, one0, am_wp, am_stp, am_en, am_as, am_pad, am_nth, am_set, am_st1, am_st2, am_kl, am_kill, am_mem, am_fv, am_tk, am_wt, am_bk, Option.toList, List.cons_append, List.nil_append, Nat.reduceAdd, Nat.reduceEqDiff, Nat.reduceLeDiff, reduceIte, Nat.reduceLT, or_self, true_or, or_true, if_true, if_false, and_self, and_true, true_and, not_false_eq_true, not_true_eq_false]
            exact tail g2 c u ce pk am_fi.refl U1 hce hf (by omega) (by omega) hN
          · rw [np, if_neg hf] at hN
            simp only [hf, am_wp, am_stp, am_en, am_as, am_pad, am_nth, am_set, am_st1, am_st2, am_kl, am_kill, am_mem, am_fv, am_tk, am_wt, am_bk, Option.toList, List.cons_append, List.nil_append, Nat.reduceAdd, Nat.reduceEqDiff, Nat.reduceLeDiff, reduceIte, Nat.reduceLT, or_self, true_or, or_true, if_true, if_false, and_self, and_true, true_and, not_false_eq_true, not_true_eq_false]
            exact fresh _ rfl hN
theorem l2_countPages {d P most : Nat} {old : Bool} {ins : List (Nat × List ent)} {h : am_H} (hm : most < 1000000) (hK : sk_K P h) (hB : bl_S P h ins) (ho : am_I h 25 7 = (if old = true then 1 else 0)) (hO : ∀ x ∈ ins, so x.2 ∧ ∀ e ∈ x.2, eo e) (hn : tot ins < 900000) : am_Rt nm_pr (d + 5) mi_SR_countPages [.ref 2, .int (nI most)] h (fun o h' => ∃ c, o = .inl (some (.int (nI c))) ∧ c < 1000000 ∧ am_fi (14 :: 15 :: bl_w) h h' ∧ ((c ≤ most ∧ c = npg (ou old (ins.map (·.2)))) ∨ (most < c ∧ most < npg (ou old (ins.map (·.2)))))) := by
  refine am_in' (d := d + 4) mt_SR_countPages 4 rfl rfl rfl ?_
  refine am_go [4] 4 ?_
  simp only [am_wp, am_stp, am_en, am_as, am_pad, am_nth, am_set, am_st1, am_st2, am_kl, am_kill, am_mem, am_fv, am_tk, am_wt, am_bk, Option.toList, List.cons_append, List.nil_append, Nat.reduceAdd, Nat.reduceEqDiff, Nat.reduceLeDiff, reduceIte, Nat.reduceLT, or_self, true_or, or_true, if_true, if_false, and_self, and_true, true_and, not_false_eq_true, not_true_eq_false, fd_SR_countPages_0, fd_SR_countPages_1, fd_SR_countPages_2, fd_SR_countPages_3]
  exact l2_countPages_loop hm (fun c g hc F q => ⟨c, rfl, hc, F, q⟩) (tot ins) 0 ins h 0 121 none (Nat.le_refl _) (by omega) (Nat.le_refl _) am_fi.refl hK hB ho hO (by unfold npg; omega) (fun _ => rfl) (fun z => by omega)
