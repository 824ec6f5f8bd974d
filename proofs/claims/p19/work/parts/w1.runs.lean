/-! RUNS AND THEIR LISTS, WEAKLY -/
def ruh (h : am_H) (a : Nat) : Prop := ru0 (am_kd h) (am_ln h) (am_R h) (am_nx h) a
theorem wf.ru {k a : Nat} {h h' : am_H} (f : wf k h h') (r : ruh h a) : ruh h' a := f.2.2.2.2 a r.1 r
theorem ws0.sR {P t : Nat} {kd ln : Nat → Nat} {R R' : Nat → Nat → Nat} {nx : Nat} (c : ws0 P kd ln R nx) (ht : t ∈ wk_as) (hR : ∀ q, q ≠ t → R' q = R q) (hr : ∀ i, i < 9 → ru0 kd ln R nx (R' t i)) : ws0 P kd ln R' nx := by
  obtain ⟨c1, c2, c3, c4, c5, c6, c7, c8, c9⟩ := c
  have k200 : kd t = 200 := by
    have : (t, 200) ∈ wk_kd := by
      simp only [wk_as, List.mem_cons, List.not_mem_nil, or_false] at ht
      rcases ht with e | e | e | e | e | e | e | e | e <;> subst e <;> decide
    exact c1 _ this
  have nt : ∀ q ∈ wk_R, q.1 ≠ t := fun q hq e => by
    have : ∀ q ∈ wk_R, ∀ u ∈ wk_as, q.1 ≠ u := by decide
    exact this q hq t ht e
  have upr : ∀ a, ru0 kd ln R nx a → ru0 kd ln R' nx a := fun a r => by
    have ne : a ≠ t := fun e => by have := r.1; rw [e, k200] at this; exact absurd this (by decide)
    exact r.up (fun _ _ => rfl) (fun _ _ => rfl) (by rw [hR a ne]) (Nat.le_refl _)
  refine ⟨c1, c2, c3, fun q hq => ?_, fun u hu i hi => ?_, fun i hi => ?_, c7, c8, c9⟩
  · rw [hR _ (nt q hq)]; exact c4 q hq
  · by_cases e : u = t
    · subst e; exact upr _ (hr i hi)
    · rw [hR u e]; exact upr _ (c5 u hu i hi)
  · have n28 : 28 ≠ t := fun e => by
      have : ∀ u ∈ wk_as, 28 ≠ u := by decide
      exact this t ht e
    rw [hR 28 n28]; exact c6 i hi
theorem wp.sR {P k t i b : Nat} {h g : am_H} (w : wp P k h g) (ht : t ∈ wk_as) (r : ruh g b) : wp P k h (am_sR g t i b) := by
  obtain ⟨⟨w1, w2, w3⟩, f⟩ := w
  have k200 : am_kd g t = 200 := by
    have : (t, 200) ∈ wk_kd := by
      simp only [wk_as, List.mem_cons, List.not_mem_nil, or_false] at ht
      rcases ht with e | e | e | e | e | e | e | e | e <;> subst e <;> decide
    exact w1.1 _ this
  have hR : ∀ q, q ≠ t → am_R (am_sR g t i b) q = am_R g q := fun q hq => by
    funext j
    rw [hx_R_sR, if_neg hq]
  have hct : cw t := by
    have : ∀ u ∈ wk_as, 2 ≤ u ∧ u < 72 := by decide
    exact Or.inl (this t ht)
  refine ⟨⟨ws0.sR w1 ht hR (fun j hj => ?_), w2, w3⟩, f.trans (l := 0) ⟨fun q hq => ⟨rfl, rfl, rfl, rfl, ?_⟩, Nat.le_refl _, Nat.le_refl _, Nat.le_refl _, fun a ka ra => ?_⟩⟩
  · rw [hx_R_sR, if_pos rfl]
    by_cases e : j = i
    · rw [if_pos e]; exact r
    · rw [if_neg e]; exact w1.2.2.2.2.1 t ht j hj
  · exact hR q (by unfold cw at hct; omega)
  · have ne : a ≠ t := fun e => by rw [e, k200] at ka; exact absurd ka (by decide)
    exact ra.up (fun _ _ => rfl) (fun _ _ => rfl) (by rw [hR a ne]) (Nat.le_refl _)
/-- a run's own ints and longs -/
theorem wp.runI {P k a j : Nat} {v : Int32} {h g : am_H} (w : wp P k h g) (r : ruh g a) : wp P k h (am_sI g a j v) :=
  w.sI r.2.2.2.1 (fun e => by have := w.1.kd 3 10 (by decide); rw [← e, r.1] at this; exact absurd this (by decide)) (w.1.run r.1 j v)
theorem ru_frame {P a : Nat} {S : List Nat} {h h' : am_H} (w : wk P h) (r : ruh h a) (f : am_fi S h h') (hS : ∀ q ∈ S, q = a ∨ q = am_R h a 2) : wp P 0 h h' := by
  obtain ⟨r1, r2, r3, r4, r5, r6, r7, r8⟩ := id r
  have n3 : 3 ∉ S := fun e => by
    have k3 := w.kd 3 10 (by decide)
    rcases hS 3 e with e | e
    · rw [e, r1] at k3; exact absurd k3 (by decide)
    · rw [e, r2] at k3; exact absurd k3 (by decide)
  have n4 : 4 ∉ S := fun e => by
    have k4 := w.kd 4 101 (by decide)
    rcases hS 4 e with e | e
    · rw [e, r1] at k4; exact absurd k4 (by decide)
    · exact r8 e.symm
  refine wp.fi w f (fun q hq => ?_) (fun q hq j => ?_) (w.2.2.fi f n3 n4)
  · rcases hS q hq with e | e
    · rw [e]; exact r4
    · rw [e]; exact r5
  · rcases hS q hq with e | e
    · rw [e]; exact w.run r1 j _
    · rw [e]
      have ne : ∀ q ∈ wk_kd, q.2 ≠ 101 → am_R h a 2 ≠ q.1 := fun q hq h5 e => by
        have := w.1.1 q hq
        rw [← e, r2] at this
        exact h5 this.symm
      have n40 := ne (40, 6) (by decide) (by decide)
      have n44 := ne (44, 6) (by decide) (by decide)
      have n48 := ne (48, 6) (by decide) (by decide)
      have n52 := ne (52, 6) (by decide) (by decide)
      have n56 := ne (56, 6) (by decide) (by decide)
      have n60 := ne (60, 6) (by decide) (by decide)
      have n64 := ne (64, 6) (by decide) (by decide)
      have n68 := ne (68, 6) (by decide) (by decide)
      dsimp only at *
      refine wcell_free (fun e => ?_) (by omega)
      simp only [List.mem_cons, List.not_mem_nil, or_false] at e
      rcases e with e | e | e | e | e | e | e | e
      · exact ne (2, 1) (by decide) (by decide) e
      · exact ne (8, 6) (by decide) (by decide) e
      · exact ne (14, 8) (by decide) (by decide) e
      · exact ne (18, 4) (by decide) (by decide) e
      · exact ne (20, 103) (by decide) (by decide) e
      · exact ne (21, 9) (by decide) (by decide) e
      · exact ne (25, 2) (by decide) (by decide) e
      · exact ne (29, 11) (by decide) (by decide) e
theorem ww_note {d P a : Nat} {z : Int64} {h : am_H} (w : wk P h) (r : ruh h a) : am_Rt nm_pr (d + 2) mi_Run_note [.ref a, .long z] h (fun o h' => o = .inl none ∧ wp P 0 h h') := by
  refine am_call (l2_note r.1 rfl r.2.1 r.2.2.1) (fun o h' q => ⟨q.1, ru_frame w r q.2.1 (fun q hq => ?_)⟩)
  simpa using hq
theorem wif {c : Prop} [Decidable c] {A B : Prop} (a : A) (b : B) : (if c then A else B) := by
  split
  · exact a
  · exact b
def b01 (o : am_O) : Prop := o = .inl (some (.int 0)) ∨ o = .inl (some (.int 1))
theorem ww_spans {d a : Nat} {z : Int64} {h : am_H} (r : ruh h a) : am_Rt nm_pr (d + 1) mi_Run_spans [.ref a, .long z] h (fun o h' => b01 o ∧ h' = h) := by
  have o0 : (0 : Int32) = 0 ∨ (0 : Int32) = 1 := by decide
  have o1 : (1 : Int32) = 0 ∨ (1 : Int32) = 1 := by decide
  have fin0 : am_Ex nm_pr d mt_Run_spans (29, [.ref a, .long z, .retAddr 0], [], h) (fun o h' => b01 o ∧ h' = h) := by
    refine am_go [] 3 ?_
    simp only [am_wp, am_stp, am_en, am_as, am_pad, am_nth, am_set, am_st1, am_st2, am_kl, am_kill, am_mem, am_fv, am_tk, am_wt, am_bk, Option.toList, List.cons_append, List.nil_append, Nat.reduceAdd, Nat.reduceEqDiff, Nat.reduceLeDiff, reduceIte, Nat.reduceLT, or_self, true_or, or_true, if_true, if_false, and_self, and_true, true_and, not_false_eq_true, not_true_eq_false, fd_Run_spans_29, fd_Run_spans_30, o0]
    exact Or.inl rfl
  refine am_in' mt_Run_spans 3 rfl rfl rfl ?_
  refine am_go [7, 29] 3 ?_
  simp only [am_wp, am_stp, am_en, am_as, am_pad, am_nth, am_set, am_st1, am_st2, am_kl, am_kill, am_mem, am_fv, am_tk, am_wt, am_bk, Option.toList, List.cons_append, List.nil_append, Nat.reduceAdd, Nat.reduceEqDiff, Nat.reduceLeDiff, reduceIte, Nat.reduceLT, or_self, true_or, or_true, if_true, if_false, and_self, and_true, true_and, not_false_eq_true, not_true_eq_false, fd_Run_spans_0, fd_Run_spans_1, fd_Run_spans_4, r.1]
  refine wif ?_ ?_
  · refine am_go [16, 29] 5 ?_
    simp only [am_wp, am_stp, am_en, am_as, am_pad, am_nth, am_set, am_st1, am_st2, am_kl, am_kill, am_mem, am_fv, am_tk, am_wt, am_bk, Option.toList, List.cons_append, List.nil_append, Nat.reduceAdd, Nat.reduceEqDiff, Nat.reduceLeDiff, reduceIte, Nat.reduceLT, or_self, true_or, or_true, if_true, if_false, and_self, and_true, true_and, not_false_eq_true, not_true_eq_false, fd_Run_spans_7, fd_Run_spans_8, fd_Run_spans_11, fd_Run_spans_12, fd_Run_spans_13, r.1]
    refine wif ?_ ?_
    · exact fin0
    · refine am_go [25, 29] 5 ?_
      simp only [am_wp, am_stp, am_en, am_as, am_pad, am_nth, am_set, am_st1, am_st2, am_kl, am_kill, am_mem, am_fv, am_tk, am_wt, am_bk, Option.toList, List.cons_append, List.nil_append, Nat.reduceAdd, Nat.reduceEqDiff, Nat.reduceLeDiff, reduceIte, Nat.reduceLT, or_self, true_or, or_true, if_true, if_false, and_self, and_true, true_and, not_false_eq_true, not_true_eq_false, fd_Run_spans_16, fd_Run_spans_17, fd_Run_spans_18, fd_Run_spans_21, fd_Run_spans_22, r.1]
      refine wif ?_ ?_
      · exact fin0
      · refine am_go [] 4 ?_
        simp only [am_wp, am_stp, am_en, am_as, am_pad, am_nth, am_set, am_st1, am_st2, am_kl, am_kill, am_mem, am_fv, am_tk, am_wt, am_bk, Option.toList, List.cons_append, List.nil_append, Nat.reduceAdd, Nat.reduceEqDiff, Nat.reduceLeDiff, reduceIte, Nat.reduceLT, or_self, true_or, or_true, if_true, if_false, and_self, and_true, true_and, not_false_eq_true, not_true_eq_false, fd_Run_spans_25, fd_Run_spans_26, fd_Run_spans_29, fd_Run_spans_30, o1]
        exact Or.inr rfl
  · exact fin0
theorem ww_hasBit {d a : Nat} {z : Int64} {h : am_H} (r : ruh h a) : am_Rt nm_pr (d + 1) mi_Run_hasBit [.ref a, .long z] h (fun o h' => b01 o ∧ h' = h) := by
  have o0 : (0 : Int32) = 0 ∨ (0 : Int32) = 1 := by decide
  have o1 : (1 : Int32) = 0 ∨ (1 : Int32) = 1 := by decide
  obtain ⟨r1, r2, r3, -⟩ := r
  obtain ⟨k, hk, ek⟩ := and7 ((z.toUInt64 >>> ((6 : Int32).toInt64.toUInt64 &&& Int64.toUInt64 63)).toInt64.toInt32)
  have i1 := am_inb (c := k) (N := 8) hk (by omega)
  have q1 : (nI k).toNatClampNeg = k := nI_clamp (by omega)
  refine am_in' mt_Run_hasBit 3 rfl rfl rfl ?_
  refine am_go [] 8 ?_
  simp only [am_wp, am_stp, am_en, am_as, am_pad, am_nth, am_set, am_st1, am_st2, am_kl, am_kill, am_mem, am_fv, am_tk, am_wt, am_bk, Option.toList, List.cons_append, List.nil_append, Nat.reduceAdd, Nat.reduceEqDiff, Nat.reduceLeDiff, reduceIte, Nat.reduceLT, or_self, true_or, or_true, if_true, if_false, and_self, and_true, true_and, not_false_eq_true, not_true_eq_false, fd_Run_hasBit_0, fd_Run_hasBit_1, fd_Run_hasBit_4, fd_Run_hasBit_5, fd_Run_hasBit_7, fd_Run_hasBit_8, fd_Run_hasBit_9, fd_Run_hasBit_11, r1]
  rw [ek]
  refine am_go [27, 31] 11 ?_
  simp only [am_wp, am_stp, am_en, am_as, am_pad, am_nth, am_set, am_st1, am_st2, am_kl, am_kill, am_mem, am_fv, am_tk, am_wt, am_bk, Option.toList, List.cons_append, List.nil_append, Nat.reduceAdd, Nat.reduceEqDiff, Nat.reduceLeDiff, reduceIte, Nat.reduceLT, or_self, true_or, or_true, if_true, if_false, and_self, and_true, true_and, not_false_eq_true, not_true_eq_false, fd_Run_hasBit_12, fd_Run_hasBit_13, fd_Run_hasBit_14, fd_Run_hasBit_17, fd_Run_hasBit_18, fd_Run_hasBit_19, fd_Run_hasBit_20, fd_Run_hasBit_21, fd_Run_hasBit_22, fd_Run_hasBit_23, fd_Run_hasBit_24, r2, r3, i1, q1]
  refine wif ?_ ?_
  · refine am_go [] 3 ?_
    simp only [am_wp, am_stp, am_en, am_as, am_pad, am_nth, am_set, am_st1, am_st2, am_kl, am_kill, am_mem, am_fv, am_tk, am_wt, am_bk, Option.toList, List.cons_append, List.nil_append, Nat.reduceAdd, Nat.reduceEqDiff, Nat.reduceLeDiff, reduceIte, Nat.reduceLT, or_self, true_or, or_true, if_true, if_false, and_self, and_true, true_and, not_false_eq_true, not_true_eq_false, fd_Run_hasBit_31, fd_Run_hasBit_32, o0]
    exact Or.inl rfl
  · refine am_go [] 4 ?_
    simp only [am_wp, am_stp, am_en, am_as, am_pad, am_nth, am_set, am_st1, am_st2, am_kl, am_kill, am_mem, am_fv, am_tk, am_wt, am_bk, Option.toList, List.cons_append, List.nil_append, Nat.reduceAdd, Nat.reduceEqDiff, Nat.reduceLeDiff, reduceIte, Nat.reduceLT, or_self, true_or, or_true, if_true, if_false, and_self, and_true, true_and, not_false_eq_true, not_true_eq_false, fd_Run_hasBit_27, fd_Run_hasBit_28, fd_Run_hasBit_31, fd_Run_hasBit_32, o1]
    exact Or.inr rfl
