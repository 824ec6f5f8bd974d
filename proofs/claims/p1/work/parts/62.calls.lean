/-! THE CALLS OUT OF THE TWO SIDES (written by wip/tools/genops2.py) -/
/-- a long of two ints, as the law has it -/
def lg_2 (a b : Int32) : Int64 := (a.toInt64 <<< (Int32.toInt64 32 &&& 63)) ||| (b.toInt64 &&& 4294967295)
theorem lg_eq (a b : Int32) : ((a.toInt64 <<< (Int32.toInt64 32 &&& 63)) ||| (b.toInt64 &&& 4294967295)) = lg_2 a b := rfl
/-- the class's side has moved its own cells, and the answer's -/
def lw_C (h h1 : am_H) : Prop := (∀ a, a < 2 ∨ (72 ≤ a ∧ a < 108) → am_kd h1 a = am_kd h a ∧ am_ln h1 a = am_ln h a ∧ am_I h1 a = am_I h a ∧ am_L h1 a = am_L h a ∧ am_R h1 a = am_R h a) ∧ am_kd h1 108 = 101 ∧ am_ln h1 108 = 1 ∧ am_ce h1 ≤ am_ce h + 250000 ∧ am_sl h1 ≤ am_sl h + 3000000
/-- the reference's side has moved its own -/
def lw_D (h h1 : am_H) : Prop := (∀ a, a < 2 ∨ a = 108 → am_kd h1 a = am_kd h a ∧ am_ln h1 a = am_ln h a ∧ am_I h1 a = am_I h a ∧ am_L h1 a = am_L h a) ∧ am_kd h1 72 = am_kd h 72 ∧ am_ce h1 ≤ am_ce h + 250000 ∧ am_sl h1 ≤ am_sl h + 3000000
theorem lw_C.mo {P : Nat} {h h1 : am_H} (c : lw_C h h1) (m : mo_All P h) : mo_All P h1 :=
  m.xt (S := List.range 72 ++ [108]) (n := 109) (fun a ha hS => c.1 a (Or.inr (by simp at hS; omega))) (by decide) (fun q hq => by simp at hq; omega)
theorem lw_D.fi {S : List Nat} {h h1 : am_H} (f : am_fi S h h1) (h0 : ∀ q ∈ S, 72 ≤ q ∧ q < 108) : lw_D h h1 := by
  obtain ⟨f1, f2, f3, f4, f5, f6, f7, f8⟩ := f
  have w : ∀ a, a < 2 ∨ a = 108 → a ∉ S := fun a ha hS => by have := h0 a hS; omega
  exact ⟨fun a ha => ⟨by rw [f4], by rw [f5], f7 a (w a ha), f8 a (w a ha)⟩, by rw [f4], by omega, by omega⟩
theorem ox_put {xs : Nat → Int32} (hA : ∀ (d : Nat) (h : am_H), lw_G 8 xs h → am_Rt nm_pr (d + 12) mi_La_put [.ref 2, .long (lg_2 (xs 2) (xs 3)), .long (lg_2 (xs 4) (xs 5)), .ref 108] h (fun o h1 => ∃ (k : Int32) (v : Int64), o = .inl (some (.int k)) ∧ lw_C h h1 ∧ (k = 0 → am_L h1 108 0 = v) ∧ am_Rt nm_pr (d + 12) mi_Mo_put [.ref 72, .long (lg_2 (xs 2) (xs 3)), .long (lg_2 (xs 4) (xs 5))] h1 (fun o2 h2 => ∃ b : Int32, o2 = .inl (some (.int b)) ∧ lw_D h1 h2 ∧ am_I h2 72 0 = k ∧ (k = 0 → v = b.toInt64)))) : lw_op xs 148 := by
  intro d h G
  obtain ⟨g1, g2, g3, g4, g5, g6, g7, g8, g9, g10⟩ := id G
  have n1 : ¬ (99 = 100) := by decide
  have e1 : (1 : Int32) + 1 = nI 2 := by decide
  obtain ⟨i1, c1⟩ := lw_rd 2 (by decide)
  have e2 : (1 : Int32) + 2 = nI 3 := by decide
  obtain ⟨i2, c2⟩ := lw_rd 3 (by decide)
  have e3 : (1 : Int32) + 3 = nI 4 := by decide
  obtain ⟨i3, c3⟩ := lw_rd 4 (by decide)
  have e4 : (1 : Int32) + 4 = nI 5 := by decide
  obtain ⟨i4, c4⟩ := lw_rd 5 (by decide)
  have x1 : am_I h 1 2 = xs 2 := by rw [g8]
  have x2 : am_I h 1 3 = xs 3 := by rw [g8]
  have x3 : am_I h 1 4 = xs 4 := by rw [g8]
  have x4 : am_I h 1 5 = xs 5 := by rw [g8]
  refine am_go [] 9 ?_
  simp only [am_wp, am_stp, am_en, am_as, am_pad, am_nth, am_set, am_st1, am_st2, am_kl, am_kill, am_mem, am_fv, am_tk, am_wt, am_bk, Option.toList, List.cons_append, List.nil_append, Nat.reduceAdd, Nat.reduceEqDiff, Nat.reduceLeDiff, reduceIte, Nat.reduceLT, or_self, true_or, or_true, if_true, if_false, and_self, and_true, true_and, not_false_eq_true, not_true_eq_false, fd_La_law_148, fd_La_law_149, fd_La_law_150, fd_La_law_152, fd_La_law_153, fd_La_law_154, fd_La_law_155, fd_La_law_156, fd_La_law_158, g6, g7, n1, e1, i1, e2, i2, e3, i3, e4, i4]
  (try simp only [c1, x1, c2, x2, c3, x3, c4, x4, lg_eq])
  refine am_go [] 9 ?_
  simp only [am_wp, am_stp, am_en, am_as, am_pad, am_nth, am_set, am_st1, am_st2, am_kl, am_kill, am_mem, am_fv, am_tk, am_wt, am_bk, Option.toList, List.cons_append, List.nil_append, Nat.reduceAdd, Nat.reduceEqDiff, Nat.reduceLeDiff, reduceIte, Nat.reduceLT, or_self, true_or, or_true, if_true, if_false, and_self, and_true, true_and, not_false_eq_true, not_true_eq_false, fd_La_law_159, fd_La_law_160, fd_La_law_162, fd_La_law_163, fd_La_law_164, fd_La_law_165, fd_La_law_166, fd_La_law_169, fd_La_law_170, g6, g7, n1, e1, i1, e2, i2, e3, i3, e4, i4]
  (try simp only [c1, x1, c2, x2, c3, x3, c4, x4, lg_eq])
  refine am_go [] 9 ?_
  simp only [am_wp, am_stp, am_en, am_as, am_pad, am_nth, am_set, am_st1, am_st2, am_kl, am_kill, am_mem, am_fv, am_tk, am_wt, am_bk, Option.toList, List.cons_append, List.nil_append, Nat.reduceAdd, Nat.reduceEqDiff, Nat.reduceLeDiff, reduceIte, Nat.reduceLT, or_self, true_or, or_true, if_true, if_false, and_self, and_true, true_and, not_false_eq_true, not_true_eq_false, fd_La_law_171, fd_La_law_172, fd_La_law_174, fd_La_law_175, fd_La_law_176, fd_La_law_177, fd_La_law_178, fd_La_law_180, fd_La_law_181, g6, g7, n1, e1, i1, e2, i2, e3, i3, e4, i4]
  (try simp only [c1, x1, c2, x2, c3, x3, c4, x4, lg_eq])
  refine am_go [] 9 ?_
  simp only [am_wp, am_stp, am_en, am_as, am_pad, am_nth, am_set, am_st1, am_st2, am_kl, am_kill, am_mem, am_fv, am_tk, am_wt, am_bk, Option.toList, List.cons_append, List.nil_append, Nat.reduceAdd, Nat.reduceEqDiff, Nat.reduceLeDiff, reduceIte, Nat.reduceLT, or_self, true_or, or_true, if_true, if_false, and_self, and_true, true_and, not_false_eq_true, not_true_eq_false, fd_La_law_182, fd_La_law_184, fd_La_law_185, fd_La_law_186, fd_La_law_187, fd_La_law_188, fd_La_law_191, fd_La_law_192, fd_La_law_193, g6, g7, n1, e1, i1, e2, i2, e3, i3, e4, i4]
  (try simp only [c1, x1, c2, x2, c3, x3, c4, x4, lg_eq])
  refine am_go [] 1 ?_
  simp only [am_wp, am_stp, am_en, am_as, am_pad, am_nth, am_set, am_st1, am_st2, am_kl, am_kill, am_mem, am_fv, am_tk, am_wt, am_bk, Option.toList, List.cons_append, List.nil_append, Nat.reduceAdd, Nat.reduceEqDiff, Nat.reduceLeDiff, reduceIte, Nat.reduceLT, or_self, true_or, or_true, if_true, if_false, and_self, and_true, true_and, not_false_eq_true, not_true_eq_false, fd_La_law_194, g6, g7, n1, e1, i1, e2, i2, e3, i3, e4, i4]
  (try simp only [c1, x1, c2, x2, c3, x3, c4, x4, lg_eq])
  refine am_call (hA d h G) (fun o h1 q => ?_)
  obtain ⟨k, v, rfl, hC, hv, hM⟩ := q
  simp only [am_wp, am_stp, am_en, am_as, am_pad, am_nth, am_set, am_st1, am_st2, am_kl, am_kill, am_mem, am_fv, am_tk, am_wt, am_bk, Option.toList, List.cons_append, List.nil_append, Nat.reduceAdd, Nat.reduceEqDiff, Nat.reduceLeDiff, reduceIte, Nat.reduceLT, or_self, true_or, or_true, if_true, if_false, and_self, and_true, true_and, not_false_eq_true, not_true_eq_false]
  obtain ⟨b1, b2, b3, -, -⟩ := hC.1 1 (Or.inl (by decide))
  rw [g6] at b1
  rw [g7] at b2
  rw [g8] at b3
  have b4 : am_kd h1 72 = 12 := (hC.1 72 (Or.inr (by decide))).1.trans g5.1.1
  have y1 : am_I h1 1 2 = xs 2 := by rw [b3]
  have y2 : am_I h1 1 3 = xs 3 := by rw [b3]
  have y3 : am_I h1 1 4 = xs 4 := by rw [b3]
  have y4 : am_I h1 1 5 = xs 5 := by rw [b3]
  refine am_go [] 9 ?_
  simp only [am_wp, am_stp, am_en, am_as, am_pad, am_nth, am_set, am_st1, am_st2, am_kl, am_kill, am_mem, am_fv, am_tk, am_wt, am_bk, Option.toList, List.cons_append, List.nil_append, Nat.reduceAdd, Nat.reduceEqDiff, Nat.reduceLeDiff, reduceIte, Nat.reduceLT, or_self, true_or, or_true, if_true, if_false, and_self, and_true, true_and, not_false_eq_true, not_true_eq_false, fd_La_law_197, fd_La_law_199, fd_La_law_200, fd_La_law_201, fd_La_law_203, fd_La_law_204, fd_La_law_205, fd_La_law_206, fd_La_law_207, b1, b2, b4, n1, e1, i1, e2, i2, e3, i3, e4, i4]
  (try simp only [c1, y1, c2, y2, c3, y3, c4, y4, lg_eq])
  refine am_go [] 9 ?_
  simp only [am_wp, am_stp, am_en, am_as, am_pad, am_nth, am_set, am_st1, am_st2, am_kl, am_kill, am_mem, am_fv, am_tk, am_wt, am_bk, Option.toList, List.cons_append, List.nil_append, Nat.reduceAdd, Nat.reduceEqDiff, Nat.reduceLeDiff, reduceIte, Nat.reduceLT, or_self, true_or, or_true, if_true, if_false, and_self, and_true, true_and, not_false_eq_true, not_true_eq_false, fd_La_law_209, fd_La_law_210, fd_La_law_211, fd_La_law_213, fd_La_law_214, fd_La_law_215, fd_La_law_216, fd_La_law_217, fd_La_law_220, b1, b2, b4, n1, e1, i1, e2, i2, e3, i3, e4, i4]
  (try simp only [c1, y1, c2, y2, c3, y3, c4, y4, lg_eq])
  refine am_go [] 9 ?_
  simp only [am_wp, am_stp, am_en, am_as, am_pad, am_nth, am_set, am_st1, am_st2, am_kl, am_kill, am_mem, am_fv, am_tk, am_wt, am_bk, Option.toList, List.cons_append, List.nil_append, Nat.reduceAdd, Nat.reduceEqDiff, Nat.reduceLeDiff, reduceIte, Nat.reduceLT, or_self, true_or, or_true, if_true, if_false, and_self, and_true, true_and, not_false_eq_true, not_true_eq_false, fd_La_law_221, fd_La_law_222, fd_La_law_223, fd_La_law_225, fd_La_law_226, fd_La_law_227, fd_La_law_228, fd_La_law_229, fd_La_law_231, b1, b2, b4, n1, e1, i1, e2, i2, e3, i3, e4, i4]
  (try simp only [c1, y1, c2, y2, c3, y3, c4, y4, lg_eq])
  refine am_go [] 9 ?_
  simp only [am_wp, am_stp, am_en, am_as, am_pad, am_nth, am_set, am_st1, am_st2, am_kl, am_kill, am_mem, am_fv, am_tk, am_wt, am_bk, Option.toList, List.cons_append, List.nil_append, Nat.reduceAdd, Nat.reduceEqDiff, Nat.reduceLeDiff, reduceIte, Nat.reduceLT, or_self, true_or, or_true, if_true, if_false, and_self, and_true, true_and, not_false_eq_true, not_true_eq_false, fd_La_law_232, fd_La_law_233, fd_La_law_235, fd_La_law_236, fd_La_law_237, fd_La_law_238, fd_La_law_239, fd_La_law_242, fd_La_law_243, b1, b2, b4, n1, e1, i1, e2, i2, e3, i3, e4, i4]
  (try simp only [c1, y1, c2, y2, c3, y3, c4, y4, lg_eq])
  refine am_go [] 1 ?_
  simp only [am_wp, am_stp, am_en, am_as, am_pad, am_nth, am_set, am_st1, am_st2, am_kl, am_kill, am_mem, am_fv, am_tk, am_wt, am_bk, Option.toList, List.cons_append, List.nil_append, Nat.reduceAdd, Nat.reduceEqDiff, Nat.reduceLeDiff, reduceIte, Nat.reduceLT, or_self, true_or, or_true, if_true, if_false, and_self, and_true, true_and, not_false_eq_true, not_true_eq_false, fd_La_law_244, b1, b2, b4, n1, e1, i1, e2, i2, e3, i3, e4, i4]
  (try simp only [c1, y1, c2, y2, c3, y3, c4, y4, lg_eq])
  refine am_call hM (fun o h2 q => ?_)
  obtain ⟨b, rfl, hD, hk, hb⟩ := q
  simp only [am_wp, am_stp, am_en, am_as, am_pad, am_nth, am_set, am_st1, am_st2, am_kl, am_kill, am_mem, am_fv, am_tk, am_wt, am_bk, Option.toList, List.cons_append, List.nil_append, Nat.reduceAdd, Nat.reduceEqDiff, Nat.reduceLeDiff, reduceIte, Nat.reduceLT, or_self, true_or, or_true, if_true, if_false, and_self, and_true, true_and, not_false_eq_true, not_true_eq_false]
  obtain ⟨d1, d2, -, -⟩ := hD.1 1 (Or.inl (by decide))
  obtain ⟨q1, q2, -, q4⟩ := hD.1 108 (Or.inr rfl)
  refine tl_put G (hD.2.1.trans b4) hk (q1.trans hC.2.1) (q2.trans hC.2.2.1) (fun e => ?_) (d1.trans b1) (d2.trans b2) ?_ ?_
  · rw [q4, hv e, hb e]
  · have := hD.2.2.1; have := hC.2.2.2.1; omega
  · have := hD.2.2.2; have := hC.2.2.2.2; omega
theorem ox_remove {xs : Nat → Int32} (hA : ∀ (d : Nat) (h : am_H), lw_G 8 xs h → am_Rt nm_pr (d + 12) mi_La_remove [.ref 2, .long (lg_2 (xs 2) (xs 3)), .ref 108] h (fun o h1 => ∃ (k : Int32) (v : Int64), o = .inl (some (.int k)) ∧ lw_C h h1 ∧ (k = 0 → am_L h1 108 0 = v) ∧ am_Rt nm_pr (d + 12) mi_Mo_remove [.ref 72, .long (lg_2 (xs 2) (xs 3))] h1 (fun o2 h2 => ∃ b : Int32, o2 = .inl (some (.int b)) ∧ lw_D h1 h2 ∧ am_I h2 72 0 = k ∧ (k = 0 → v = b.toInt64)))) : lw_op xs 280 := by
  intro d h G
  obtain ⟨g1, g2, g3, g4, g5, g6, g7, g8, g9, g10⟩ := id G
  have n1 : ¬ (99 = 100) := by decide
  have e1 : (1 : Int32) + 1 = nI 2 := by decide
  obtain ⟨i1, c1⟩ := lw_rd 2 (by decide)
  have e2 : (1 : Int32) + 2 = nI 3 := by decide
  obtain ⟨i2, c2⟩ := lw_rd 3 (by decide)
  have x1 : am_I h 1 2 = xs 2 := by rw [g8]
  have x2 : am_I h 1 3 = xs 3 := by rw [g8]
  refine am_go [] 9 ?_
  simp only [am_wp, am_stp, am_en, am_as, am_pad, am_nth, am_set, am_st1, am_st2, am_kl, am_kill, am_mem, am_fv, am_tk, am_wt, am_bk, Option.toList, List.cons_append, List.nil_append, Nat.reduceAdd, Nat.reduceEqDiff, Nat.reduceLeDiff, reduceIte, Nat.reduceLT, or_self, true_or, or_true, if_true, if_false, and_self, and_true, true_and, not_false_eq_true, not_true_eq_false, fd_La_law_280, fd_La_law_281, fd_La_law_282, fd_La_law_284, fd_La_law_285, fd_La_law_286, fd_La_law_287, fd_La_law_288, fd_La_law_290, g6, g7, n1, e1, i1, e2, i2]
  (try simp only [c1, x1, c2, x2, lg_eq])
  refine am_go [] 9 ?_
  simp only [am_wp, am_stp, am_en, am_as, am_pad, am_nth, am_set, am_st1, am_st2, am_kl, am_kill, am_mem, am_fv, am_tk, am_wt, am_bk, Option.toList, List.cons_append, List.nil_append, Nat.reduceAdd, Nat.reduceEqDiff, Nat.reduceLeDiff, reduceIte, Nat.reduceLT, or_self, true_or, or_true, if_true, if_false, and_self, and_true, true_and, not_false_eq_true, not_true_eq_false, fd_La_law_291, fd_La_law_292, fd_La_law_294, fd_La_law_295, fd_La_law_296, fd_La_law_297, fd_La_law_298, fd_La_law_301, fd_La_law_302, g6, g7, n1, e1, i1, e2, i2]
  (try simp only [c1, x1, c2, x2, lg_eq])
  refine am_go [] 2 ?_
  simp only [am_wp, am_stp, am_en, am_as, am_pad, am_nth, am_set, am_st1, am_st2, am_kl, am_kill, am_mem, am_fv, am_tk, am_wt, am_bk, Option.toList, List.cons_append, List.nil_append, Nat.reduceAdd, Nat.reduceEqDiff, Nat.reduceLeDiff, reduceIte, Nat.reduceLT, or_self, true_or, or_true, if_true, if_false, and_self, and_true, true_and, not_false_eq_true, not_true_eq_false, fd_La_law_303, fd_La_law_304, g6, g7, n1, e1, i1, e2, i2]
  (try simp only [c1, x1, c2, x2, lg_eq])
  refine am_call (hA d h G) (fun o h1 q => ?_)
  obtain ⟨k, v, rfl, hC, hv, hM⟩ := q
  simp only [am_wp, am_stp, am_en, am_as, am_pad, am_nth, am_set, am_st1, am_st2, am_kl, am_kill, am_mem, am_fv, am_tk, am_wt, am_bk, Option.toList, List.cons_append, List.nil_append, Nat.reduceAdd, Nat.reduceEqDiff, Nat.reduceLeDiff, reduceIte, Nat.reduceLT, or_self, true_or, or_true, if_true, if_false, and_self, and_true, true_and, not_false_eq_true, not_true_eq_false]
  obtain ⟨b1, b2, b3, -, -⟩ := hC.1 1 (Or.inl (by decide))
  rw [g6] at b1
  rw [g7] at b2
  rw [g8] at b3
  have b4 : am_kd h1 72 = 12 := (hC.1 72 (Or.inr (by decide))).1.trans g5.1.1
  have y1 : am_I h1 1 2 = xs 2 := by rw [b3]
  have y2 : am_I h1 1 3 = xs 3 := by rw [b3]
  refine am_go [] 9 ?_
  simp only [am_wp, am_stp, am_en, am_as, am_pad, am_nth, am_set, am_st1, am_st2, am_kl, am_kill, am_mem, am_fv, am_tk, am_wt, am_bk, Option.toList, List.cons_append, List.nil_append, Nat.reduceAdd, Nat.reduceEqDiff, Nat.reduceLeDiff, reduceIte, Nat.reduceLT, or_self, true_or, or_true, if_true, if_false, and_self, and_true, true_and, not_false_eq_true, not_true_eq_false, fd_La_law_307, fd_La_law_309, fd_La_law_310, fd_La_law_311, fd_La_law_313, fd_La_law_314, fd_La_law_315, fd_La_law_316, fd_La_law_317, b1, b2, b4, n1, e1, i1, e2, i2]
  (try simp only [c1, y1, c2, y2, lg_eq])
  refine am_go [] 9 ?_
  simp only [am_wp, am_stp, am_en, am_as, am_pad, am_nth, am_set, am_st1, am_st2, am_kl, am_kill, am_mem, am_fv, am_tk, am_wt, am_bk, Option.toList, List.cons_append, List.nil_append, Nat.reduceAdd, Nat.reduceEqDiff, Nat.reduceLeDiff, reduceIte, Nat.reduceLT, or_self, true_or, or_true, if_true, if_false, and_self, and_true, true_and, not_false_eq_true, not_true_eq_false, fd_La_law_319, fd_La_law_320, fd_La_law_321, fd_La_law_323, fd_La_law_324, fd_La_law_325, fd_La_law_326, fd_La_law_327, fd_La_law_330, b1, b2, b4, n1, e1, i1, e2, i2]
  (try simp only [c1, y1, c2, y2, lg_eq])
  refine am_go [] 2 ?_
  simp only [am_wp, am_stp, am_en, am_as, am_pad, am_nth, am_set, am_st1, am_st2, am_kl, am_kill, am_mem, am_fv, am_tk, am_wt, am_bk, Option.toList, List.cons_append, List.nil_append, Nat.reduceAdd, Nat.reduceEqDiff, Nat.reduceLeDiff, reduceIte, Nat.reduceLT, or_self, true_or, or_true, if_true, if_false, and_self, and_true, true_and, not_false_eq_true, not_true_eq_false, fd_La_law_331, fd_La_law_332, b1, b2, b4, n1, e1, i1, e2, i2]
  (try simp only [c1, y1, c2, y2, lg_eq])
  refine am_call hM (fun o h2 q => ?_)
  obtain ⟨b, rfl, hD, hk, hb⟩ := q
  simp only [am_wp, am_stp, am_en, am_as, am_pad, am_nth, am_set, am_st1, am_st2, am_kl, am_kill, am_mem, am_fv, am_tk, am_wt, am_bk, Option.toList, List.cons_append, List.nil_append, Nat.reduceAdd, Nat.reduceEqDiff, Nat.reduceLeDiff, reduceIte, Nat.reduceLT, or_self, true_or, or_true, if_true, if_false, and_self, and_true, true_and, not_false_eq_true, not_true_eq_false]
  obtain ⟨d1, d2, -, -⟩ := hD.1 1 (Or.inl (by decide))
  obtain ⟨q1, q2, -, q4⟩ := hD.1 108 (Or.inr rfl)
  refine tl_remove G (hD.2.1.trans b4) hk (q1.trans hC.2.1) (q2.trans hC.2.2.1) (fun e => ?_) (d1.trans b1) (d2.trans b2) ?_ ?_
  · rw [q4, hv e, hb e]
  · have := hD.2.2.1; have := hC.2.2.2.1; omega
  · have := hD.2.2.2; have := hC.2.2.2.2; omega
theorem ox_fold {xs : Nat → Int32} (hA : ∀ (d : Nat) (h : am_H), lw_G 8 xs h → am_Rt nm_pr (d + 12) mi_La_fold [.ref 2, .long (lg_2 (xs 2) (xs 3)), .long (lg_2 (xs 4) (xs 5)), .ref 108] h (fun o h1 => ∃ (k : Int32) (v : Int64), o = .inl (some (.int k)) ∧ lw_C h h1 ∧ (k = 0 → am_L h1 108 0 = v) ∧ am_Rt nm_pr (d + 12) mi_Mo_fold [.ref 72, .long (lg_2 (xs 2) (xs 3)), .long (lg_2 (xs 4) (xs 5))] h1 (fun o2 h2 => ∃ b : Int32, o2 = .inl (some (.int b)) ∧ lw_D h1 h2 ∧ am_I h2 72 0 = k ∧ (k = 0 → v = b.toInt64)))) : lw_op xs 368 := by
  intro d h G
  obtain ⟨g1, g2, g3, g4, g5, g6, g7, g8, g9, g10⟩ := id G
  have n1 : ¬ (99 = 100) := by decide
  have e1 : (1 : Int32) + 1 = nI 2 := by decide
  obtain ⟨i1, c1⟩ := lw_rd 2 (by decide)
  have e2 : (1 : Int32) + 2 = nI 3 := by decide
  obtain ⟨i2, c2⟩ := lw_rd 3 (by decide)
  have e3 : (1 : Int32) + 3 = nI 4 := by decide
  obtain ⟨i3, c3⟩ := lw_rd 4 (by decide)
  have e4 : (1 : Int32) + 4 = nI 5 := by decide
  obtain ⟨i4, c4⟩ := lw_rd 5 (by decide)
  have x1 : am_I h 1 2 = xs 2 := by rw [g8]
  have x2 : am_I h 1 3 = xs 3 := by rw [g8]
  have x3 : am_I h 1 4 = xs 4 := by rw [g8]
  have x4 : am_I h 1 5 = xs 5 := by rw [g8]
  refine am_go [] 9 ?_
  simp only [am_wp, am_stp, am_en, am_as, am_pad, am_nth, am_set, am_st1, am_st2, am_kl, am_kill, am_mem, am_fv, am_tk, am_wt, am_bk, Option.toList, List.cons_append, List.nil_append, Nat.reduceAdd, Nat.reduceEqDiff, Nat.reduceLeDiff, reduceIte, Nat.reduceLT, or_self, true_or, or_true, if_true, if_false, and_self, and_true, true_and, not_false_eq_true, not_true_eq_false, fd_La_law_368, fd_La_law_369, fd_La_law_370, fd_La_law_372, fd_La_law_373, fd_La_law_374, fd_La_law_375, fd_La_law_376, fd_La_law_378, g6, g7, n1, e1, i1, e2, i2, e3, i3, e4, i4]
  (try simp only [c1, x1, c2, x2, c3, x3, c4, x4, lg_eq])
  refine am_go [] 9 ?_
  simp only [am_wp, am_stp, am_en, am_as, am_pad, am_nth, am_set, am_st1, am_st2, am_kl, am_kill, am_mem, am_fv, am_tk, am_wt, am_bk, Option.toList, List.cons_append, List.nil_append, Nat.reduceAdd, Nat.reduceEqDiff, Nat.reduceLeDiff, reduceIte, Nat.reduceLT, or_self, true_or, or_true, if_true, if_false, and_self, and_true, true_and, not_false_eq_true, not_true_eq_false, fd_La_law_379, fd_La_law_380, fd_La_law_382, fd_La_law_383, fd_La_law_384, fd_La_law_385, fd_La_law_386, fd_La_law_389, fd_La_law_390, g6, g7, n1, e1, i1, e2, i2, e3, i3, e4, i4]
  (try simp only [c1, x1, c2, x2, c3, x3, c4, x4, lg_eq])
  refine am_go [] 9 ?_
  simp only [am_wp, am_stp, am_en, am_as, am_pad, am_nth, am_set, am_st1, am_st2, am_kl, am_kill, am_mem, am_fv, am_tk, am_wt, am_bk, Option.toList, List.cons_append, List.nil_append, Nat.reduceAdd, Nat.reduceEqDiff, Nat.reduceLeDiff, reduceIte, Nat.reduceLT, or_self, true_or, or_true, if_true, if_false, and_self, and_true, true_and, not_false_eq_true, not_true_eq_false, fd_La_law_391, fd_La_law_392, fd_La_law_394, fd_La_law_395, fd_La_law_396, fd_La_law_397, fd_La_law_398, fd_La_law_400, fd_La_law_401, g6, g7, n1, e1, i1, e2, i2, e3, i3, e4, i4]
  (try simp only [c1, x1, c2, x2, c3, x3, c4, x4, lg_eq])
  refine am_go [] 9 ?_
  simp only [am_wp, am_stp, am_en, am_as, am_pad, am_nth, am_set, am_st1, am_st2, am_kl, am_kill, am_mem, am_fv, am_tk, am_wt, am_bk, Option.toList, List.cons_append, List.nil_append, Nat.reduceAdd, Nat.reduceEqDiff, Nat.reduceLeDiff, reduceIte, Nat.reduceLT, or_self, true_or, or_true, if_true, if_false, and_self, and_true, true_and, not_false_eq_true, not_true_eq_false, fd_La_law_402, fd_La_law_404, fd_La_law_405, fd_La_law_406, fd_La_law_407, fd_La_law_408, fd_La_law_411, fd_La_law_412, fd_La_law_413, g6, g7, n1, e1, i1, e2, i2, e3, i3, e4, i4]
  (try simp only [c1, x1, c2, x2, c3, x3, c4, x4, lg_eq])
  refine am_go [] 1 ?_
  simp only [am_wp, am_stp, am_en, am_as, am_pad, am_nth, am_set, am_st1, am_st2, am_kl, am_kill, am_mem, am_fv, am_tk, am_wt, am_bk, Option.toList, List.cons_append, List.nil_append, Nat.reduceAdd, Nat.reduceEqDiff, Nat.reduceLeDiff, reduceIte, Nat.reduceLT, or_self, true_or, or_true, if_true, if_false, and_self, and_true, true_and, not_false_eq_true, not_true_eq_false, fd_La_law_414, g6, g7, n1, e1, i1, e2, i2, e3, i3, e4, i4]
  (try simp only [c1, x1, c2, x2, c3, x3, c4, x4, lg_eq])
  refine am_call (hA d h G) (fun o h1 q => ?_)
  obtain ⟨k, v, rfl, hC, hv, hM⟩ := q
  simp only [am_wp, am_stp, am_en, am_as, am_pad, am_nth, am_set, am_st1, am_st2, am_kl, am_kill, am_mem, am_fv, am_tk, am_wt, am_bk, Option.toList, List.cons_append, List.nil_append, Nat.reduceAdd, Nat.reduceEqDiff, Nat.reduceLeDiff, reduceIte, Nat.reduceLT, or_self, true_or, or_true, if_true, if_false, and_self, and_true, true_and, not_false_eq_true, not_true_eq_false]
  obtain ⟨b1, b2, b3, -, -⟩ := hC.1 1 (Or.inl (by decide))
  rw [g6] at b1
  rw [g7] at b2
  rw [g8] at b3
  have b4 : am_kd h1 72 = 12 := (hC.1 72 (Or.inr (by decide))).1.trans g5.1.1
  have y1 : am_I h1 1 2 = xs 2 := by rw [b3]
  have y2 : am_I h1 1 3 = xs 3 := by rw [b3]
  have y3 : am_I h1 1 4 = xs 4 := by rw [b3]
  have y4 : am_I h1 1 5 = xs 5 := by rw [b3]
  refine am_go [] 9 ?_
  simp only [am_wp, am_stp, am_en, am_as, am_pad, am_nth, am_set, am_st1, am_st2, am_kl, am_kill, am_mem, am_fv, am_tk, am_wt, am_bk, Option.toList, List.cons_append, List.nil_append, Nat.reduceAdd, Nat.reduceEqDiff, Nat.reduceLeDiff, reduceIte, Nat.reduceLT, or_self, true_or, or_true, if_true, if_false, and_self, and_true, true_and, not_false_eq_true, not_true_eq_false, fd_La_law_417, fd_La_law_419, fd_La_law_420, fd_La_law_421, fd_La_law_423, fd_La_law_424, fd_La_law_425, fd_La_law_426, fd_La_law_427, b1, b2, b4, n1, e1, i1, e2, i2, e3, i3, e4, i4]
  (try simp only [c1, y1, c2, y2, c3, y3, c4, y4, lg_eq])
  refine am_go [] 9 ?_
  simp only [am_wp, am_stp, am_en, am_as, am_pad, am_nth, am_set, am_st1, am_st2, am_kl, am_kill, am_mem, am_fv, am_tk, am_wt, am_bk, Option.toList, List.cons_append, List.nil_append, Nat.reduceAdd, Nat.reduceEqDiff, Nat.reduceLeDiff, reduceIte, Nat.reduceLT, or_self, true_or, or_true, if_true, if_false, and_self, and_true, true_and, not_false_eq_true, not_true_eq_false, fd_La_law_429, fd_La_law_430, fd_La_law_431, fd_La_law_433, fd_La_law_434, fd_La_law_435, fd_La_law_436, fd_La_law_437, fd_La_law_440, b1, b2, b4, n1, e1, i1, e2, i2, e3, i3, e4, i4]
  (try simp only [c1, y1, c2, y2, c3, y3, c4, y4, lg_eq])
  refine am_go [] 9 ?_
  simp only [am_wp, am_stp, am_en, am_as, am_pad, am_nth, am_set, am_st1, am_st2, am_kl, am_kill, am_mem, am_fv, am_tk, am_wt, am_bk, Option.toList, List.cons_append, List.nil_append, Nat.reduceAdd, Nat.reduceEqDiff, Nat.reduceLeDiff, reduceIte, Nat.reduceLT, or_self, true_or, or_true, if_true, if_false, and_self, and_true, true_and, not_false_eq_true, not_true_eq_false, fd_La_law_441, fd_La_law_442, fd_La_law_443, fd_La_law_445, fd_La_law_446, fd_La_law_447, fd_La_law_448, fd_La_law_449, fd_La_law_451, b1, b2, b4, n1, e1, i1, e2, i2, e3, i3, e4, i4]
  (try simp only [c1, y1, c2, y2, c3, y3, c4, y4, lg_eq])
  refine am_go [] 9 ?_
  simp only [am_wp, am_stp, am_en, am_as, am_pad, am_nth, am_set, am_st1, am_st2, am_kl, am_kill, am_mem, am_fv, am_tk, am_wt, am_bk, Option.toList, List.cons_append, List.nil_append, Nat.reduceAdd, Nat.reduceEqDiff, Nat.reduceLeDiff, reduceIte, Nat.reduceLT, or_self, true_or, or_true, if_true, if_false, and_self, and_true, true_and, not_false_eq_true, not_true_eq_false, fd_La_law_452, fd_La_law_453, fd_La_law_455, fd_La_law_456, fd_La_law_457, fd_La_law_458, fd_La_law_459, fd_La_law_462, fd_La_law_463, b1, b2, b4, n1, e1, i1, e2, i2, e3, i3, e4, i4]
  (try simp only [c1, y1, c2, y2, c3, y3, c4, y4, lg_eq])
  refine am_go [] 1 ?_
  simp only [am_wp, am_stp, am_en, am_as, am_pad, am_nth, am_set, am_st1, am_st2, am_kl, am_kill, am_mem, am_fv, am_tk, am_wt, am_bk, Option.toList, List.cons_append, List.nil_append, Nat.reduceAdd, Nat.reduceEqDiff, Nat.reduceLeDiff, reduceIte, Nat.reduceLT, or_self, true_or, or_true, if_true, if_false, and_self, and_true, true_and, not_false_eq_true, not_true_eq_false, fd_La_law_464, b1, b2, b4, n1, e1, i1, e2, i2, e3, i3, e4, i4]
  (try simp only [c1, y1, c2, y2, c3, y3, c4, y4, lg_eq])
  refine am_call hM (fun o h2 q => ?_)
  obtain ⟨b, rfl, hD, hk, hb⟩ := q
  simp only [am_wp, am_stp, am_en, am_as, am_pad, am_nth, am_set, am_st1, am_st2, am_kl, am_kill, am_mem, am_fv, am_tk, am_wt, am_bk, Option.toList, List.cons_append, List.nil_append, Nat.reduceAdd, Nat.reduceEqDiff, Nat.reduceLeDiff, reduceIte, Nat.reduceLT, or_self, true_or, or_true, if_true, if_false, and_self, and_true, true_and, not_false_eq_true, not_true_eq_false]
  obtain ⟨d1, d2, -, -⟩ := hD.1 1 (Or.inl (by decide))
  obtain ⟨q1, q2, -, q4⟩ := hD.1 108 (Or.inr rfl)
  refine tl_fold G (hD.2.1.trans b4) hk (q1.trans hC.2.1) (q2.trans hC.2.2.1) (fun e => ?_) (d1.trans b1) (d2.trans b2) ?_ ?_
  · rw [q4, hv e, hb e]
  · have := hD.2.2.1; have := hC.2.2.2.1; omega
  · have := hD.2.2.2; have := hC.2.2.2.2; omega
theorem ox_many {xs : Nat → Int32} (hA : ∀ (d : Nat) (h : am_H), lw_G 8 xs h → am_Rt nm_pr (d + 12) mi_La_many [.ref 2, .int (xs 2), .int (xs 3), .long (lg_2 (xs 4) (xs 5)), .long (lg_2 (xs 6) (xs 7)), .ref 108] h (fun o h1 => ∃ (k : Int32) (v : Int64), o = .inl (some (.int k)) ∧ lw_C h h1 ∧ (k = 0 → am_L h1 108 0 = v) ∧ am_Rt nm_pr (d + 12) mi_Mo_many [.ref 72, .int (xs 2), .int (xs 3), .long (lg_2 (xs 4) (xs 5)), .long (lg_2 (xs 6) (xs 7))] h1 (fun o2 h2 => ∃ b : Int32, o2 = .inl (some (.int b)) ∧ lw_D h1 h2 ∧ am_I h2 72 0 = k ∧ (k = 0 → v = b.toInt64)))) : lw_op xs 500 := by
  intro d h G
  obtain ⟨g1, g2, g3, g4, g5, g6, g7, g8, g9, g10⟩ := id G
  have n1 : ¬ (99 = 100) := by decide
  have e1 : (1 : Int32) + 1 = nI 2 := by decide
  obtain ⟨i1, c1⟩ := lw_rd 2 (by decide)
  have e2 : (1 : Int32) + 2 = nI 3 := by decide
  obtain ⟨i2, c2⟩ := lw_rd 3 (by decide)
  have e3 : (1 : Int32) + 3 = nI 4 := by decide
  obtain ⟨i3, c3⟩ := lw_rd 4 (by decide)
  have e4 : (1 : Int32) + 4 = nI 5 := by decide
  obtain ⟨i4, c4⟩ := lw_rd 5 (by decide)
  have e5 : (1 : Int32) + 5 = nI 6 := by decide
  obtain ⟨i5, c5⟩ := lw_rd 6 (by decide)
  have e6 : (1 : Int32) + 6 = nI 7 := by decide
  obtain ⟨i6, c6⟩ := lw_rd 7 (by decide)
  have x1 : am_I h 1 2 = xs 2 := by rw [g8]
  have x2 : am_I h 1 3 = xs 3 := by rw [g8]
  have x3 : am_I h 1 4 = xs 4 := by rw [g8]
  have x4 : am_I h 1 5 = xs 5 := by rw [g8]
  have x5 : am_I h 1 6 = xs 6 := by rw [g8]
  have x6 : am_I h 1 7 = xs 7 := by rw [g8]
  refine am_go [] 9 ?_
  simp only [am_wp, am_stp, am_en, am_as, am_pad, am_nth, am_set, am_st1, am_st2, am_kl, am_kill, am_mem, am_fv, am_tk, am_wt, am_bk, Option.toList, List.cons_append, List.nil_append, Nat.reduceAdd, Nat.reduceEqDiff, Nat.reduceLeDiff, reduceIte, Nat.reduceLT, or_self, true_or, or_true, if_true, if_false, and_self, and_true, true_and, not_false_eq_true, not_true_eq_false, fd_La_law_500, fd_La_law_501, fd_La_law_502, fd_La_law_504, fd_La_law_505, fd_La_law_506, fd_La_law_507, fd_La_law_508, fd_La_law_510, g6, g7, n1, e1, i1, e2, i2, e3, i3, e4, i4, e5, i5, e6, i6]
  (try simp only [c1, x1, c2, x2, c3, x3, c4, x4, c5, x5, c6, x6, lg_eq])
  refine am_go [] 9 ?_
  simp only [am_wp, am_stp, am_en, am_as, am_pad, am_nth, am_set, am_st1, am_st2, am_kl, am_kill, am_mem, am_fv, am_tk, am_wt, am_bk, Option.toList, List.cons_append, List.nil_append, Nat.reduceAdd, Nat.reduceEqDiff, Nat.reduceLeDiff, reduceIte, Nat.reduceLT, or_self, true_or, or_true, if_true, if_false, and_self, and_true, true_and, not_false_eq_true, not_true_eq_false, fd_La_law_511, fd_La_law_512, fd_La_law_513, fd_La_law_514, fd_La_law_516, fd_La_law_517, fd_La_law_518, fd_La_law_519, fd_La_law_520, g6, g7, n1, e1, i1, e2, i2, e3, i3, e4, i4, e5, i5, e6, i6]
  (try simp only [c1, x1, c2, x2, c3, x3, c4, x4, c5, x5, c6, x6, lg_eq])
  refine am_go [] 9 ?_
  simp only [am_wp, am_stp, am_en, am_as, am_pad, am_nth, am_set, am_st1, am_st2, am_kl, am_kill, am_mem, am_fv, am_tk, am_wt, am_bk, Option.toList, List.cons_append, List.nil_append, Nat.reduceAdd, Nat.reduceEqDiff, Nat.reduceLeDiff, reduceIte, Nat.reduceLT, or_self, true_or, or_true, if_true, if_false, and_self, and_true, true_and, not_false_eq_true, not_true_eq_false, fd_La_law_522, fd_La_law_523, fd_La_law_524, fd_La_law_526, fd_La_law_527, fd_La_law_528, fd_La_law_529, fd_La_law_530, fd_La_law_533, g6, g7, n1, e1, i1, e2, i2, e3, i3, e4, i4, e5, i5, e6, i6]
  (try simp only [c1, x1, c2, x2, c3, x3, c4, x4, c5, x5, c6, x6, lg_eq])
  refine am_go [] 9 ?_
  simp only [am_wp, am_stp, am_en, am_as, am_pad, am_nth, am_set, am_st1, am_st2, am_kl, am_kill, am_mem, am_fv, am_tk, am_wt, am_bk, Option.toList, List.cons_append, List.nil_append, Nat.reduceAdd, Nat.reduceEqDiff, Nat.reduceLeDiff, reduceIte, Nat.reduceLT, or_self, true_or, or_true, if_true, if_false, and_self, and_true, true_and, not_false_eq_true, not_true_eq_false, fd_La_law_534, fd_La_law_535, fd_La_law_536, fd_La_law_538, fd_La_law_539, fd_La_law_540, fd_La_law_541, fd_La_law_542, fd_La_law_544, g6, g7, n1, e1, i1, e2, i2, e3, i3, e4, i4, e5, i5, e6, i6]
  (try simp only [c1, x1, c2, x2, c3, x3, c4, x4, c5, x5, c6, x6, lg_eq])
  refine am_go [] 9 ?_
  simp only [am_wp, am_stp, am_en, am_as, am_pad, am_nth, am_set, am_st1, am_st2, am_kl, am_kill, am_mem, am_fv, am_tk, am_wt, am_bk, Option.toList, List.cons_append, List.nil_append, Nat.reduceAdd, Nat.reduceEqDiff, Nat.reduceLeDiff, reduceIte, Nat.reduceLT, or_self, true_or, or_true, if_true, if_false, and_self, and_true, true_and, not_false_eq_true, not_true_eq_false, fd_La_law_545, fd_La_law_546, fd_La_law_548, fd_La_law_550, fd_La_law_551, fd_La_law_552, fd_La_law_553, fd_La_law_556, fd_La_law_557, g6, g7, n1, e1, i1, e2, i2, e3, i3, e4, i4, e5, i5, e6, i6]
  (try simp only [c1, x1, c2, x2, c3, x3, c4, x4, c5, x5, c6, x6, lg_eq])
  refine am_go [] 2 ?_
  simp only [am_wp, am_stp, am_en, am_as, am_pad, am_nth, am_set, am_st1, am_st2, am_kl, am_kill, am_mem, am_fv, am_tk, am_wt, am_bk, Option.toList, List.cons_append, List.nil_append, Nat.reduceAdd, Nat.reduceEqDiff, Nat.reduceLeDiff, reduceIte, Nat.reduceLT, or_self, true_or, or_true, if_true, if_false, and_self, and_true, true_and, not_false_eq_true, not_true_eq_false, fd_La_law_558, fd_La_law_559, g6, g7, n1, e1, i1, e2, i2, e3, i3, e4, i4, e5, i5, e6, i6]
  (try simp only [c1, x1, c2, x2, c3, x3, c4, x4, c5, x5, c6, x6, lg_eq])
  refine am_call (hA d h G) (fun o h1 q => ?_)
  obtain ⟨k, v, rfl, hC, hv, hM⟩ := q
  simp only [am_wp, am_stp, am_en, am_as, am_pad, am_nth, am_set, am_st1, am_st2, am_kl, am_kill, am_mem, am_fv, am_tk, am_wt, am_bk, Option.toList, List.cons_append, List.nil_append, Nat.reduceAdd, Nat.reduceEqDiff, Nat.reduceLeDiff, reduceIte, Nat.reduceLT, or_self, true_or, or_true, if_true, if_false, and_self, and_true, true_and, not_false_eq_true, not_true_eq_false]
  obtain ⟨b1, b2, b3, -, -⟩ := hC.1 1 (Or.inl (by decide))
  rw [g6] at b1
  rw [g7] at b2
  rw [g8] at b3
  have b4 : am_kd h1 72 = 12 := (hC.1 72 (Or.inr (by decide))).1.trans g5.1.1
  have y1 : am_I h1 1 2 = xs 2 := by rw [b3]
  have y2 : am_I h1 1 3 = xs 3 := by rw [b3]
  have y3 : am_I h1 1 4 = xs 4 := by rw [b3]
  have y4 : am_I h1 1 5 = xs 5 := by rw [b3]
  have y5 : am_I h1 1 6 = xs 6 := by rw [b3]
  have y6 : am_I h1 1 7 = xs 7 := by rw [b3]
  refine am_go [] 9 ?_
  simp only [am_wp, am_stp, am_en, am_as, am_pad, am_nth, am_set, am_st1, am_st2, am_kl, am_kill, am_mem, am_fv, am_tk, am_wt, am_bk, Option.toList, List.cons_append, List.nil_append, Nat.reduceAdd, Nat.reduceEqDiff, Nat.reduceLeDiff, reduceIte, Nat.reduceLT, or_self, true_or, or_true, if_true, if_false, and_self, and_true, true_and, not_false_eq_true, not_true_eq_false, fd_La_law_562, fd_La_law_564, fd_La_law_565, fd_La_law_566, fd_La_law_568, fd_La_law_569, fd_La_law_570, fd_La_law_571, fd_La_law_572, b1, b2, b4, n1, e1, i1, e2, i2, e3, i3, e4, i4, e5, i5, e6, i6]
  (try simp only [c1, y1, c2, y2, c3, y3, c4, y4, c5, y5, c6, y6, lg_eq])
  refine am_go [] 9 ?_
  simp only [am_wp, am_stp, am_en, am_as, am_pad, am_nth, am_set, am_st1, am_st2, am_kl, am_kill, am_mem, am_fv, am_tk, am_wt, am_bk, Option.toList, List.cons_append, List.nil_append, Nat.reduceAdd, Nat.reduceEqDiff, Nat.reduceLeDiff, reduceIte, Nat.reduceLT, or_self, true_or, or_true, if_true, if_false, and_self, and_true, true_and, not_false_eq_true, not_true_eq_false, fd_La_law_574, fd_La_law_575, fd_La_law_576, fd_La_law_577, fd_La_law_578, fd_La_law_580, fd_La_law_581, fd_La_law_582, fd_La_law_583, b1, b2, b4, n1, e1, i1, e2, i2, e3, i3, e4, i4, e5, i5, e6, i6]
  (try simp only [c1, y1, c2, y2, c3, y3, c4, y4, c5, y5, c6, y6, lg_eq])
  refine am_go [] 9 ?_
  simp only [am_wp, am_stp, am_en, am_as, am_pad, am_nth, am_set, am_st1, am_st2, am_kl, am_kill, am_mem, am_fv, am_tk, am_wt, am_bk, Option.toList, List.cons_append, List.nil_append, Nat.reduceAdd, Nat.reduceEqDiff, Nat.reduceLeDiff, reduceIte, Nat.reduceLT, or_self, true_or, or_true, if_true, if_false, and_self, and_true, true_and, not_false_eq_true, not_true_eq_false, fd_La_law_584, fd_La_law_586, fd_La_law_587, fd_La_law_588, fd_La_law_590, fd_La_law_591, fd_La_law_592, fd_La_law_593, fd_La_law_594, b1, b2, b4, n1, e1, i1, e2, i2, e3, i3, e4, i4, e5, i5, e6, i6]
  (try simp only [c1, y1, c2, y2, c3, y3, c4, y4, c5, y5, c6, y6, lg_eq])
  refine am_go [] 9 ?_
  simp only [am_wp, am_stp, am_en, am_as, am_pad, am_nth, am_set, am_st1, am_st2, am_kl, am_kill, am_mem, am_fv, am_tk, am_wt, am_bk, Option.toList, List.cons_append, List.nil_append, Nat.reduceAdd, Nat.reduceEqDiff, Nat.reduceLeDiff, reduceIte, Nat.reduceLT, or_self, true_or, or_true, if_true, if_false, and_self, and_true, true_and, not_false_eq_true, not_true_eq_false, fd_La_law_597, fd_La_law_598, fd_La_law_599, fd_La_law_600, fd_La_law_602, fd_La_law_603, fd_La_law_604, fd_La_law_605, fd_La_law_606, b1, b2, b4, n1, e1, i1, e2, i2, e3, i3, e4, i4, e5, i5, e6, i6]
  (try simp only [c1, y1, c2, y2, c3, y3, c4, y4, c5, y5, c6, y6, lg_eq])
  refine am_go [] 9 ?_
  simp only [am_wp, am_stp, am_en, am_as, am_pad, am_nth, am_set, am_st1, am_st2, am_kl, am_kill, am_mem, am_fv, am_tk, am_wt, am_bk, Option.toList, List.cons_append, List.nil_append, Nat.reduceAdd, Nat.reduceEqDiff, Nat.reduceLeDiff, reduceIte, Nat.reduceLT, or_self, true_or, or_true, if_true, if_false, and_self, and_true, true_and, not_false_eq_true, not_true_eq_false, fd_La_law_608, fd_La_law_609, fd_La_law_610, fd_La_law_612, fd_La_law_614, fd_La_law_615, fd_La_law_616, fd_La_law_617, fd_La_law_620, b1, b2, b4, n1, e1, i1, e2, i2, e3, i3, e4, i4, e5, i5, e6, i6]
  (try simp only [c1, y1, c2, y2, c3, y3, c4, y4, c5, y5, c6, y6, lg_eq])
  refine am_go [] 2 ?_
  simp only [am_wp, am_stp, am_en, am_as, am_pad, am_nth, am_set, am_st1, am_st2, am_kl, am_kill, am_mem, am_fv, am_tk, am_wt, am_bk, Option.toList, List.cons_append, List.nil_append, Nat.reduceAdd, Nat.reduceEqDiff, Nat.reduceLeDiff, reduceIte, Nat.reduceLT, or_self, true_or, or_true, if_true, if_false, and_self, and_true, true_and, not_false_eq_true, not_true_eq_false, fd_La_law_621, fd_La_law_622, b1, b2, b4, n1, e1, i1, e2, i2, e3, i3, e4, i4, e5, i5, e6, i6]
  (try simp only [c1, y1, c2, y2, c3, y3, c4, y4, c5, y5, c6, y6, lg_eq])
  refine am_call hM (fun o h2 q => ?_)
  obtain ⟨b, rfl, hD, hk, hb⟩ := q
  simp only [am_wp, am_stp, am_en, am_as, am_pad, am_nth, am_set, am_st1, am_st2, am_kl, am_kill, am_mem, am_fv, am_tk, am_wt, am_bk, Option.toList, List.cons_append, List.nil_append, Nat.reduceAdd, Nat.reduceEqDiff, Nat.reduceLeDiff, reduceIte, Nat.reduceLT, or_self, true_or, or_true, if_true, if_false, and_self, and_true, true_and, not_false_eq_true, not_true_eq_false]
  obtain ⟨d1, d2, -, -⟩ := hD.1 1 (Or.inl (by decide))
  obtain ⟨q1, q2, -, q4⟩ := hD.1 108 (Or.inr rfl)
  refine tl_many G (hD.2.1.trans b4) hk (q1.trans hC.2.1) (q2.trans hC.2.2.1) (fun e => ?_) (d1.trans b1) (d2.trans b2) ?_ ?_
  · rw [q4, hv e, hb e]
  · have := hD.2.2.1; have := hC.2.2.2.1; omega
  · have := hD.2.2.2; have := hC.2.2.2.2; omega
theorem ox_flush {xs : Nat → Int32} (hA : ∀ (d : Nat) (h : am_H), lw_G 8 xs h → am_Rt nm_pr (d + 12) mi_La_flush [.ref 2, .ref 108] h (fun o h1 => ∃ (k : Int32) (v : Int64), o = .inl (some (.int k)) ∧ lw_C h h1 ∧ (k = 0 → am_L h1 108 0 = v) ∧ am_Rt nm_pr (d + 12) mi_Mo_flush [.ref 72] h1 (fun o2 h2 => ∃ b : Int32, o2 = .inl (some (.int b)) ∧ lw_D h1 h2 ∧ am_I h2 72 0 = k ∧ (k = 0 → v = b.toInt64)))) : lw_op xs 658 := by
  intro d h G
  obtain ⟨g1, g2, g3, g4, g5, g6, g7, g8, g9, g10⟩ := id G
  have n1 : ¬ (99 = 100) := by decide
  refine am_go [] 3 ?_
  simp only [am_wp, am_stp, am_en, am_as, am_pad, am_nth, am_set, am_st1, am_st2, am_kl, am_kill, am_mem, am_fv, am_tk, am_wt, am_bk, Option.toList, List.cons_append, List.nil_append, Nat.reduceAdd, Nat.reduceEqDiff, Nat.reduceLeDiff, reduceIte, Nat.reduceLT, or_self, true_or, or_true, if_true, if_false, and_self, and_true, true_and, not_false_eq_true, not_true_eq_false, fd_La_law_658, fd_La_law_659, fd_La_law_660, g6, g7, n1]
  refine am_call (hA d h G) (fun o h1 q => ?_)
  obtain ⟨k, v, rfl, hC, hv, hM⟩ := q
  simp only [am_wp, am_stp, am_en, am_as, am_pad, am_nth, am_set, am_st1, am_st2, am_kl, am_kill, am_mem, am_fv, am_tk, am_wt, am_bk, Option.toList, List.cons_append, List.nil_append, Nat.reduceAdd, Nat.reduceEqDiff, Nat.reduceLeDiff, reduceIte, Nat.reduceLT, or_self, true_or, or_true, if_true, if_false, and_self, and_true, true_and, not_false_eq_true, not_true_eq_false]
  obtain ⟨b1, b2, b3, -, -⟩ := hC.1 1 (Or.inl (by decide))
  rw [g6] at b1
  rw [g7] at b2
  rw [g8] at b3
  have b4 : am_kd h1 72 = 12 := (hC.1 72 (Or.inr (by decide))).1.trans g5.1.1
  refine am_go [] 3 ?_
  simp only [am_wp, am_stp, am_en, am_as, am_pad, am_nth, am_set, am_st1, am_st2, am_kl, am_kill, am_mem, am_fv, am_tk, am_wt, am_bk, Option.toList, List.cons_append, List.nil_append, Nat.reduceAdd, Nat.reduceEqDiff, Nat.reduceLeDiff, reduceIte, Nat.reduceLT, or_self, true_or, or_true, if_true, if_false, and_self, and_true, true_and, not_false_eq_true, not_true_eq_false, fd_La_law_663, fd_La_law_665, fd_La_law_666, b1, b2, b4, n1]
  refine am_call hM (fun o h2 q => ?_)
  obtain ⟨b, rfl, hD, hk, hb⟩ := q
  simp only [am_wp, am_stp, am_en, am_as, am_pad, am_nth, am_set, am_st1, am_st2, am_kl, am_kill, am_mem, am_fv, am_tk, am_wt, am_bk, Option.toList, List.cons_append, List.nil_append, Nat.reduceAdd, Nat.reduceEqDiff, Nat.reduceLeDiff, reduceIte, Nat.reduceLT, or_self, true_or, or_true, if_true, if_false, and_self, and_true, true_and, not_false_eq_true, not_true_eq_false]
  obtain ⟨d1, d2, -, -⟩ := hD.1 1 (Or.inl (by decide))
  obtain ⟨q1, q2, -, q4⟩ := hD.1 108 (Or.inr rfl)
  refine tl_flush G (hD.2.1.trans b4) hk (q1.trans hC.2.1) (q2.trans hC.2.2.1) (fun e => ?_) (d1.trans b1) (d2.trans b2) ?_ ?_
  · rw [q4, hv e, hb e]
  · have := hD.2.2.1; have := hC.2.2.2.1; omega
  · have := hD.2.2.2; have := hC.2.2.2.2; omega
theorem ox_merge {xs : Nat → Int32} (hA : ∀ (d : Nat) (h : am_H), lw_G 8 xs h → am_Rt nm_pr (d + 12) mi_La_merge [.ref 2, .ref 108] h (fun o h1 => ∃ (k : Int32) (v : Int64), o = .inl (some (.int k)) ∧ lw_C h h1 ∧ (k = 0 → am_L h1 108 0 = v) ∧ am_Rt nm_pr (d + 12) mi_Mo_merge [.ref 72] h1 (fun o2 h2 => ∃ b : Int32, o2 = .inl (some (.int b)) ∧ lw_D h1 h2 ∧ am_I h2 72 0 = k ∧ (k = 0 → v = b.toInt64)))) : lw_op xs 702 := by
  intro d h G
  obtain ⟨g1, g2, g3, g4, g5, g6, g7, g8, g9, g10⟩ := id G
  have n1 : ¬ (99 = 100) := by decide
  refine am_go [] 3 ?_
  simp only [am_wp, am_stp, am_en, am_as, am_pad, am_nth, am_set, am_st1, am_st2, am_kl, am_kill, am_mem, am_fv, am_tk, am_wt, am_bk, Option.toList, List.cons_append, List.nil_append, Nat.reduceAdd, Nat.reduceEqDiff, Nat.reduceLeDiff, reduceIte, Nat.reduceLT, or_self, true_or, or_true, if_true, if_false, and_self, and_true, true_and, not_false_eq_true, not_true_eq_false, fd_La_law_702, fd_La_law_703, fd_La_law_704, g6, g7, n1]
  refine am_call (hA d h G) (fun o h1 q => ?_)
  obtain ⟨k, v, rfl, hC, hv, hM⟩ := q
  simp only [am_wp, am_stp, am_en, am_as, am_pad, am_nth, am_set, am_st1, am_st2, am_kl, am_kill, am_mem, am_fv, am_tk, am_wt, am_bk, Option.toList, List.cons_append, List.nil_append, Nat.reduceAdd, Nat.reduceEqDiff, Nat.reduceLeDiff, reduceIte, Nat.reduceLT, or_self, true_or, or_true, if_true, if_false, and_self, and_true, true_and, not_false_eq_true, not_true_eq_false]
  obtain ⟨b1, b2, b3, -, -⟩ := hC.1 1 (Or.inl (by decide))
  rw [g6] at b1
  rw [g7] at b2
  rw [g8] at b3
  have b4 : am_kd h1 72 = 12 := (hC.1 72 (Or.inr (by decide))).1.trans g5.1.1
  refine am_go [] 3 ?_
  simp only [am_wp, am_stp, am_en, am_as, am_pad, am_nth, am_set, am_st1, am_st2, am_kl, am_kill, am_mem, am_fv, am_tk, am_wt, am_bk, Option.toList, List.cons_append, List.nil_append, Nat.reduceAdd, Nat.reduceEqDiff, Nat.reduceLeDiff, reduceIte, Nat.reduceLT, or_self, true_or, or_true, if_true, if_false, and_self, and_true, true_and, not_false_eq_true, not_true_eq_false, fd_La_law_707, fd_La_law_709, fd_La_law_710, b1, b2, b4, n1]
  refine am_call hM (fun o h2 q => ?_)
  obtain ⟨b, rfl, hD, hk, hb⟩ := q
  simp only [am_wp, am_stp, am_en, am_as, am_pad, am_nth, am_set, am_st1, am_st2, am_kl, am_kill, am_mem, am_fv, am_tk, am_wt, am_bk, Option.toList, List.cons_append, List.nil_append, Nat.reduceAdd, Nat.reduceEqDiff, Nat.reduceLeDiff, reduceIte, Nat.reduceLT, or_self, true_or, or_true, if_true, if_false, and_self, and_true, true_and, not_false_eq_true, not_true_eq_false]
  obtain ⟨d1, d2, -, -⟩ := hD.1 1 (Or.inl (by decide))
  obtain ⟨q1, q2, -, q4⟩ := hD.1 108 (Or.inr rfl)
  refine tl_merge G (hD.2.1.trans b4) hk (q1.trans hC.2.1) (q2.trans hC.2.2.1) (fun e => ?_) (d1.trans b1) (d2.trans b2) ?_ ?_
  · rw [q4, hv e, hb e]
  · have := hD.2.2.1; have := hC.2.2.2.1; omega
  · have := hD.2.2.2; have := hC.2.2.2.2; omega
theorem ox_mark {xs : Nat → Int32} (hA : ∀ (d : Nat) (h : am_H), lw_G 8 xs h → am_Rt nm_pr (d + 12) mi_La_mark [.ref 2, .ref 108] h (fun o h1 => ∃ (k : Int32) (v : Int64), o = .inl (some (.int k)) ∧ lw_C h h1 ∧ (k = 0 → am_L h1 108 0 = v) ∧ am_Rt nm_pr (d + 12) mi_Mo_mark [.ref 72] h1 (fun o2 h2 => ∃ b : Int32, o2 = .inl (some (.int b)) ∧ lw_D h1 h2 ∧ am_I h2 72 0 = k ∧ (k = 0 → v = b.toInt64)))) : lw_op xs 746 := by
  intro d h G
  obtain ⟨g1, g2, g3, g4, g5, g6, g7, g8, g9, g10⟩ := id G
  have n1 : ¬ (99 = 100) := by decide
  refine am_go [] 3 ?_
  simp only [am_wp, am_stp, am_en, am_as, am_pad, am_nth, am_set, am_st1, am_st2, am_kl, am_kill, am_mem, am_fv, am_tk, am_wt, am_bk, Option.toList, List.cons_append, List.nil_append, Nat.reduceAdd, Nat.reduceEqDiff, Nat.reduceLeDiff, reduceIte, Nat.reduceLT, or_self, true_or, or_true, if_true, if_false, and_self, and_true, true_and, not_false_eq_true, not_true_eq_false, fd_La_law_746, fd_La_law_747, fd_La_law_748, g6, g7, n1]
  refine am_call (hA d h G) (fun o h1 q => ?_)
  obtain ⟨k, v, rfl, hC, hv, hM⟩ := q
  simp only [am_wp, am_stp, am_en, am_as, am_pad, am_nth, am_set, am_st1, am_st2, am_kl, am_kill, am_mem, am_fv, am_tk, am_wt, am_bk, Option.toList, List.cons_append, List.nil_append, Nat.reduceAdd, Nat.reduceEqDiff, Nat.reduceLeDiff, reduceIte, Nat.reduceLT, or_self, true_or, or_true, if_true, if_false, and_self, and_true, true_and, not_false_eq_true, not_true_eq_false]
  obtain ⟨b1, b2, b3, -, -⟩ := hC.1 1 (Or.inl (by decide))
  rw [g6] at b1
  rw [g7] at b2
  rw [g8] at b3
  have b4 : am_kd h1 72 = 12 := (hC.1 72 (Or.inr (by decide))).1.trans g5.1.1
  refine am_go [] 3 ?_
  simp only [am_wp, am_stp, am_en, am_as, am_pad, am_nth, am_set, am_st1, am_st2, am_kl, am_kill, am_mem, am_fv, am_tk, am_wt, am_bk, Option.toList, List.cons_append, List.nil_append, Nat.reduceAdd, Nat.reduceEqDiff, Nat.reduceLeDiff, reduceIte, Nat.reduceLT, or_self, true_or, or_true, if_true, if_false, and_self, and_true, true_and, not_false_eq_true, not_true_eq_false, fd_La_law_751, fd_La_law_753, fd_La_law_754, b1, b2, b4, n1]
  refine am_call hM (fun o h2 q => ?_)
  obtain ⟨b, rfl, hD, hk, hb⟩ := q
  simp only [am_wp, am_stp, am_en, am_as, am_pad, am_nth, am_set, am_st1, am_st2, am_kl, am_kill, am_mem, am_fv, am_tk, am_wt, am_bk, Option.toList, List.cons_append, List.nil_append, Nat.reduceAdd, Nat.reduceEqDiff, Nat.reduceLeDiff, reduceIte, Nat.reduceLT, or_self, true_or, or_true, if_true, if_false, and_self, and_true, true_and, not_false_eq_true, not_true_eq_false]
  obtain ⟨d1, d2, -, -⟩ := hD.1 1 (Or.inl (by decide))
  obtain ⟨q1, q2, -, q4⟩ := hD.1 108 (Or.inr rfl)
  refine tl_mark G (hD.2.1.trans b4) hk (q1.trans hC.2.1) (q2.trans hC.2.2.1) (fun e => ?_) (d1.trans b1) (d2.trans b2) ?_ ?_
  · rw [q4, hv e, hb e]
  · have := hD.2.2.1; have := hC.2.2.2.1; omega
  · have := hD.2.2.2; have := hC.2.2.2.2; omega
theorem ox_release {xs : Nat → Int32} (hA : ∀ (d : Nat) (h : am_H), lw_G 8 xs h → am_Rt nm_pr (d + 12) mi_La_release [.ref 2, .int (xs 2), .ref 108] h (fun o h1 => ∃ (k : Int32) (v : Int64), o = .inl (some (.int k)) ∧ lw_C h h1 ∧ (k = 0 → am_L h1 108 0 = v) ∧ am_Rt nm_pr (d + 12) mi_Mo_release [.ref 72, .int (xs 2)] h1 (fun o2 h2 => ∃ b : Int32, o2 = .inl (some (.int b)) ∧ lw_D h1 h2 ∧ am_I h2 72 0 = k ∧ (k = 0 → v = b.toInt64)))) : lw_op xs 790 := by
  intro d h G
  obtain ⟨g1, g2, g3, g4, g5, g6, g7, g8, g9, g10⟩ := id G
  have n1 : ¬ (99 = 100) := by decide
  have e1 : (1 : Int32) + 1 = nI 2 := by decide
  obtain ⟨i1, c1⟩ := lw_rd 2 (by decide)
  have x1 : am_I h 1 2 = xs 2 := by rw [g8]
  refine am_go [] 8 ?_
  simp only [am_wp, am_stp, am_en, am_as, am_pad, am_nth, am_set, am_st1, am_st2, am_kl, am_kill, am_mem, am_fv, am_tk, am_wt, am_bk, Option.toList, List.cons_append, List.nil_append, Nat.reduceAdd, Nat.reduceEqDiff, Nat.reduceLeDiff, reduceIte, Nat.reduceLT, or_self, true_or, or_true, if_true, if_false, and_self, and_true, true_and, not_false_eq_true, not_true_eq_false, fd_La_law_790, fd_La_law_791, fd_La_law_792, fd_La_law_794, fd_La_law_795, fd_La_law_796, fd_La_law_797, fd_La_law_798, g6, g7, n1, e1, i1]
  (try simp only [c1, x1, lg_eq])
  refine am_call (hA d h G) (fun o h1 q => ?_)
  obtain ⟨k, v, rfl, hC, hv, hM⟩ := q
  simp only [am_wp, am_stp, am_en, am_as, am_pad, am_nth, am_set, am_st1, am_st2, am_kl, am_kill, am_mem, am_fv, am_tk, am_wt, am_bk, Option.toList, List.cons_append, List.nil_append, Nat.reduceAdd, Nat.reduceEqDiff, Nat.reduceLeDiff, reduceIte, Nat.reduceLT, or_self, true_or, or_true, if_true, if_false, and_self, and_true, true_and, not_false_eq_true, not_true_eq_false]
  obtain ⟨b1, b2, b3, -, -⟩ := hC.1 1 (Or.inl (by decide))
  rw [g6] at b1
  rw [g7] at b2
  rw [g8] at b3
  have b4 : am_kd h1 72 = 12 := (hC.1 72 (Or.inr (by decide))).1.trans g5.1.1
  have y1 : am_I h1 1 2 = xs 2 := by rw [b3]
  refine am_go [] 8 ?_
  simp only [am_wp, am_stp, am_en, am_as, am_pad, am_nth, am_set, am_st1, am_st2, am_kl, am_kill, am_mem, am_fv, am_tk, am_wt, am_bk, Option.toList, List.cons_append, List.nil_append, Nat.reduceAdd, Nat.reduceEqDiff, Nat.reduceLeDiff, reduceIte, Nat.reduceLT, or_self, true_or, or_true, if_true, if_false, and_self, and_true, true_and, not_false_eq_true, not_true_eq_false, fd_La_law_801, fd_La_law_803, fd_La_law_804, fd_La_law_805, fd_La_law_807, fd_La_law_808, fd_La_law_809, fd_La_law_810, b1, b2, b4, n1, e1, i1]
  (try simp only [c1, y1, lg_eq])
  refine am_call hM (fun o h2 q => ?_)
  obtain ⟨b, rfl, hD, hk, hb⟩ := q
  simp only [am_wp, am_stp, am_en, am_as, am_pad, am_nth, am_set, am_st1, am_st2, am_kl, am_kill, am_mem, am_fv, am_tk, am_wt, am_bk, Option.toList, List.cons_append, List.nil_append, Nat.reduceAdd, Nat.reduceEqDiff, Nat.reduceLeDiff, reduceIte, Nat.reduceLT, or_self, true_or, or_true, if_true, if_false, and_self, and_true, true_and, not_false_eq_true, not_true_eq_false]
  obtain ⟨d1, d2, -, -⟩ := hD.1 1 (Or.inl (by decide))
  obtain ⟨q1, q2, -, q4⟩ := hD.1 108 (Or.inr rfl)
  refine tl_release G (hD.2.1.trans b4) hk (q1.trans hC.2.1) (q2.trans hC.2.2.1) (fun e => ?_) (d1.trans b1) (d2.trans b2) ?_ ?_
  · rw [q4, hv e, hb e]
  · have := hD.2.2.1; have := hC.2.2.2.1; omega
  · have := hD.2.2.2; have := hC.2.2.2.2; omega
theorem ox_get {xs : Nat → Int32} (hA : ∀ (d : Nat) (h : am_H), lw_G 8 xs h → am_Rt nm_pr (d + 12) mi_La_get [.ref 2, .int (xs 2), .long (lg_2 (xs 3) (xs 4)), .ref 108] h (fun o h1 => ∃ (k : Int32) (v : Int64), o = .inl (some (.int k)) ∧ lw_C h h1 ∧ (k = 0 → am_L h1 108 0 = v) ∧ am_Rt nm_pr (d + 12) mi_Mo_get [.ref 72, .int (xs 2), .long (lg_2 (xs 3) (xs 4))] h1 (fun o2 h2 => ∃ b : Int64, o2 = .inl (some (.long b)) ∧ lw_D h1 h2 ∧ am_I h2 72 0 = k ∧ (k = 0 → v = b)))) : lw_op xs 846 := by
  intro d h G
  obtain ⟨g1, g2, g3, g4, g5, g6, g7, g8, g9, g10⟩ := id G
  have n1 : ¬ (99 = 100) := by decide
  have e1 : (1 : Int32) + 1 = nI 2 := by decide
  obtain ⟨i1, c1⟩ := lw_rd 2 (by decide)
  have e2 : (1 : Int32) + 2 = nI 3 := by decide
  obtain ⟨i2, c2⟩ := lw_rd 3 (by decide)
  have e3 : (1 : Int32) + 3 = nI 4 := by decide
  obtain ⟨i3, c3⟩ := lw_rd 4 (by decide)
  have x1 : am_I h 1 2 = xs 2 := by rw [g8]
  have x2 : am_I h 1 3 = xs 3 := by rw [g8]
  have x3 : am_I h 1 4 = xs 4 := by rw [g8]
  refine am_go [] 9 ?_
  simp only [am_wp, am_stp, am_en, am_as, am_pad, am_nth, am_set, am_st1, am_st2, am_kl, am_kill, am_mem, am_fv, am_tk, am_wt, am_bk, Option.toList, List.cons_append, List.nil_append, Nat.reduceAdd, Nat.reduceEqDiff, Nat.reduceLeDiff, reduceIte, Nat.reduceLT, or_self, true_or, or_true, if_true, if_false, and_self, and_true, true_and, not_false_eq_true, not_true_eq_false, fd_La_law_846, fd_La_law_847, fd_La_law_848, fd_La_law_850, fd_La_law_851, fd_La_law_852, fd_La_law_853, fd_La_law_854, fd_La_law_856, g6, g7, n1, e1, i1, e2, i2, e3, i3]
  (try simp only [c1, x1, c2, x2, c3, x3, lg_eq])
  refine am_go [] 9 ?_
  simp only [am_wp, am_stp, am_en, am_as, am_pad, am_nth, am_set, am_st1, am_st2, am_kl, am_kill, am_mem, am_fv, am_tk, am_wt, am_bk, Option.toList, List.cons_append, List.nil_append, Nat.reduceAdd, Nat.reduceEqDiff, Nat.reduceLeDiff, reduceIte, Nat.reduceLT, or_self, true_or, or_true, if_true, if_false, and_self, and_true, true_and, not_false_eq_true, not_true_eq_false, fd_La_law_857, fd_La_law_858, fd_La_law_859, fd_La_law_860, fd_La_law_862, fd_La_law_863, fd_La_law_864, fd_La_law_866, fd_La_law_867, g6, g7, n1, e1, i1, e2, i2, e3, i3]
  (try simp only [c1, x1, c2, x2, c3, x3, lg_eq])
  refine am_go [] 7 ?_
  simp only [am_wp, am_stp, am_en, am_as, am_pad, am_nth, am_set, am_st1, am_st2, am_kl, am_kill, am_mem, am_fv, am_tk, am_wt, am_bk, Option.toList, List.cons_append, List.nil_append, Nat.reduceAdd, Nat.reduceEqDiff, Nat.reduceLeDiff, reduceIte, Nat.reduceLT, or_self, true_or, or_true, if_true, if_false, and_self, and_true, true_and, not_false_eq_true, not_true_eq_false, fd_La_law_868, fd_La_law_869, fd_La_law_870, fd_La_law_873, fd_La_law_874, fd_La_law_875, fd_La_law_876, g6, g7, n1, e1, i1, e2, i2, e3, i3]
  (try simp only [c1, x1, c2, x2, c3, x3, lg_eq])
  refine am_call (hA d h G) (fun o h1 q => ?_)
  obtain ⟨k, v, rfl, hC, hv, hM⟩ := q
  simp only [am_wp, am_stp, am_en, am_as, am_pad, am_nth, am_set, am_st1, am_st2, am_kl, am_kill, am_mem, am_fv, am_tk, am_wt, am_bk, Option.toList, List.cons_append, List.nil_append, Nat.reduceAdd, Nat.reduceEqDiff, Nat.reduceLeDiff, reduceIte, Nat.reduceLT, or_self, true_or, or_true, if_true, if_false, and_self, and_true, true_and, not_false_eq_true, not_true_eq_false]
  obtain ⟨b1, b2, b3, -, -⟩ := hC.1 1 (Or.inl (by decide))
  rw [g6] at b1
  rw [g7] at b2
  rw [g8] at b3
  have b4 : am_kd h1 72 = 12 := (hC.1 72 (Or.inr (by decide))).1.trans g5.1.1
  have y1 : am_I h1 1 2 = xs 2 := by rw [b3]
  have y2 : am_I h1 1 3 = xs 3 := by rw [b3]
  have y3 : am_I h1 1 4 = xs 4 := by rw [b3]
  refine am_go [] 9 ?_
  simp only [am_wp, am_stp, am_en, am_as, am_pad, am_nth, am_set, am_st1, am_st2, am_kl, am_kill, am_mem, am_fv, am_tk, am_wt, am_bk, Option.toList, List.cons_append, List.nil_append, Nat.reduceAdd, Nat.reduceEqDiff, Nat.reduceLeDiff, reduceIte, Nat.reduceLT, or_self, true_or, or_true, if_true, if_false, and_self, and_true, true_and, not_false_eq_true, not_true_eq_false, fd_La_law_879, fd_La_law_881, fd_La_law_882, fd_La_law_883, fd_La_law_885, fd_La_law_886, fd_La_law_887, fd_La_law_888, fd_La_law_889, b1, b2, b4, n1, e1, i1, e2, i2, e3, i3]
  (try simp only [c1, y1, c2, y2, c3, y3, lg_eq])
  refine am_go [] 9 ?_
  simp only [am_wp, am_stp, am_en, am_as, am_pad, am_nth, am_set, am_st1, am_st2, am_kl, am_kill, am_mem, am_fv, am_tk, am_wt, am_bk, Option.toList, List.cons_append, List.nil_append, Nat.reduceAdd, Nat.reduceEqDiff, Nat.reduceLeDiff, reduceIte, Nat.reduceLT, or_self, true_or, or_true, if_true, if_false, and_self, and_true, true_and, not_false_eq_true, not_true_eq_false, fd_La_law_891, fd_La_law_892, fd_La_law_893, fd_La_law_894, fd_La_law_895, fd_La_law_897, fd_La_law_898, fd_La_law_899, fd_La_law_901, b1, b2, b4, n1, e1, i1, e2, i2, e3, i3]
  (try simp only [c1, y1, c2, y2, c3, y3, lg_eq])
  refine am_go [] 7 ?_
  simp only [am_wp, am_stp, am_en, am_as, am_pad, am_nth, am_set, am_st1, am_st2, am_kl, am_kill, am_mem, am_fv, am_tk, am_wt, am_bk, Option.toList, List.cons_append, List.nil_append, Nat.reduceAdd, Nat.reduceEqDiff, Nat.reduceLeDiff, reduceIte, Nat.reduceLT, or_self, true_or, or_true, if_true, if_false, and_self, and_true, true_and, not_false_eq_true, not_true_eq_false, fd_La_law_902, fd_La_law_903, fd_La_law_904, fd_La_law_905, fd_La_law_908, fd_La_law_909, fd_La_law_910, b1, b2, b4, n1, e1, i1, e2, i2, e3, i3]
  (try simp only [c1, y1, c2, y2, c3, y3, lg_eq])
  refine am_call hM (fun o h2 q => ?_)
  obtain ⟨b, rfl, hD, hk, hb⟩ := q
  simp only [am_wp, am_stp, am_en, am_as, am_pad, am_nth, am_set, am_st1, am_st2, am_kl, am_kill, am_mem, am_fv, am_tk, am_wt, am_bk, Option.toList, List.cons_append, List.nil_append, Nat.reduceAdd, Nat.reduceEqDiff, Nat.reduceLeDiff, reduceIte, Nat.reduceLT, or_self, true_or, or_true, if_true, if_false, and_self, and_true, true_and, not_false_eq_true, not_true_eq_false]
  obtain ⟨d1, d2, -, -⟩ := hD.1 1 (Or.inl (by decide))
  obtain ⟨q1, q2, -, q4⟩ := hD.1 108 (Or.inr rfl)
  refine tl_get G (hD.2.1.trans b4) hk (q1.trans hC.2.1) (q2.trans hC.2.2.1) (fun e => ?_) (d1.trans b1) (d2.trans b2) ?_ ?_
  · rw [q4, hv e, hb e]
  · have := hD.2.2.1; have := hC.2.2.2.1; omega
  · have := hD.2.2.2; have := hC.2.2.2.2; omega
theorem ox_range {xs : Nat → Int32} (hA : ∀ (d : Nat) (h : am_H), lw_G 8 xs h → am_Rt nm_pr (d + 12) mi_La_range [.ref 2, .int (xs 2), .long (lg_2 (xs 3) (xs 4)), .long (lg_2 (xs 5) (xs 6)), .ref 108] h (fun o h1 => ∃ (k : Int32) (v : Int64), o = .inl (some (.int k)) ∧ lw_C h h1 ∧ (k = 0 → am_L h1 108 0 = v) ∧ am_Rt nm_pr (d + 12) mi_Mo_range [.ref 72, .int (xs 2), .long (lg_2 (xs 3) (xs 4)), .long (lg_2 (xs 5) (xs 6))] h1 (fun o2 h2 => ∃ b : Int32, o2 = .inl (some (.int b)) ∧ lw_D h1 h2 ∧ am_I h2 72 0 = k ∧ (k = 0 → v = b.toInt64)))) : lw_op xs 958 := by
  intro d h G
  obtain ⟨g1, g2, g3, g4, g5, g6, g7, g8, g9, g10⟩ := id G
  have n1 : ¬ (99 = 100) := by decide
  have e1 : (1 : Int32) + 1 = nI 2 := by decide
  obtain ⟨i1, c1⟩ := lw_rd 2 (by decide)
  have e2 : (1 : Int32) + 2 = nI 3 := by decide
  obtain ⟨i2, c2⟩ := lw_rd 3 (by decide)
  have e3 : (1 : Int32) + 3 = nI 4 := by decide
  obtain ⟨i3, c3⟩ := lw_rd 4 (by decide)
  have e4 : (1 : Int32) + 4 = nI 5 := by decide
  obtain ⟨i4, c4⟩ := lw_rd 5 (by decide)
  have e5 : (1 : Int32) + 5 = nI 6 := by decide
  obtain ⟨i5, c5⟩ := lw_rd 6 (by decide)
  have x1 : am_I h 1 2 = xs 2 := by rw [g8]
  have x2 : am_I h 1 3 = xs 3 := by rw [g8]
  have x3 : am_I h 1 4 = xs 4 := by rw [g8]
  have x4 : am_I h 1 5 = xs 5 := by rw [g8]
  have x5 : am_I h 1 6 = xs 6 := by rw [g8]
  refine am_go [] 9 ?_
  simp only [am_wp, am_stp, am_en, am_as, am_pad, am_nth, am_set, am_st1, am_st2, am_kl, am_kill, am_mem, am_fv, am_tk, am_wt, am_bk, Option.toList, List.cons_append, List.nil_append, Nat.reduceAdd, Nat.reduceEqDiff, Nat.reduceLeDiff, reduceIte, Nat.reduceLT, or_self, true_or, or_true, if_true, if_false, and_self, and_true, true_and, not_false_eq_true, not_true_eq_false, fd_La_law_958, fd_La_law_959, fd_La_law_960, fd_La_law_962, fd_La_law_963, fd_La_law_964, fd_La_law_965, fd_La_law_966, fd_La_law_968, g6, g7, n1, e1, i1, e2, i2, e3, i3, e4, i4, e5, i5]
  (try simp only [c1, x1, c2, x2, c3, x3, c4, x4, c5, x5, lg_eq])
  refine am_go [] 9 ?_
  simp only [am_wp, am_stp, am_en, am_as, am_pad, am_nth, am_set, am_st1, am_st2, am_kl, am_kill, am_mem, am_fv, am_tk, am_wt, am_bk, Option.toList, List.cons_append, List.nil_append, Nat.reduceAdd, Nat.reduceEqDiff, Nat.reduceLeDiff, reduceIte, Nat.reduceLT, or_self, true_or, or_true, if_true, if_false, and_self, and_true, true_and, not_false_eq_true, not_true_eq_false, fd_La_law_969, fd_La_law_970, fd_La_law_971, fd_La_law_972, fd_La_law_974, fd_La_law_975, fd_La_law_976, fd_La_law_978, fd_La_law_979, g6, g7, n1, e1, i1, e2, i2, e3, i3, e4, i4, e5, i5]
  (try simp only [c1, x1, c2, x2, c3, x3, c4, x4, c5, x5, lg_eq])
  refine am_go [] 9 ?_
  simp only [am_wp, am_stp, am_en, am_as, am_pad, am_nth, am_set, am_st1, am_st2, am_kl, am_kill, am_mem, am_fv, am_tk, am_wt, am_bk, Option.toList, List.cons_append, List.nil_append, Nat.reduceAdd, Nat.reduceEqDiff, Nat.reduceLeDiff, reduceIte, Nat.reduceLT, or_self, true_or, or_true, if_true, if_false, and_self, and_true, true_and, not_false_eq_true, not_true_eq_false, fd_La_law_980, fd_La_law_981, fd_La_law_982, fd_La_law_985, fd_La_law_986, fd_La_law_987, fd_La_law_988, fd_La_law_990, fd_La_law_991, g6, g7, n1, e1, i1, e2, i2, e3, i3, e4, i4, e5, i5]
  (try simp only [c1, x1, c2, x2, c3, x3, c4, x4, c5, x5, lg_eq])
  refine am_go [] 9 ?_
  simp only [am_wp, am_stp, am_en, am_as, am_pad, am_nth, am_set, am_st1, am_st2, am_kl, am_kill, am_mem, am_fv, am_tk, am_wt, am_bk, Option.toList, List.cons_append, List.nil_append, Nat.reduceAdd, Nat.reduceEqDiff, Nat.reduceLeDiff, reduceIte, Nat.reduceLT, or_self, true_or, or_true, if_true, if_false, and_self, and_true, true_and, not_false_eq_true, not_true_eq_false, fd_La_law_992, fd_La_law_993, fd_La_law_994, fd_La_law_996, fd_La_law_997, fd_La_law_998, fd_La_law_1000, fd_La_law_1001, fd_La_law_1002, g6, g7, n1, e1, i1, e2, i2, e3, i3, e4, i4, e5, i5]
  (try simp only [c1, x1, c2, x2, c3, x3, c4, x4, c5, x5, lg_eq])
  refine am_go [] 6 ?_
  simp only [am_wp, am_stp, am_en, am_as, am_pad, am_nth, am_set, am_st1, am_st2, am_kl, am_kill, am_mem, am_fv, am_tk, am_wt, am_bk, Option.toList, List.cons_append, List.nil_append, Nat.reduceAdd, Nat.reduceEqDiff, Nat.reduceLeDiff, reduceIte, Nat.reduceLT, or_self, true_or, or_true, if_true, if_false, and_self, and_true, true_and, not_false_eq_true, not_true_eq_false, fd_La_law_1003, fd_La_law_1004, fd_La_law_1007, fd_La_law_1008, fd_La_law_1009, fd_La_law_1010, g6, g7, n1, e1, i1, e2, i2, e3, i3, e4, i4, e5, i5]
  (try simp only [c1, x1, c2, x2, c3, x3, c4, x4, c5, x5, lg_eq])
  refine am_call (hA d h G) (fun o h1 q => ?_)
  obtain ⟨k, v, rfl, hC, hv, hM⟩ := q
  simp only [am_wp, am_stp, am_en, am_as, am_pad, am_nth, am_set, am_st1, am_st2, am_kl, am_kill, am_mem, am_fv, am_tk, am_wt, am_bk, Option.toList, List.cons_append, List.nil_append, Nat.reduceAdd, Nat.reduceEqDiff, Nat.reduceLeDiff, reduceIte, Nat.reduceLT, or_self, true_or, or_true, if_true, if_false, and_self, and_true, true_and, not_false_eq_true, not_true_eq_false]
  obtain ⟨b1, b2, b3, -, -⟩ := hC.1 1 (Or.inl (by decide))
  rw [g6] at b1
  rw [g7] at b2
  rw [g8] at b3
  have b4 : am_kd h1 72 = 12 := (hC.1 72 (Or.inr (by decide))).1.trans g5.1.1
  have y1 : am_I h1 1 2 = xs 2 := by rw [b3]
  have y2 : am_I h1 1 3 = xs 3 := by rw [b3]
  have y3 : am_I h1 1 4 = xs 4 := by rw [b3]
  have y4 : am_I h1 1 5 = xs 5 := by rw [b3]
  have y5 : am_I h1 1 6 = xs 6 := by rw [b3]
  refine am_go [] 9 ?_
  simp only [am_wp, am_stp, am_en, am_as, am_pad, am_nth, am_set, am_st1, am_st2, am_kl, am_kill, am_mem, am_fv, am_tk, am_wt, am_bk, Option.toList, List.cons_append, List.nil_append, Nat.reduceAdd, Nat.reduceEqDiff, Nat.reduceLeDiff, reduceIte, Nat.reduceLT, or_self, true_or, or_true, if_true, if_false, and_self, and_true, true_and, not_false_eq_true, not_true_eq_false, fd_La_law_1013, fd_La_law_1015, fd_La_law_1016, fd_La_law_1017, fd_La_law_1019, fd_La_law_1020, fd_La_law_1021, fd_La_law_1022, fd_La_law_1023, b1, b2, b4, n1, e1, i1, e2, i2, e3, i3, e4, i4, e5, i5]
  (try simp only [c1, y1, c2, y2, c3, y3, c4, y4, c5, y5, lg_eq])
  refine am_go [] 9 ?_
  simp only [am_wp, am_stp, am_en, am_as, am_pad, am_nth, am_set, am_st1, am_st2, am_kl, am_kill, am_mem, am_fv, am_tk, am_wt, am_bk, Option.toList, List.cons_append, List.nil_append, Nat.reduceAdd, Nat.reduceEqDiff, Nat.reduceLeDiff, reduceIte, Nat.reduceLT, or_self, true_or, or_true, if_true, if_false, and_self, and_true, true_and, not_false_eq_true, not_true_eq_false, fd_La_law_1025, fd_La_law_1026, fd_La_law_1027, fd_La_law_1028, fd_La_law_1029, fd_La_law_1031, fd_La_law_1032, fd_La_law_1033, fd_La_law_1035, b1, b2, b4, n1, e1, i1, e2, i2, e3, i3, e4, i4, e5, i5]
  (try simp only [c1, y1, c2, y2, c3, y3, c4, y4, c5, y5, lg_eq])
  refine am_go [] 9 ?_
  simp only [am_wp, am_stp, am_en, am_as, am_pad, am_nth, am_set, am_st1, am_st2, am_kl, am_kill, am_mem, am_fv, am_tk, am_wt, am_bk, Option.toList, List.cons_append, List.nil_append, Nat.reduceAdd, Nat.reduceEqDiff, Nat.reduceLeDiff, reduceIte, Nat.reduceLT, or_self, true_or, or_true, if_true, if_false, and_self, and_true, true_and, not_false_eq_true, not_true_eq_false, fd_La_law_1036, fd_La_law_1037, fd_La_law_1038, fd_La_law_1039, fd_La_law_1042, fd_La_law_1043, fd_La_law_1044, fd_La_law_1045, fd_La_law_1047, b1, b2, b4, n1, e1, i1, e2, i2, e3, i3, e4, i4, e5, i5]
  (try simp only [c1, y1, c2, y2, c3, y3, c4, y4, c5, y5, lg_eq])
  refine am_go [] 9 ?_
  simp only [am_wp, am_stp, am_en, am_as, am_pad, am_nth, am_set, am_st1, am_st2, am_kl, am_kill, am_mem, am_fv, am_tk, am_wt, am_bk, Option.toList, List.cons_append, List.nil_append, Nat.reduceAdd, Nat.reduceEqDiff, Nat.reduceLeDiff, reduceIte, Nat.reduceLT, or_self, true_or, or_true, if_true, if_false, and_self, and_true, true_and, not_false_eq_true, not_true_eq_false, fd_La_law_1048, fd_La_law_1049, fd_La_law_1050, fd_La_law_1051, fd_La_law_1053, fd_La_law_1054, fd_La_law_1055, fd_La_law_1057, fd_La_law_1058, b1, b2, b4, n1, e1, i1, e2, i2, e3, i3, e4, i4, e5, i5]
  (try simp only [c1, y1, c2, y2, c3, y3, c4, y4, c5, y5, lg_eq])
  refine am_go [] 6 ?_
  simp only [am_wp, am_stp, am_en, am_as, am_pad, am_nth, am_set, am_st1, am_st2, am_kl, am_kill, am_mem, am_fv, am_tk, am_wt, am_bk, Option.toList, List.cons_append, List.nil_append, Nat.reduceAdd, Nat.reduceEqDiff, Nat.reduceLeDiff, reduceIte, Nat.reduceLT, or_self, true_or, or_true, if_true, if_false, and_self, and_true, true_and, not_false_eq_true, not_true_eq_false, fd_La_law_1059, fd_La_law_1060, fd_La_law_1061, fd_La_law_1064, fd_La_law_1065, fd_La_law_1066, b1, b2, b4, n1, e1, i1, e2, i2, e3, i3, e4, i4, e5, i5]
  (try simp only [c1, y1, c2, y2, c3, y3, c4, y4, c5, y5, lg_eq])
  refine am_call hM (fun o h2 q => ?_)
  obtain ⟨b, rfl, hD, hk, hb⟩ := q
  simp only [am_wp, am_stp, am_en, am_as, am_pad, am_nth, am_set, am_st1, am_st2, am_kl, am_kill, am_mem, am_fv, am_tk, am_wt, am_bk, Option.toList, List.cons_append, List.nil_append, Nat.reduceAdd, Nat.reduceEqDiff, Nat.reduceLeDiff, reduceIte, Nat.reduceLT, or_self, true_or, or_true, if_true, if_false, and_self, and_true, true_and, not_false_eq_true, not_true_eq_false]
  obtain ⟨d1, d2, -, -⟩ := hD.1 1 (Or.inl (by decide))
  obtain ⟨q1, q2, -, q4⟩ := hD.1 108 (Or.inr rfl)
  refine tl_range G (hD.2.1.trans b4) hk (q1.trans hC.2.1) (q2.trans hC.2.2.1) (fun e => ?_) (d1.trans b1) (d2.trans b2) ?_ ?_
  · rw [q4, hv e, hb e]
  · have := hD.2.2.1; have := hC.2.2.2.1; omega
  · have := hD.2.2.2; have := hC.2.2.2.2; omega
theorem ox_at {xs : Nat → Int32} (hA : ∀ (d : Nat) (h : am_H), lw_G 8 xs h → am_Rt nm_pr (d + 12) mi_La_at [.ref 2, .int (xs 2), .int (xs 3), .ref 108] h (fun o h1 => ∃ (k : Int32) (v : Int64), o = .inl (some (.int k)) ∧ lw_C h h1 ∧ (k = 0 → am_L h1 108 0 = v) ∧ am_Rt nm_pr (d + 12) mi_Mo_at [.ref 72, .int (xs 2), .int (xs 3)] h1 (fun o2 h2 => ∃ b : Int64, o2 = .inl (some (.long b)) ∧ lw_D h1 h2 ∧ am_I h2 72 0 = k ∧ (k = 0 → v = b)))) : lw_op xs 1102 := by
  intro d h G
  obtain ⟨g1, g2, g3, g4, g5, g6, g7, g8, g9, g10⟩ := id G
  have n1 : ¬ (99 = 100) := by decide
  have e1 : (1 : Int32) + 1 = nI 2 := by decide
  obtain ⟨i1, c1⟩ := lw_rd 2 (by decide)
  have e2 : (1 : Int32) + 2 = nI 3 := by decide
  obtain ⟨i2, c2⟩ := lw_rd 3 (by decide)
  have x1 : am_I h 1 2 = xs 2 := by rw [g8]
  have x2 : am_I h 1 3 = xs 3 := by rw [g8]
  refine am_go [] 9 ?_
  simp only [am_wp, am_stp, am_en, am_as, am_pad, am_nth, am_set, am_st1, am_st2, am_kl, am_kill, am_mem, am_fv, am_tk, am_wt, am_bk, Option.toList, List.cons_append, List.nil_append, Nat.reduceAdd, Nat.reduceEqDiff, Nat.reduceLeDiff, reduceIte, Nat.reduceLT, or_self, true_or, or_true, if_true, if_false, and_self, and_true, true_and, not_false_eq_true, not_true_eq_false, fd_La_law_1102, fd_La_law_1103, fd_La_law_1104, fd_La_law_1106, fd_La_law_1107, fd_La_law_1108, fd_La_law_1109, fd_La_law_1110, fd_La_law_1112, g6, g7, n1, e1, i1, e2, i2]
  (try simp only [c1, x1, c2, x2, lg_eq])
  refine am_go [] 4 ?_
  simp only [am_wp, am_stp, am_en, am_as, am_pad, am_nth, am_set, am_st1, am_st2, am_kl, am_kill, am_mem, am_fv, am_tk, am_wt, am_bk, Option.toList, List.cons_append, List.nil_append, Nat.reduceAdd, Nat.reduceEqDiff, Nat.reduceLeDiff, reduceIte, Nat.reduceLT, or_self, true_or, or_true, if_true, if_false, and_self, and_true, true_and, not_false_eq_true, not_true_eq_false, fd_La_law_1113, fd_La_law_1114, fd_La_law_1115, fd_La_law_1116, g6, g7, n1, e1, i1, e2, i2]
  (try simp only [c1, x1, c2, x2, lg_eq])
  refine am_call (hA d h G) (fun o h1 q => ?_)
  obtain ⟨k, v, rfl, hC, hv, hM⟩ := q
  simp only [am_wp, am_stp, am_en, am_as, am_pad, am_nth, am_set, am_st1, am_st2, am_kl, am_kill, am_mem, am_fv, am_tk, am_wt, am_bk, Option.toList, List.cons_append, List.nil_append, Nat.reduceAdd, Nat.reduceEqDiff, Nat.reduceLeDiff, reduceIte, Nat.reduceLT, or_self, true_or, or_true, if_true, if_false, and_self, and_true, true_and, not_false_eq_true, not_true_eq_false]
  obtain ⟨b1, b2, b3, -, -⟩ := hC.1 1 (Or.inl (by decide))
  rw [g6] at b1
  rw [g7] at b2
  rw [g8] at b3
  have b4 : am_kd h1 72 = 12 := (hC.1 72 (Or.inr (by decide))).1.trans g5.1.1
  have y1 : am_I h1 1 2 = xs 2 := by rw [b3]
  have y2 : am_I h1 1 3 = xs 3 := by rw [b3]
  refine am_go [] 9 ?_
  simp only [am_wp, am_stp, am_en, am_as, am_pad, am_nth, am_set, am_st1, am_st2, am_kl, am_kill, am_mem, am_fv, am_tk, am_wt, am_bk, Option.toList, List.cons_append, List.nil_append, Nat.reduceAdd, Nat.reduceEqDiff, Nat.reduceLeDiff, reduceIte, Nat.reduceLT, or_self, true_or, or_true, if_true, if_false, and_self, and_true, true_and, not_false_eq_true, not_true_eq_false, fd_La_law_1119, fd_La_law_1121, fd_La_law_1122, fd_La_law_1123, fd_La_law_1125, fd_La_law_1126, fd_La_law_1127, fd_La_law_1128, fd_La_law_1129, b1, b2, b4, n1, e1, i1, e2, i2]
  (try simp only [c1, y1, c2, y2, lg_eq])
  refine am_go [] 4 ?_
  simp only [am_wp, am_stp, am_en, am_as, am_pad, am_nth, am_set, am_st1, am_st2, am_kl, am_kill, am_mem, am_fv, am_tk, am_wt, am_bk, Option.toList, List.cons_append, List.nil_append, Nat.reduceAdd, Nat.reduceEqDiff, Nat.reduceLeDiff, reduceIte, Nat.reduceLT, or_self, true_or, or_true, if_true, if_false, and_self, and_true, true_and, not_false_eq_true, not_true_eq_false, fd_La_law_1131, fd_La_law_1132, fd_La_law_1133, fd_La_law_1134, b1, b2, b4, n1, e1, i1, e2, i2]
  (try simp only [c1, y1, c2, y2, lg_eq])
  refine am_call hM (fun o h2 q => ?_)
  obtain ⟨b, rfl, hD, hk, hb⟩ := q
  simp only [am_wp, am_stp, am_en, am_as, am_pad, am_nth, am_set, am_st1, am_st2, am_kl, am_kill, am_mem, am_fv, am_tk, am_wt, am_bk, Option.toList, List.cons_append, List.nil_append, Nat.reduceAdd, Nat.reduceEqDiff, Nat.reduceLeDiff, reduceIte, Nat.reduceLT, or_self, true_or, or_true, if_true, if_false, and_self, and_true, true_and, not_false_eq_true, not_true_eq_false]
  obtain ⟨d1, d2, -, -⟩ := hD.1 1 (Or.inl (by decide))
  obtain ⟨q1, q2, -, q4⟩ := hD.1 108 (Or.inr rfl)
  refine tl_at G (hD.2.1.trans b4) hk (q1.trans hC.2.1) (q2.trans hC.2.2.1) (fun e => ?_) (d1.trans b1) (d2.trans b2) ?_ ?_
  · rw [q4, hv e, hb e]
  · have := hD.2.2.1; have := hC.2.2.2.1; omega
  · have := hD.2.2.2; have := hC.2.2.2.2; omega
theorem ox_run {xs : Nat → Int32} (hA : ∀ (d : Nat) (h : am_H), lw_G 8 xs h → am_Rt nm_pr (d + 12) mi_La_run [.ref 2, .int (xs 2), .int (xs 3), .ref 108] h (fun o h1 => ∃ (k : Int32) (v : Int64), o = .inl (some (.int k)) ∧ lw_C h h1 ∧ (k = 0 → am_L h1 108 0 = v) ∧ am_Rt nm_pr (d + 12) mi_Mo_run [.ref 72, .int (xs 2), .int (xs 3)] h1 (fun o2 h2 => ∃ b : Int32, o2 = .inl (some (.int b)) ∧ lw_D h1 h2 ∧ am_I h2 72 0 = k ∧ (k = 0 → v = b.toInt64)))) : lw_op xs 1169 := by
  intro d h G
  obtain ⟨g1, g2, g3, g4, g5, g6, g7, g8, g9, g10⟩ := id G
  have n1 : ¬ (99 = 100) := by decide
  have e1 : (1 : Int32) + 1 = nI 2 := by decide
  obtain ⟨i1, c1⟩ := lw_rd 2 (by decide)
  have e2 : (1 : Int32) + 2 = nI 3 := by decide
  obtain ⟨i2, c2⟩ := lw_rd 3 (by decide)
  have x1 : am_I h 1 2 = xs 2 := by rw [g8]
  have x2 : am_I h 1 3 = xs 3 := by rw [g8]
  refine am_go [] 9 ?_
  simp only [am_wp, am_stp, am_en, am_as, am_pad, am_nth, am_set, am_st1, am_st2, am_kl, am_kill, am_mem, am_fv, am_tk, am_wt, am_bk, Option.toList, List.cons_append, List.nil_append, Nat.reduceAdd, Nat.reduceEqDiff, Nat.reduceLeDiff, reduceIte, Nat.reduceLT, or_self, true_or, or_true, if_true, if_false, and_self, and_true, true_and, not_false_eq_true, not_true_eq_false, fd_La_law_1169, fd_La_law_1170, fd_La_law_1171, fd_La_law_1173, fd_La_law_1174, fd_La_law_1175, fd_La_law_1176, fd_La_law_1177, fd_La_law_1179, g6, g7, n1, e1, i1, e2, i2]
  (try simp only [c1, x1, c2, x2, lg_eq])
  refine am_go [] 4 ?_
  simp only [am_wp, am_stp, am_en, am_as, am_pad, am_nth, am_set, am_st1, am_st2, am_kl, am_kill, am_mem, am_fv, am_tk, am_wt, am_bk, Option.toList, List.cons_append, List.nil_append, Nat.reduceAdd, Nat.reduceEqDiff, Nat.reduceLeDiff, reduceIte, Nat.reduceLT, or_self, true_or, or_true, if_true, if_false, and_self, and_true, true_and, not_false_eq_true, not_true_eq_false, fd_La_law_1180, fd_La_law_1181, fd_La_law_1182, fd_La_law_1183, g6, g7, n1, e1, i1, e2, i2]
  (try simp only [c1, x1, c2, x2, lg_eq])
  refine am_call (hA d h G) (fun o h1 q => ?_)
  obtain ⟨k, v, rfl, hC, hv, hM⟩ := q
  simp only [am_wp, am_stp, am_en, am_as, am_pad, am_nth, am_set, am_st1, am_st2, am_kl, am_kill, am_mem, am_fv, am_tk, am_wt, am_bk, Option.toList, List.cons_append, List.nil_append, Nat.reduceAdd, Nat.reduceEqDiff, Nat.reduceLeDiff, reduceIte, Nat.reduceLT, or_self, true_or, or_true, if_true, if_false, and_self, and_true, true_and, not_false_eq_true, not_true_eq_false]
  obtain ⟨b1, b2, b3, -, -⟩ := hC.1 1 (Or.inl (by decide))
  rw [g6] at b1
  rw [g7] at b2
  rw [g8] at b3
  have b4 : am_kd h1 72 = 12 := (hC.1 72 (Or.inr (by decide))).1.trans g5.1.1
  have y1 : am_I h1 1 2 = xs 2 := by rw [b3]
  have y2 : am_I h1 1 3 = xs 3 := by rw [b3]
  refine am_go [] 9 ?_
  simp only [am_wp, am_stp, am_en, am_as, am_pad, am_nth, am_set, am_st1, am_st2, am_kl, am_kill, am_mem, am_fv, am_tk, am_wt, am_bk, Option.toList, List.cons_append, List.nil_append, Nat.reduceAdd, Nat.reduceEqDiff, Nat.reduceLeDiff, reduceIte, Nat.reduceLT, or_self, true_or, or_true, if_true, if_false, and_self, and_true, true_and, not_false_eq_true, not_true_eq_false, fd_La_law_1186, fd_La_law_1188, fd_La_law_1189, fd_La_law_1190, fd_La_law_1192, fd_La_law_1193, fd_La_law_1194, fd_La_law_1195, fd_La_law_1196, b1, b2, b4, n1, e1, i1, e2, i2]
  (try simp only [c1, y1, c2, y2, lg_eq])
  refine am_go [] 4 ?_
  simp only [am_wp, am_stp, am_en, am_as, am_pad, am_nth, am_set, am_st1, am_st2, am_kl, am_kill, am_mem, am_fv, am_tk, am_wt, am_bk, Option.toList, List.cons_append, List.nil_append, Nat.reduceAdd, Nat.reduceEqDiff, Nat.reduceLeDiff, reduceIte, Nat.reduceLT, or_self, true_or, or_true, if_true, if_false, and_self, and_true, true_and, not_false_eq_true, not_true_eq_false, fd_La_law_1198, fd_La_law_1199, fd_La_law_1200, fd_La_law_1201, b1, b2, b4, n1, e1, i1, e2, i2]
  (try simp only [c1, y1, c2, y2, lg_eq])
  refine am_call hM (fun o h2 q => ?_)
  obtain ⟨b, rfl, hD, hk, hb⟩ := q
  simp only [am_wp, am_stp, am_en, am_as, am_pad, am_nth, am_set, am_st1, am_st2, am_kl, am_kill, am_mem, am_fv, am_tk, am_wt, am_bk, Option.toList, List.cons_append, List.nil_append, Nat.reduceAdd, Nat.reduceEqDiff, Nat.reduceLeDiff, reduceIte, Nat.reduceLT, or_self, true_or, or_true, if_true, if_false, and_self, and_true, true_and, not_false_eq_true, not_true_eq_false]
  obtain ⟨d1, d2, -, -⟩ := hD.1 1 (Or.inl (by decide))
  obtain ⟨q1, q2, -, q4⟩ := hD.1 108 (Or.inr rfl)
  refine tl_run G (hD.2.1.trans b4) hk (q1.trans hC.2.1) (q2.trans hC.2.2.1) (fun e => ?_) (d1.trans b1) (d2.trans b2) ?_ ?_
  · rw [q4, hv e, hb e]
  · have := hD.2.2.1; have := hC.2.2.2.1; omega
  · have := hD.2.2.2; have := hC.2.2.2.2; omega
theorem ox_octet {xs : Nat → Int32} (hA : ∀ (d : Nat) (h : am_H), lw_G 8 xs h → am_Rt nm_pr (d + 12) mi_La_octet [.ref 2, .int (xs 2), .int (xs 3), .ref 108] h (fun o h1 => ∃ (k : Int32) (v : Int64), o = .inl (some (.int k)) ∧ lw_C h h1 ∧ (k = 0 → am_L h1 108 0 = v) ∧ am_Rt nm_pr (d + 12) mi_Mo_octet [.ref 72, .int (xs 2), .int (xs 3)] h1 (fun o2 h2 => ∃ b : Int32, o2 = .inl (some (.int b)) ∧ lw_D h1 h2 ∧ am_I h2 72 0 = k ∧ (k = 0 → v = b.toInt64)))) : lw_op xs 1332 := by
  intro d h G
  obtain ⟨g1, g2, g3, g4, g5, g6, g7, g8, g9, g10⟩ := id G
  have n1 : ¬ (99 = 100) := by decide
  have e1 : (1 : Int32) + 1 = nI 2 := by decide
  obtain ⟨i1, c1⟩ := lw_rd 2 (by decide)
  have e2 : (1 : Int32) + 2 = nI 3 := by decide
  obtain ⟨i2, c2⟩ := lw_rd 3 (by decide)
  have x1 : am_I h 1 2 = xs 2 := by rw [g8]
  have x2 : am_I h 1 3 = xs 3 := by rw [g8]
  refine am_go [] 9 ?_
  simp only [am_wp, am_stp, am_en, am_as, am_pad, am_nth, am_set, am_st1, am_st2, am_kl, am_kill, am_mem, am_fv, am_tk, am_wt, am_bk, Option.toList, List.cons_append, List.nil_append, Nat.reduceAdd, Nat.reduceEqDiff, Nat.reduceLeDiff, reduceIte, Nat.reduceLT, or_self, true_or, or_true, if_true, if_false, and_self, and_true, true_and, not_false_eq_true, not_true_eq_false, fd_La_law_1332, fd_La_law_1333, fd_La_law_1334, fd_La_law_1336, fd_La_law_1337, fd_La_law_1338, fd_La_law_1339, fd_La_law_1340, fd_La_law_1342, g6, g7, n1, e1, i1, e2, i2]
  (try simp only [c1, x1, c2, x2, lg_eq])
  refine am_go [] 4 ?_
  simp only [am_wp, am_stp, am_en, am_as, am_pad, am_nth, am_set, am_st1, am_st2, am_kl, am_kill, am_mem, am_fv, am_tk, am_wt, am_bk, Option.toList, List.cons_append, List.nil_append, Nat.reduceAdd, Nat.reduceEqDiff, Nat.reduceLeDiff, reduceIte, Nat.reduceLT, or_self, true_or, or_true, if_true, if_false, and_self, and_true, true_and, not_false_eq_true, not_true_eq_false, fd_La_law_1343, fd_La_law_1344, fd_La_law_1345, fd_La_law_1346, g6, g7, n1, e1, i1, e2, i2]
  (try simp only [c1, x1, c2, x2, lg_eq])
  refine am_call (hA d h G) (fun o h1 q => ?_)
  obtain ⟨k, v, rfl, hC, hv, hM⟩ := q
  simp only [am_wp, am_stp, am_en, am_as, am_pad, am_nth, am_set, am_st1, am_st2, am_kl, am_kill, am_mem, am_fv, am_tk, am_wt, am_bk, Option.toList, List.cons_append, List.nil_append, Nat.reduceAdd, Nat.reduceEqDiff, Nat.reduceLeDiff, reduceIte, Nat.reduceLT, or_self, true_or, or_true, if_true, if_false, and_self, and_true, true_and, not_false_eq_true, not_true_eq_false]
  obtain ⟨b1, b2, b3, -, -⟩ := hC.1 1 (Or.inl (by decide))
  rw [g6] at b1
  rw [g7] at b2
  rw [g8] at b3
  have b4 : am_kd h1 72 = 12 := (hC.1 72 (Or.inr (by decide))).1.trans g5.1.1
  have y1 : am_I h1 1 2 = xs 2 := by rw [b3]
  have y2 : am_I h1 1 3 = xs 3 := by rw [b3]
  refine am_go [] 9 ?_
  simp only [am_wp, am_stp, am_en, am_as, am_pad, am_nth, am_set, am_st1, am_st2, am_kl, am_kill, am_mem, am_fv, am_tk, am_wt, am_bk, Option.toList, List.cons_append, List.nil_append, Nat.reduceAdd, Nat.reduceEqDiff, Nat.reduceLeDiff, reduceIte, Nat.reduceLT, or_self, true_or, or_true, if_true, if_false, and_self, and_true, true_and, not_false_eq_true, not_true_eq_false, fd_La_law_1349, fd_La_law_1351, fd_La_law_1352, fd_La_law_1353, fd_La_law_1355, fd_La_law_1356, fd_La_law_1357, fd_La_law_1358, fd_La_law_1359, b1, b2, b4, n1, e1, i1, e2, i2]
  (try simp only [c1, y1, c2, y2, lg_eq])
  refine am_go [] 4 ?_
  simp only [am_wp, am_stp, am_en, am_as, am_pad, am_nth, am_set, am_st1, am_st2, am_kl, am_kill, am_mem, am_fv, am_tk, am_wt, am_bk, Option.toList, List.cons_append, List.nil_append, Nat.reduceAdd, Nat.reduceEqDiff, Nat.reduceLeDiff, reduceIte, Nat.reduceLT, or_self, true_or, or_true, if_true, if_false, and_self, and_true, true_and, not_false_eq_true, not_true_eq_false, fd_La_law_1361, fd_La_law_1362, fd_La_law_1363, fd_La_law_1364, b1, b2, b4, n1, e1, i1, e2, i2]
  (try simp only [c1, y1, c2, y2, lg_eq])
  refine am_call hM (fun o h2 q => ?_)
  obtain ⟨b, rfl, hD, hk, hb⟩ := q
  simp only [am_wp, am_stp, am_en, am_as, am_pad, am_nth, am_set, am_st1, am_st2, am_kl, am_kill, am_mem, am_fv, am_tk, am_wt, am_bk, Option.toList, List.cons_append, List.nil_append, Nat.reduceAdd, Nat.reduceEqDiff, Nat.reduceLeDiff, reduceIte, Nat.reduceLT, or_self, true_or, or_true, if_true, if_false, and_self, and_true, true_and, not_false_eq_true, not_true_eq_false]
  obtain ⟨d1, d2, -, -⟩ := hD.1 1 (Or.inl (by decide))
  obtain ⟨q1, q2, -, q4⟩ := hD.1 108 (Or.inr rfl)
  refine tl_octet G (hD.2.1.trans b4) hk (q1.trans hC.2.1) (q2.trans hC.2.2.1) (fun e => ?_) (d1.trans b1) (d2.trans b2) ?_ ?_
  · rw [q4, hv e, hb e]
  · have := hD.2.2.1; have := hC.2.2.2.1; omega
  · have := hD.2.2.2; have := hC.2.2.2.2; omega
theorem ox_open {xs : Nat → Int32} (hA : ∀ (d : Nat) (h : am_H), lw_G 8 xs h → am_Rt nm_pr (d + 12) mi_La_open [.ref 2, .ref 108] h (fun o h1 => ∃ (k : Int32) (v : Int64), o = .inl (some (.int k)) ∧ lw_C h h1 ∧ (k = 0 → am_L h1 108 0 = v) ∧ am_Rt nm_pr (d + 12) mi_Mo_open [.ref 72] h1 (fun o2 h2 => ∃ b : Int32, o2 = .inl (some (.int b)) ∧ lw_D h1 h2 ∧ am_I h2 72 0 = k ∧ (k = 0 → v = b.toInt64)))) : lw_op xs 1534 := by
  intro d h G
  obtain ⟨g1, g2, g3, g4, g5, g6, g7, g8, g9, g10⟩ := id G
  have n1 : ¬ (99 = 100) := by decide
  refine am_go [] 3 ?_
  simp only [am_wp, am_stp, am_en, am_as, am_pad, am_nth, am_set, am_st1, am_st2, am_kl, am_kill, am_mem, am_fv, am_tk, am_wt, am_bk, Option.toList, List.cons_append, List.nil_append, Nat.reduceAdd, Nat.reduceEqDiff, Nat.reduceLeDiff, reduceIte, Nat.reduceLT, or_self, true_or, or_true, if_true, if_false, and_self, and_true, true_and, not_false_eq_true, not_true_eq_false, fd_La_law_1534, fd_La_law_1535, fd_La_law_1536, g6, g7, n1]
  refine am_call (hA d h G) (fun o h1 q => ?_)
  obtain ⟨k, v, rfl, hC, hv, hM⟩ := q
  simp only [am_wp, am_stp, am_en, am_as, am_pad, am_nth, am_set, am_st1, am_st2, am_kl, am_kill, am_mem, am_fv, am_tk, am_wt, am_bk, Option.toList, List.cons_append, List.nil_append, Nat.reduceAdd, Nat.reduceEqDiff, Nat.reduceLeDiff, reduceIte, Nat.reduceLT, or_self, true_or, or_true, if_true, if_false, and_self, and_true, true_and, not_false_eq_true, not_true_eq_false]
  obtain ⟨b1, b2, b3, -, -⟩ := hC.1 1 (Or.inl (by decide))
  rw [g6] at b1
  rw [g7] at b2
  rw [g8] at b3
  have b4 : am_kd h1 72 = 12 := (hC.1 72 (Or.inr (by decide))).1.trans g5.1.1
  refine am_go [] 3 ?_
  simp only [am_wp, am_stp, am_en, am_as, am_pad, am_nth, am_set, am_st1, am_st2, am_kl, am_kill, am_mem, am_fv, am_tk, am_wt, am_bk, Option.toList, List.cons_append, List.nil_append, Nat.reduceAdd, Nat.reduceEqDiff, Nat.reduceLeDiff, reduceIte, Nat.reduceLT, or_self, true_or, or_true, if_true, if_false, and_self, and_true, true_and, not_false_eq_true, not_true_eq_false, fd_La_law_1539, fd_La_law_1541, fd_La_law_1542, b1, b2, b4, n1]
  refine am_call hM (fun o h2 q => ?_)
  obtain ⟨b, rfl, hD, hk, hb⟩ := q
  simp only [am_wp, am_stp, am_en, am_as, am_pad, am_nth, am_set, am_st1, am_st2, am_kl, am_kill, am_mem, am_fv, am_tk, am_wt, am_bk, Option.toList, List.cons_append, List.nil_append, Nat.reduceAdd, Nat.reduceEqDiff, Nat.reduceLeDiff, reduceIte, Nat.reduceLT, or_self, true_or, or_true, if_true, if_false, and_self, and_true, true_and, not_false_eq_true, not_true_eq_false]
  obtain ⟨d1, d2, -, -⟩ := hD.1 1 (Or.inl (by decide))
  obtain ⟨q1, q2, -, q4⟩ := hD.1 108 (Or.inr rfl)
  refine tl_open G (hD.2.1.trans b4) hk (q1.trans hC.2.1) (q2.trans hC.2.2.1) (fun e => ?_) (d1.trans b1) (d2.trans b2) ?_ ?_
  · rw [q4, hv e, hb e]
  · have := hD.2.2.1; have := hC.2.2.2.1; omega
  · have := hD.2.2.2; have := hC.2.2.2.2; omega
theorem ox_told {xs : Nat → Int32} (hA : ∀ (d : Nat) (h : am_H), lw_G 8 xs h → am_Rt nm_pr (d + 12) mi_La_told [.ref 2, .int (xs 2), .ref 108] h (fun o h1 => ∃ (k : Int32) (v : Int64), o = .inl (some (.int k)) ∧ lw_C h h1 ∧ (k = 0 → am_L h1 108 0 = v) ∧ am_Rt nm_pr (d + 12) mi_Mo_told [.ref 72, .int (xs 2)] h1 (fun o2 h2 => ∃ b : Int32, o2 = .inl (some (.int b)) ∧ lw_D h1 h2 ∧ am_I h2 72 0 = k ∧ (k = 0 → v = b.toInt64)))) : lw_op xs 1578 := by
  intro d h G
  obtain ⟨g1, g2, g3, g4, g5, g6, g7, g8, g9, g10⟩ := id G
  have n1 : ¬ (99 = 100) := by decide
  have e1 : (1 : Int32) + 1 = nI 2 := by decide
  obtain ⟨i1, c1⟩ := lw_rd 2 (by decide)
  have x1 : am_I h 1 2 = xs 2 := by rw [g8]
  refine am_go [] 8 ?_
  simp only [am_wp, am_stp, am_en, am_as, am_pad, am_nth, am_set, am_st1, am_st2, am_kl, am_kill, am_mem, am_fv, am_tk, am_wt, am_bk, Option.toList, List.cons_append, List.nil_append, Nat.reduceAdd, Nat.reduceEqDiff, Nat.reduceLeDiff, reduceIte, Nat.reduceLT, or_self, true_or, or_true, if_true, if_false, and_self, and_true, true_and, not_false_eq_true, not_true_eq_false, fd_La_law_1578, fd_La_law_1579, fd_La_law_1580, fd_La_law_1582, fd_La_law_1583, fd_La_law_1584, fd_La_law_1585, fd_La_law_1586, g6, g7, n1, e1, i1]
  (try simp only [c1, x1, lg_eq])
  refine am_call (hA d h G) (fun o h1 q => ?_)
  obtain ⟨k, v, rfl, hC, hv, hM⟩ := q
  simp only [am_wp, am_stp, am_en, am_as, am_pad, am_nth, am_set, am_st1, am_st2, am_kl, am_kill, am_mem, am_fv, am_tk, am_wt, am_bk, Option.toList, List.cons_append, List.nil_append, Nat.reduceAdd, Nat.reduceEqDiff, Nat.reduceLeDiff, reduceIte, Nat.reduceLT, or_self, true_or, or_true, if_true, if_false, and_self, and_true, true_and, not_false_eq_true, not_true_eq_false]
  obtain ⟨b1, b2, b3, -, -⟩ := hC.1 1 (Or.inl (by decide))
  rw [g6] at b1
  rw [g7] at b2
  rw [g8] at b3
  have b4 : am_kd h1 72 = 12 := (hC.1 72 (Or.inr (by decide))).1.trans g5.1.1
  have y1 : am_I h1 1 2 = xs 2 := by rw [b3]
  refine am_go [] 8 ?_
  simp only [am_wp, am_stp, am_en, am_as, am_pad, am_nth, am_set, am_st1, am_st2, am_kl, am_kill, am_mem, am_fv, am_tk, am_wt, am_bk, Option.toList, List.cons_append, List.nil_append, Nat.reduceAdd, Nat.reduceEqDiff, Nat.reduceLeDiff, reduceIte, Nat.reduceLT, or_self, true_or, or_true, if_true, if_false, and_self, and_true, true_and, not_false_eq_true, not_true_eq_false, fd_La_law_1589, fd_La_law_1591, fd_La_law_1592, fd_La_law_1593, fd_La_law_1595, fd_La_law_1596, fd_La_law_1597, fd_La_law_1598, b1, b2, b4, n1, e1, i1]
  (try simp only [c1, y1, lg_eq])
  refine am_call hM (fun o h2 q => ?_)
  obtain ⟨b, rfl, hD, hk, hb⟩ := q
  simp only [am_wp, am_stp, am_en, am_as, am_pad, am_nth, am_set, am_st1, am_st2, am_kl, am_kill, am_mem, am_fv, am_tk, am_wt, am_bk, Option.toList, List.cons_append, List.nil_append, Nat.reduceAdd, Nat.reduceEqDiff, Nat.reduceLeDiff, reduceIte, Nat.reduceLT, or_self, true_or, or_true, if_true, if_false, and_self, and_true, true_and, not_false_eq_true, not_true_eq_false]
  obtain ⟨d1, d2, -, -⟩ := hD.1 1 (Or.inl (by decide))
  obtain ⟨q1, q2, -, q4⟩ := hD.1 108 (Or.inr rfl)
  refine tl_told G (hD.2.1.trans b4) hk (q1.trans hC.2.1) (q2.trans hC.2.2.1) (fun e => ?_) (d1.trans b1) (d2.trans b2) ?_ ?_
  · rw [q4, hv e, hb e]
  · have := hD.2.2.1; have := hC.2.2.2.1; omega
  · have := hD.2.2.2; have := hC.2.2.2.2; omega
