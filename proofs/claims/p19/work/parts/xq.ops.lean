/-! EACH CALL OF THE LAW KEEPS WHAT THE LOOP KEEPS (written by wip/tools/genlo.py) -/
def lo_op (t : Nat) : Prop := ∀ (d L P c i : Nat) (xs : Nat → Int32) (g : am_H) (Q : am_O → am_H → Prop) (w5 w6 w7 : Value), L ≤ 3585 → i + 6 < L → lw_I P c L xs g → (∀ (g1 : am_H) (w5 w6 w7 : Value), lw_I P (c + 1) L xs g1 → am_Ex nm_pr (d + 12) mt_La_law (1170, [.ref 1, .ref 2, .ref 72, .ref 108, .int (nI i), w5, w6, w7], [], g1) Q) → am_Ex nm_pr (d + 12) mt_La_law (t, [.ref 1, .ref 2, .ref 72, .ref 108, .int (nI i), w5, w6, w7], [], g) Q
theorem lo_rd {L i : Nat} (k : Nat) (hL : L ≤ 3585) (hi : i + 6 < L) (hk : k ≤ 6) : (nI i + nI k = nI (i + k)) ∧ ¬ (nI (i + k) < 0 ∨ L ≤ (nI (i + k)).toNatClampNeg) ∧ (nI (i + k)).toNatClampNeg = i + k :=
  ⟨(Int32.ofNat_add i k).symm, by rw [nI_clamp (by omega)]; exact of_eq_false (am_inb (c := i + k) (N := L) (by omega) (by omega)), nI_clamp (by omega)⟩
theorem b01.i {o : am_O} (q : b01 o) : iany o := by
  rcases q with e | e
  · exact ⟨_, e⟩
  · exact ⟨_, e⟩
theorem lo_put : lo_op 148 := by
  intro d L P c i xs g Q w5 w6 w7 hL hi I hk
  obtain ⟨w, r, k1, l1, i1, k8, l8, -, -⟩ := id I
  have n1 : ¬ (99 = 100) := by decide
  have k2 : am_kd g 2 = 1 := w.kd 2 1 (by decide)
  obtain ⟨e1, j1, c1⟩ := lo_rd 1 hL hi (by decide)
  have e1 : nI i + 1 = nI (i + 1) := e1
  obtain ⟨e2, j2, c2⟩ := lo_rd 2 hL hi (by decide)
  have e2 : nI i + 2 = nI (i + 2) := e2
  obtain ⟨e3, j3, c3⟩ := lo_rd 3 hL hi (by decide)
  have e3 : nI i + 3 = nI (i + 3) := e3
  obtain ⟨e4, j4, c4⟩ := lo_rd 4 hL hi (by decide)
  have e4 : nI i + 4 = nI (i + 4) := e4
  refine am_go [] 9 ?_
  simp only [am_wp, am_stp, am_en, am_as, am_pad, am_nth, am_set, am_st1, am_st2, am_kl, am_kill, am_mem, am_fv, am_tk, am_wt, am_bk, Option.toList, List.cons_append, List.nil_append, Nat.reduceAdd, Nat.reduceEqDiff, Nat.reduceLeDiff, reduceIte, Nat.reduceLT, or_self, true_or, or_true, if_true, if_false, and_self, and_true, true_and, not_false_eq_true, not_true_eq_false, fd_La_law_148, fd_La_law_149, fd_La_law_150, fd_La_law_152, fd_La_law_153, fd_La_law_154, fd_La_law_155, fd_La_law_156, fd_La_law_158, k1, l1, k2, n1, e1, j1, e2, j2, e3, j3, e4, j4]
  (try simp only [c1, c2, c3, c4, i1])
  refine am_go [] 9 ?_
  simp only [am_wp, am_stp, am_en, am_as, am_pad, am_nth, am_set, am_st1, am_st2, am_kl, am_kill, am_mem, am_fv, am_tk, am_wt, am_bk, Option.toList, List.cons_append, List.nil_append, Nat.reduceAdd, Nat.reduceEqDiff, Nat.reduceLeDiff, reduceIte, Nat.reduceLT, or_self, true_or, or_true, if_true, if_false, and_self, and_true, true_and, not_false_eq_true, not_true_eq_false, fd_La_law_159, fd_La_law_160, fd_La_law_162, fd_La_law_163, fd_La_law_164, fd_La_law_165, fd_La_law_166, fd_La_law_169, fd_La_law_170, k1, l1, k2, n1, e1, j1, e2, j2, e3, j3, e4, j4]
  (try simp only [c1, c2, c3, c4, i1])
  refine am_go [] 9 ?_
  simp only [am_wp, am_stp, am_en, am_as, am_pad, am_nth, am_set, am_st1, am_st2, am_kl, am_kill, am_mem, am_fv, am_tk, am_wt, am_bk, Option.toList, List.cons_append, List.nil_append, Nat.reduceAdd, Nat.reduceEqDiff, Nat.reduceLeDiff, reduceIte, Nat.reduceLT, or_self, true_or, or_true, if_true, if_false, and_self, and_true, true_and, not_false_eq_true, not_true_eq_false, fd_La_law_171, fd_La_law_172, fd_La_law_174, fd_La_law_175, fd_La_law_176, fd_La_law_177, fd_La_law_178, fd_La_law_180, fd_La_law_181, k1, l1, k2, n1, e1, j1, e2, j2, e3, j3, e4, j4]
  (try simp only [c1, c2, c3, c4, i1])
  refine am_go [] 9 ?_
  simp only [am_wp, am_stp, am_en, am_as, am_pad, am_nth, am_set, am_st1, am_st2, am_kl, am_kill, am_mem, am_fv, am_tk, am_wt, am_bk, Option.toList, List.cons_append, List.nil_append, Nat.reduceAdd, Nat.reduceEqDiff, Nat.reduceLeDiff, reduceIte, Nat.reduceLT, or_self, true_or, or_true, if_true, if_false, and_self, and_true, true_and, not_false_eq_true, not_true_eq_false, fd_La_law_182, fd_La_law_184, fd_La_law_185, fd_La_law_186, fd_La_law_187, fd_La_law_188, fd_La_law_191, fd_La_law_192, fd_La_law_193, k1, l1, k2, n1, e1, j1, e2, j2, e3, j3, e4, j4]
  (try simp only [c1, c2, c3, c4, i1])
  refine am_go [] 1 ?_
  simp only [am_wp, am_stp, am_en, am_as, am_pad, am_nth, am_set, am_st1, am_st2, am_kl, am_kill, am_mem, am_fv, am_tk, am_wt, am_bk, Option.toList, List.cons_append, List.nil_append, Nat.reduceAdd, Nat.reduceEqDiff, Nat.reduceLeDiff, reduceIte, Nat.reduceLT, or_self, true_or, or_true, if_true, if_false, and_self, and_true, true_and, not_false_eq_true, not_true_eq_false, fd_La_law_194, k1, l1, k2, n1, e1, j1, e2, j2, e3, j3, e4, j4]
  (try simp only [c1, c2, c3, c4, i1])
  refine am_call (wy_put (d := d) w k8 l8) (fun o h1 q => ?_)
  have I1 := I.wy q
  obtain ⟨⟨x, rfl⟩, -⟩ := q
  obtain ⟨-, r1, k11, l11, i11, -, -, -, -⟩ := id I1
  have k72 : am_kd h1 72 = 12 := r1.1.1.1
  simp only [am_wp, am_stp, am_en, am_as, am_pad, am_nth, am_set, am_st1, am_st2, am_kl, am_kill, am_mem, am_fv, am_tk, am_wt, am_bk, Option.toList, List.cons_append, List.nil_append, Nat.reduceAdd, Nat.reduceEqDiff, Nat.reduceLeDiff, reduceIte, Nat.reduceLT, or_self, true_or, or_true, if_true, if_false, and_self, and_true, true_and, not_false_eq_true, not_true_eq_false]
  refine am_go [] 9 ?_
  simp only [am_wp, am_stp, am_en, am_as, am_pad, am_nth, am_set, am_st1, am_st2, am_kl, am_kill, am_mem, am_fv, am_tk, am_wt, am_bk, Option.toList, List.cons_append, List.nil_append, Nat.reduceAdd, Nat.reduceEqDiff, Nat.reduceLeDiff, reduceIte, Nat.reduceLT, or_self, true_or, or_true, if_true, if_false, and_self, and_true, true_and, not_false_eq_true, not_true_eq_false, fd_La_law_197, fd_La_law_199, fd_La_law_200, fd_La_law_201, fd_La_law_203, fd_La_law_204, fd_La_law_205, fd_La_law_206, fd_La_law_207, k11, l11, k72, n1, e1, j1, e2, j2, e3, j3, e4, j4]
  (try simp only [c1, c2, c3, c4, i11])
  refine am_go [] 9 ?_
  simp only [am_wp, am_stp, am_en, am_as, am_pad, am_nth, am_set, am_st1, am_st2, am_kl, am_kill, am_mem, am_fv, am_tk, am_wt, am_bk, Option.toList, List.cons_append, List.nil_append, Nat.reduceAdd, Nat.reduceEqDiff, Nat.reduceLeDiff, reduceIte, Nat.reduceLT, or_self, true_or, or_true, if_true, if_false, and_self, and_true, true_and, not_false_eq_true, not_true_eq_false, fd_La_law_209, fd_La_law_210, fd_La_law_211, fd_La_law_213, fd_La_law_214, fd_La_law_215, fd_La_law_216, fd_La_law_217, fd_La_law_220, k11, l11, k72, n1, e1, j1, e2, j2, e3, j3, e4, j4]
  (try simp only [c1, c2, c3, c4, i11])
  refine am_go [] 9 ?_
  simp only [am_wp, am_stp, am_en, am_as, am_pad, am_nth, am_set, am_st1, am_st2, am_kl, am_kill, am_mem, am_fv, am_tk, am_wt, am_bk, Option.toList, List.cons_append, List.nil_append, Nat.reduceAdd, Nat.reduceEqDiff, Nat.reduceLeDiff, reduceIte, Nat.reduceLT, or_self, true_or, or_true, if_true, if_false, and_self, and_true, true_and, not_false_eq_true, not_true_eq_false, fd_La_law_221, fd_La_law_222, fd_La_law_223, fd_La_law_225, fd_La_law_226, fd_La_law_227, fd_La_law_228, fd_La_law_229, fd_La_law_231, k11, l11, k72, n1, e1, j1, e2, j2, e3, j3, e4, j4]
  (try simp only [c1, c2, c3, c4, i11])
  refine am_go [] 9 ?_
  simp only [am_wp, am_stp, am_en, am_as, am_pad, am_nth, am_set, am_st1, am_st2, am_kl, am_kill, am_mem, am_fv, am_tk, am_wt, am_bk, Option.toList, List.cons_append, List.nil_append, Nat.reduceAdd, Nat.reduceEqDiff, Nat.reduceLeDiff, reduceIte, Nat.reduceLT, or_self, true_or, or_true, if_true, if_false, and_self, and_true, true_and, not_false_eq_true, not_true_eq_false, fd_La_law_232, fd_La_law_233, fd_La_law_235, fd_La_law_236, fd_La_law_237, fd_La_law_238, fd_La_law_239, fd_La_law_242, fd_La_law_243, k11, l11, k72, n1, e1, j1, e2, j2, e3, j3, e4, j4]
  (try simp only [c1, c2, c3, c4, i11])
  refine am_go [] 1 ?_
  simp only [am_wp, am_stp, am_en, am_as, am_pad, am_nth, am_set, am_st1, am_st2, am_kl, am_kill, am_mem, am_fv, am_tk, am_wt, am_bk, Option.toList, List.cons_append, List.nil_append, Nat.reduceAdd, Nat.reduceEqDiff, Nat.reduceLeDiff, reduceIte, Nat.reduceLT, or_self, true_or, or_true, if_true, if_false, and_self, and_true, true_and, not_false_eq_true, not_true_eq_false, fd_La_law_244, k11, l11, k72, n1, e1, j1, e2, j2, e3, j3, e4, j4]
  (try simp only [c1, c2, c3, c4, i11])
  refine am_call (rx_put (d := d + 8) r1) (fun o h2 q => ?_)
  obtain ⟨⟨y, rfl⟩, q⟩ := q
  have I2 := I1.rq q
  simp only [am_wp, am_stp, am_en, am_as, am_pad, am_nth, am_set, am_st1, am_st2, am_kl, am_kill, am_mem, am_fv, am_tk, am_wt, am_bk, Option.toList, List.cons_append, List.nil_append, Nat.reduceAdd, Nat.reduceEqDiff, Nat.reduceLeDiff, reduceIte, Nat.reduceLT, or_self, true_or, or_true, if_true, if_false, and_self, and_true, true_and, not_false_eq_true, not_true_eq_false]
  refine am_go [1170] 2 ?_
  simp only [am_wp, am_stp, am_en, am_as, am_pad, am_nth, am_set, am_st1, am_st2, am_kl, am_kill, am_mem, am_fv, am_tk, am_wt, am_bk, Option.toList, List.cons_append, List.nil_append, Nat.reduceAdd, Nat.reduceEqDiff, Nat.reduceLeDiff, reduceIte, Nat.reduceLT, or_self, true_or, or_true, if_true, if_false, and_self, and_true, true_and, not_false_eq_true, not_true_eq_false, fd_La_law_247, fd_La_law_249]
  exact hk _ _ _ _ I2
theorem lo_remove : lo_op 252 := by
  intro d L P c i xs g Q w5 w6 w7 hL hi I hk
  obtain ⟨w, r, k1, l1, i1, k8, l8, -, -⟩ := id I
  have n1 : ¬ (99 = 100) := by decide
  have k2 : am_kd g 2 = 1 := w.kd 2 1 (by decide)
  obtain ⟨e1, j1, c1⟩ := lo_rd 1 hL hi (by decide)
  have e1 : nI i + 1 = nI (i + 1) := e1
  obtain ⟨e2, j2, c2⟩ := lo_rd 2 hL hi (by decide)
  have e2 : nI i + 2 = nI (i + 2) := e2
  refine am_go [] 9 ?_
  simp only [am_wp, am_stp, am_en, am_as, am_pad, am_nth, am_set, am_st1, am_st2, am_kl, am_kill, am_mem, am_fv, am_tk, am_wt, am_bk, Option.toList, List.cons_append, List.nil_append, Nat.reduceAdd, Nat.reduceEqDiff, Nat.reduceLeDiff, reduceIte, Nat.reduceLT, or_self, true_or, or_true, if_true, if_false, and_self, and_true, true_and, not_false_eq_true, not_true_eq_false, fd_La_law_252, fd_La_law_253, fd_La_law_254, fd_La_law_256, fd_La_law_257, fd_La_law_258, fd_La_law_259, fd_La_law_260, fd_La_law_262, k1, l1, k2, n1, e1, j1, e2, j2]
  (try simp only [c1, c2, i1])
  refine am_go [] 9 ?_
  simp only [am_wp, am_stp, am_en, am_as, am_pad, am_nth, am_set, am_st1, am_st2, am_kl, am_kill, am_mem, am_fv, am_tk, am_wt, am_bk, Option.toList, List.cons_append, List.nil_append, Nat.reduceAdd, Nat.reduceEqDiff, Nat.reduceLeDiff, reduceIte, Nat.reduceLT, or_self, true_or, or_true, if_true, if_false, and_self, and_true, true_and, not_false_eq_true, not_true_eq_false, fd_La_law_263, fd_La_law_264, fd_La_law_266, fd_La_law_267, fd_La_law_268, fd_La_law_269, fd_La_law_270, fd_La_law_273, fd_La_law_274, k1, l1, k2, n1, e1, j1, e2, j2]
  (try simp only [c1, c2, i1])
  refine am_go [] 2 ?_
  simp only [am_wp, am_stp, am_en, am_as, am_pad, am_nth, am_set, am_st1, am_st2, am_kl, am_kill, am_mem, am_fv, am_tk, am_wt, am_bk, Option.toList, List.cons_append, List.nil_append, Nat.reduceAdd, Nat.reduceEqDiff, Nat.reduceLeDiff, reduceIte, Nat.reduceLT, or_self, true_or, or_true, if_true, if_false, and_self, and_true, true_and, not_false_eq_true, not_true_eq_false, fd_La_law_275, fd_La_law_276, k1, l1, k2, n1, e1, j1, e2, j2]
  (try simp only [c1, c2, i1])
  refine am_call (wy_remove (d := d) w k8 l8) (fun o h1 q => ?_)
  have I1 := I.wy q
  obtain ⟨⟨x, rfl⟩, -⟩ := q
  obtain ⟨-, r1, k11, l11, i11, -, -, -, -⟩ := id I1
  have k72 : am_kd h1 72 = 12 := r1.1.1.1
  simp only [am_wp, am_stp, am_en, am_as, am_pad, am_nth, am_set, am_st1, am_st2, am_kl, am_kill, am_mem, am_fv, am_tk, am_wt, am_bk, Option.toList, List.cons_append, List.nil_append, Nat.reduceAdd, Nat.reduceEqDiff, Nat.reduceLeDiff, reduceIte, Nat.reduceLT, or_self, true_or, or_true, if_true, if_false, and_self, and_true, true_and, not_false_eq_true, not_true_eq_false]
  refine am_go [] 9 ?_
  simp only [am_wp, am_stp, am_en, am_as, am_pad, am_nth, am_set, am_st1, am_st2, am_kl, am_kill, am_mem, am_fv, am_tk, am_wt, am_bk, Option.toList, List.cons_append, List.nil_append, Nat.reduceAdd, Nat.reduceEqDiff, Nat.reduceLeDiff, reduceIte, Nat.reduceLT, or_self, true_or, or_true, if_true, if_false, and_self, and_true, true_and, not_false_eq_true, not_true_eq_false, fd_La_law_279, fd_La_law_281, fd_La_law_282, fd_La_law_283, fd_La_law_285, fd_La_law_286, fd_La_law_287, fd_La_law_288, fd_La_law_289, k11, l11, k72, n1, e1, j1, e2, j2]
  (try simp only [c1, c2, i11])
  refine am_go [] 9 ?_
  simp only [am_wp, am_stp, am_en, am_as, am_pad, am_nth, am_set, am_st1, am_st2, am_kl, am_kill, am_mem, am_fv, am_tk, am_wt, am_bk, Option.toList, List.cons_append, List.nil_append, Nat.reduceAdd, Nat.reduceEqDiff, Nat.reduceLeDiff, reduceIte, Nat.reduceLT, or_self, true_or, or_true, if_true, if_false, and_self, and_true, true_and, not_false_eq_true, not_true_eq_false, fd_La_law_291, fd_La_law_292, fd_La_law_293, fd_La_law_295, fd_La_law_296, fd_La_law_297, fd_La_law_298, fd_La_law_299, fd_La_law_302, k11, l11, k72, n1, e1, j1, e2, j2]
  (try simp only [c1, c2, i11])
  refine am_go [] 2 ?_
  simp only [am_wp, am_stp, am_en, am_as, am_pad, am_nth, am_set, am_st1, am_st2, am_kl, am_kill, am_mem, am_fv, am_tk, am_wt, am_bk, Option.toList, List.cons_append, List.nil_append, Nat.reduceAdd, Nat.reduceEqDiff, Nat.reduceLeDiff, reduceIte, Nat.reduceLT, or_self, true_or, or_true, if_true, if_false, and_self, and_true, true_and, not_false_eq_true, not_true_eq_false, fd_La_law_303, fd_La_law_304, k11, l11, k72, n1, e1, j1, e2, j2]
  (try simp only [c1, c2, i11])
  refine am_call (rx_remove (d := d + 8) r1) (fun o h2 q => ?_)
  obtain ⟨⟨y, rfl⟩, q⟩ := q
  have I2 := I1.rq q
  simp only [am_wp, am_stp, am_en, am_as, am_pad, am_nth, am_set, am_st1, am_st2, am_kl, am_kill, am_mem, am_fv, am_tk, am_wt, am_bk, Option.toList, List.cons_append, List.nil_append, Nat.reduceAdd, Nat.reduceEqDiff, Nat.reduceLeDiff, reduceIte, Nat.reduceLT, or_self, true_or, or_true, if_true, if_false, and_self, and_true, true_and, not_false_eq_true, not_true_eq_false]
  refine am_go [1170] 2 ?_
  simp only [am_wp, am_stp, am_en, am_as, am_pad, am_nth, am_set, am_st1, am_st2, am_kl, am_kill, am_mem, am_fv, am_tk, am_wt, am_bk, Option.toList, List.cons_append, List.nil_append, Nat.reduceAdd, Nat.reduceEqDiff, Nat.reduceLeDiff, reduceIte, Nat.reduceLT, or_self, true_or, or_true, if_true, if_false, and_self, and_true, true_and, not_false_eq_true, not_true_eq_false, fd_La_law_307, fd_La_law_309]
  exact hk _ _ _ _ I2
theorem lo_fold : lo_op 312 := by
  intro d L P c i xs g Q w5 w6 w7 hL hi I hk
  obtain ⟨w, r, k1, l1, i1, k8, l8, -, -⟩ := id I
  have n1 : ¬ (99 = 100) := by decide
  have k2 : am_kd g 2 = 1 := w.kd 2 1 (by decide)
  obtain ⟨e1, j1, c1⟩ := lo_rd 1 hL hi (by decide)
  have e1 : nI i + 1 = nI (i + 1) := e1
  obtain ⟨e2, j2, c2⟩ := lo_rd 2 hL hi (by decide)
  have e2 : nI i + 2 = nI (i + 2) := e2
  obtain ⟨e3, j3, c3⟩ := lo_rd 3 hL hi (by decide)
  have e3 : nI i + 3 = nI (i + 3) := e3
  obtain ⟨e4, j4, c4⟩ := lo_rd 4 hL hi (by decide)
  have e4 : nI i + 4 = nI (i + 4) := e4
  refine am_go [] 9 ?_
  simp only [am_wp, am_stp, am_en, am_as, am_pad, am_nth, am_set, am_st1, am_st2, am_kl, am_kill, am_mem, am_fv, am_tk, am_wt, am_bk, Option.toList, List.cons_append, List.nil_append, Nat.reduceAdd, Nat.reduceEqDiff, Nat.reduceLeDiff, reduceIte, Nat.reduceLT, or_self, true_or, or_true, if_true, if_false, and_self, and_true, true_and, not_false_eq_true, not_true_eq_false, fd_La_law_312, fd_La_law_313, fd_La_law_314, fd_La_law_316, fd_La_law_317, fd_La_law_318, fd_La_law_319, fd_La_law_320, fd_La_law_322, k1, l1, k2, n1, e1, j1, e2, j2, e3, j3, e4, j4]
  (try simp only [c1, c2, c3, c4, i1])
  refine am_go [] 9 ?_
  simp only [am_wp, am_stp, am_en, am_as, am_pad, am_nth, am_set, am_st1, am_st2, am_kl, am_kill, am_mem, am_fv, am_tk, am_wt, am_bk, Option.toList, List.cons_append, List.nil_append, Nat.reduceAdd, Nat.reduceEqDiff, Nat.reduceLeDiff, reduceIte, Nat.reduceLT, or_self, true_or, or_true, if_true, if_false, and_self, and_true, true_and, not_false_eq_true, not_true_eq_false, fd_La_law_323, fd_La_law_324, fd_La_law_326, fd_La_law_327, fd_La_law_328, fd_La_law_329, fd_La_law_330, fd_La_law_333, fd_La_law_334, k1, l1, k2, n1, e1, j1, e2, j2, e3, j3, e4, j4]
  (try simp only [c1, c2, c3, c4, i1])
  refine am_go [] 9 ?_
  simp only [am_wp, am_stp, am_en, am_as, am_pad, am_nth, am_set, am_st1, am_st2, am_kl, am_kill, am_mem, am_fv, am_tk, am_wt, am_bk, Option.toList, List.cons_append, List.nil_append, Nat.reduceAdd, Nat.reduceEqDiff, Nat.reduceLeDiff, reduceIte, Nat.reduceLT, or_self, true_or, or_true, if_true, if_false, and_self, and_true, true_and, not_false_eq_true, not_true_eq_false, fd_La_law_335, fd_La_law_336, fd_La_law_338, fd_La_law_339, fd_La_law_340, fd_La_law_341, fd_La_law_342, fd_La_law_344, fd_La_law_345, k1, l1, k2, n1, e1, j1, e2, j2, e3, j3, e4, j4]
  (try simp only [c1, c2, c3, c4, i1])
  refine am_go [] 9 ?_
  simp only [am_wp, am_stp, am_en, am_as, am_pad, am_nth, am_set, am_st1, am_st2, am_kl, am_kill, am_mem, am_fv, am_tk, am_wt, am_bk, Option.toList, List.cons_append, List.nil_append, Nat.reduceAdd, Nat.reduceEqDiff, Nat.reduceLeDiff, reduceIte, Nat.reduceLT, or_self, true_or, or_true, if_true, if_false, and_self, and_true, true_and, not_false_eq_true, not_true_eq_false, fd_La_law_346, fd_La_law_348, fd_La_law_349, fd_La_law_350, fd_La_law_351, fd_La_law_352, fd_La_law_355, fd_La_law_356, fd_La_law_357, k1, l1, k2, n1, e1, j1, e2, j2, e3, j3, e4, j4]
  (try simp only [c1, c2, c3, c4, i1])
  refine am_go [] 1 ?_
  simp only [am_wp, am_stp, am_en, am_as, am_pad, am_nth, am_set, am_st1, am_st2, am_kl, am_kill, am_mem, am_fv, am_tk, am_wt, am_bk, Option.toList, List.cons_append, List.nil_append, Nat.reduceAdd, Nat.reduceEqDiff, Nat.reduceLeDiff, reduceIte, Nat.reduceLT, or_self, true_or, or_true, if_true, if_false, and_self, and_true, true_and, not_false_eq_true, not_true_eq_false, fd_La_law_358, k1, l1, k2, n1, e1, j1, e2, j2, e3, j3, e4, j4]
  (try simp only [c1, c2, c3, c4, i1])
  refine am_call (wy_fold (d := d) w k8 l8) (fun o h1 q => ?_)
  have I1 := I.wy q
  obtain ⟨⟨x, rfl⟩, -⟩ := q
  obtain ⟨-, r1, k11, l11, i11, -, -, -, -⟩ := id I1
  have k72 : am_kd h1 72 = 12 := r1.1.1.1
  simp only [am_wp, am_stp, am_en, am_as, am_pad, am_nth, am_set, am_st1, am_st2, am_kl, am_kill, am_mem, am_fv, am_tk, am_wt, am_bk, Option.toList, List.cons_append, List.nil_append, Nat.reduceAdd, Nat.reduceEqDiff, Nat.reduceLeDiff, reduceIte, Nat.reduceLT, or_self, true_or, or_true, if_true, if_false, and_self, and_true, true_and, not_false_eq_true, not_true_eq_false]
  refine am_go [] 9 ?_
  simp only [am_wp, am_stp, am_en, am_as, am_pad, am_nth, am_set, am_st1, am_st2, am_kl, am_kill, am_mem, am_fv, am_tk, am_wt, am_bk, Option.toList, List.cons_append, List.nil_append, Nat.reduceAdd, Nat.reduceEqDiff, Nat.reduceLeDiff, reduceIte, Nat.reduceLT, or_self, true_or, or_true, if_true, if_false, and_self, and_true, true_and, not_false_eq_true, not_true_eq_false, fd_La_law_361, fd_La_law_363, fd_La_law_364, fd_La_law_365, fd_La_law_367, fd_La_law_368, fd_La_law_369, fd_La_law_370, fd_La_law_371, k11, l11, k72, n1, e1, j1, e2, j2, e3, j3, e4, j4]
  (try simp only [c1, c2, c3, c4, i11])
  refine am_go [] 9 ?_
  simp only [am_wp, am_stp, am_en, am_as, am_pad, am_nth, am_set, am_st1, am_st2, am_kl, am_kill, am_mem, am_fv, am_tk, am_wt, am_bk, Option.toList, List.cons_append, List.nil_append, Nat.reduceAdd, Nat.reduceEqDiff, Nat.reduceLeDiff, reduceIte, Nat.reduceLT, or_self, true_or, or_true, if_true, if_false, and_self, and_true, true_and, not_false_eq_true, not_true_eq_false, fd_La_law_373, fd_La_law_374, fd_La_law_375, fd_La_law_377, fd_La_law_378, fd_La_law_379, fd_La_law_380, fd_La_law_381, fd_La_law_384, k11, l11, k72, n1, e1, j1, e2, j2, e3, j3, e4, j4]
  (try simp only [c1, c2, c3, c4, i11])
  refine am_go [] 9 ?_
  simp only [am_wp, am_stp, am_en, am_as, am_pad, am_nth, am_set, am_st1, am_st2, am_kl, am_kill, am_mem, am_fv, am_tk, am_wt, am_bk, Option.toList, List.cons_append, List.nil_append, Nat.reduceAdd, Nat.reduceEqDiff, Nat.reduceLeDiff, reduceIte, Nat.reduceLT, or_self, true_or, or_true, if_true, if_false, and_self, and_true, true_and, not_false_eq_true, not_true_eq_false, fd_La_law_385, fd_La_law_386, fd_La_law_387, fd_La_law_389, fd_La_law_390, fd_La_law_391, fd_La_law_392, fd_La_law_393, fd_La_law_395, k11, l11, k72, n1, e1, j1, e2, j2, e3, j3, e4, j4]
  (try simp only [c1, c2, c3, c4, i11])
  refine am_go [] 9 ?_
  simp only [am_wp, am_stp, am_en, am_as, am_pad, am_nth, am_set, am_st1, am_st2, am_kl, am_kill, am_mem, am_fv, am_tk, am_wt, am_bk, Option.toList, List.cons_append, List.nil_append, Nat.reduceAdd, Nat.reduceEqDiff, Nat.reduceLeDiff, reduceIte, Nat.reduceLT, or_self, true_or, or_true, if_true, if_false, and_self, and_true, true_and, not_false_eq_true, not_true_eq_false, fd_La_law_396, fd_La_law_397, fd_La_law_399, fd_La_law_400, fd_La_law_401, fd_La_law_402, fd_La_law_403, fd_La_law_406, fd_La_law_407, k11, l11, k72, n1, e1, j1, e2, j2, e3, j3, e4, j4]
  (try simp only [c1, c2, c3, c4, i11])
  refine am_go [] 1 ?_
  simp only [am_wp, am_stp, am_en, am_as, am_pad, am_nth, am_set, am_st1, am_st2, am_kl, am_kill, am_mem, am_fv, am_tk, am_wt, am_bk, Option.toList, List.cons_append, List.nil_append, Nat.reduceAdd, Nat.reduceEqDiff, Nat.reduceLeDiff, reduceIte, Nat.reduceLT, or_self, true_or, or_true, if_true, if_false, and_self, and_true, true_and, not_false_eq_true, not_true_eq_false, fd_La_law_408, k11, l11, k72, n1, e1, j1, e2, j2, e3, j3, e4, j4]
  (try simp only [c1, c2, c3, c4, i11])
  refine am_call (rx_fold (d := d + 8) r1) (fun o h2 q => ?_)
  obtain ⟨⟨y, rfl⟩, q⟩ := q
  have I2 := I1.rq q
  simp only [am_wp, am_stp, am_en, am_as, am_pad, am_nth, am_set, am_st1, am_st2, am_kl, am_kill, am_mem, am_fv, am_tk, am_wt, am_bk, Option.toList, List.cons_append, List.nil_append, Nat.reduceAdd, Nat.reduceEqDiff, Nat.reduceLeDiff, reduceIte, Nat.reduceLT, or_self, true_or, or_true, if_true, if_false, and_self, and_true, true_and, not_false_eq_true, not_true_eq_false]
  refine am_go [1170] 2 ?_
  simp only [am_wp, am_stp, am_en, am_as, am_pad, am_nth, am_set, am_st1, am_st2, am_kl, am_kill, am_mem, am_fv, am_tk, am_wt, am_bk, Option.toList, List.cons_append, List.nil_append, Nat.reduceAdd, Nat.reduceEqDiff, Nat.reduceLeDiff, reduceIte, Nat.reduceLT, or_self, true_or, or_true, if_true, if_false, and_self, and_true, true_and, not_false_eq_true, not_true_eq_false, fd_La_law_411, fd_La_law_413]
  exact hk _ _ _ _ I2
theorem lo_many : lo_op 416 := by
  intro d L P c i xs g Q w5 w6 w7 hL hi I hk
  obtain ⟨w, r, k1, l1, i1, k8, l8, -, -⟩ := id I
  have n1 : ¬ (99 = 100) := by decide
  have k2 : am_kd g 2 = 1 := w.kd 2 1 (by decide)
  obtain ⟨e1, j1, c1⟩ := lo_rd 1 hL hi (by decide)
  have e1 : nI i + 1 = nI (i + 1) := e1
  obtain ⟨e2, j2, c2⟩ := lo_rd 2 hL hi (by decide)
  have e2 : nI i + 2 = nI (i + 2) := e2
  obtain ⟨e3, j3, c3⟩ := lo_rd 3 hL hi (by decide)
  have e3 : nI i + 3 = nI (i + 3) := e3
  obtain ⟨e4, j4, c4⟩ := lo_rd 4 hL hi (by decide)
  have e4 : nI i + 4 = nI (i + 4) := e4
  obtain ⟨e5, j5, c5⟩ := lo_rd 5 hL hi (by decide)
  have e5 : nI i + 5 = nI (i + 5) := e5
  obtain ⟨e6, j6, c6⟩ := lo_rd 6 hL hi (by decide)
  have e6 : nI i + 6 = nI (i + 6) := e6
  refine am_go [] 9 ?_
  simp only [am_wp, am_stp, am_en, am_as, am_pad, am_nth, am_set, am_st1, am_st2, am_kl, am_kill, am_mem, am_fv, am_tk, am_wt, am_bk, Option.toList, List.cons_append, List.nil_append, Nat.reduceAdd, Nat.reduceEqDiff, Nat.reduceLeDiff, reduceIte, Nat.reduceLT, or_self, true_or, or_true, if_true, if_false, and_self, and_true, true_and, not_false_eq_true, not_true_eq_false, fd_La_law_416, fd_La_law_417, fd_La_law_418, fd_La_law_420, fd_La_law_421, fd_La_law_422, fd_La_law_423, fd_La_law_424, fd_La_law_426, k1, l1, k2, n1, e1, j1, e2, j2, e3, j3, e4, j4, e5, j5, e6, j6]
  (try simp only [c1, c2, c3, c4, c5, c6, i1])
  refine am_go [] 9 ?_
  simp only [am_wp, am_stp, am_en, am_as, am_pad, am_nth, am_set, am_st1, am_st2, am_kl, am_kill, am_mem, am_fv, am_tk, am_wt, am_bk, Option.toList, List.cons_append, List.nil_append, Nat.reduceAdd, Nat.reduceEqDiff, Nat.reduceLeDiff, reduceIte, Nat.reduceLT, or_self, true_or, or_true, if_true, if_false, and_self, and_true, true_and, not_false_eq_true, not_true_eq_false, fd_La_law_427, fd_La_law_428, fd_La_law_429, fd_La_law_430, fd_La_law_432, fd_La_law_433, fd_La_law_434, fd_La_law_435, fd_La_law_436, k1, l1, k2, n1, e1, j1, e2, j2, e3, j3, e4, j4, e5, j5, e6, j6]
  (try simp only [c1, c2, c3, c4, c5, c6, i1])
  refine am_go [] 9 ?_
  simp only [am_wp, am_stp, am_en, am_as, am_pad, am_nth, am_set, am_st1, am_st2, am_kl, am_kill, am_mem, am_fv, am_tk, am_wt, am_bk, Option.toList, List.cons_append, List.nil_append, Nat.reduceAdd, Nat.reduceEqDiff, Nat.reduceLeDiff, reduceIte, Nat.reduceLT, or_self, true_or, or_true, if_true, if_false, and_self, and_true, true_and, not_false_eq_true, not_true_eq_false, fd_La_law_438, fd_La_law_439, fd_La_law_440, fd_La_law_442, fd_La_law_443, fd_La_law_444, fd_La_law_445, fd_La_law_446, fd_La_law_449, k1, l1, k2, n1, e1, j1, e2, j2, e3, j3, e4, j4, e5, j5, e6, j6]
  (try simp only [c1, c2, c3, c4, c5, c6, i1])
  refine am_go [] 9 ?_
  simp only [am_wp, am_stp, am_en, am_as, am_pad, am_nth, am_set, am_st1, am_st2, am_kl, am_kill, am_mem, am_fv, am_tk, am_wt, am_bk, Option.toList, List.cons_append, List.nil_append, Nat.reduceAdd, Nat.reduceEqDiff, Nat.reduceLeDiff, reduceIte, Nat.reduceLT, or_self, true_or, or_true, if_true, if_false, and_self, and_true, true_and, not_false_eq_true, not_true_eq_false, fd_La_law_450, fd_La_law_451, fd_La_law_452, fd_La_law_454, fd_La_law_455, fd_La_law_456, fd_La_law_457, fd_La_law_458, fd_La_law_460, k1, l1, k2, n1, e1, j1, e2, j2, e3, j3, e4, j4, e5, j5, e6, j6]
  (try simp only [c1, c2, c3, c4, c5, c6, i1])
  refine am_go [] 9 ?_
  simp only [am_wp, am_stp, am_en, am_as, am_pad, am_nth, am_set, am_st1, am_st2, am_kl, am_kill, am_mem, am_fv, am_tk, am_wt, am_bk, Option.toList, List.cons_append, List.nil_append, Nat.reduceAdd, Nat.reduceEqDiff, Nat.reduceLeDiff, reduceIte, Nat.reduceLT, or_self, true_or, or_true, if_true, if_false, and_self, and_true, true_and, not_false_eq_true, not_true_eq_false, fd_La_law_461, fd_La_law_462, fd_La_law_464, fd_La_law_466, fd_La_law_467, fd_La_law_468, fd_La_law_469, fd_La_law_472, fd_La_law_473, k1, l1, k2, n1, e1, j1, e2, j2, e3, j3, e4, j4, e5, j5, e6, j6]
  (try simp only [c1, c2, c3, c4, c5, c6, i1])
  refine am_go [] 2 ?_
  simp only [am_wp, am_stp, am_en, am_as, am_pad, am_nth, am_set, am_st1, am_st2, am_kl, am_kill, am_mem, am_fv, am_tk, am_wt, am_bk, Option.toList, List.cons_append, List.nil_append, Nat.reduceAdd, Nat.reduceEqDiff, Nat.reduceLeDiff, reduceIte, Nat.reduceLT, or_self, true_or, or_true, if_true, if_false, and_self, and_true, true_and, not_false_eq_true, not_true_eq_false, fd_La_law_474, fd_La_law_475, k1, l1, k2, n1, e1, j1, e2, j2, e3, j3, e4, j4, e5, j5, e6, j6]
  (try simp only [c1, c2, c3, c4, c5, c6, i1])
  refine am_call (wy_many (d := d) w k8 l8) (fun o h1 q => ?_)
  have I1 := I.wy q
  obtain ⟨⟨x, rfl⟩, -⟩ := q
  obtain ⟨-, r1, k11, l11, i11, -, -, -, -⟩ := id I1
  have k72 : am_kd h1 72 = 12 := r1.1.1.1
  simp only [am_wp, am_stp, am_en, am_as, am_pad, am_nth, am_set, am_st1, am_st2, am_kl, am_kill, am_mem, am_fv, am_tk, am_wt, am_bk, Option.toList, List.cons_append, List.nil_append, Nat.reduceAdd, Nat.reduceEqDiff, Nat.reduceLeDiff, reduceIte, Nat.reduceLT, or_self, true_or, or_true, if_true, if_false, and_self, and_true, true_and, not_false_eq_true, not_true_eq_false]
  refine am_go [] 9 ?_
  simp only [am_wp, am_stp, am_en, am_as, am_pad, am_nth, am_set, am_st1, am_st2, am_kl, am_kill, am_mem, am_fv, am_tk, am_wt, am_bk, Option.toList, List.cons_append, List.nil_append, Nat.reduceAdd, Nat.reduceEqDiff, Nat.reduceLeDiff, reduceIte, Nat.reduceLT, or_self, true_or, or_true, if_true, if_false, and_self, and_true, true_and, not_false_eq_true, not_true_eq_false, fd_La_law_478, fd_La_law_480, fd_La_law_481, fd_La_law_482, fd_La_law_484, fd_La_law_485, fd_La_law_486, fd_La_law_487, fd_La_law_488, k11, l11, k72, n1, e1, j1, e2, j2, e3, j3, e4, j4, e5, j5, e6, j6]
  (try simp only [c1, c2, c3, c4, c5, c6, i11])
  refine am_go [] 9 ?_
  simp only [am_wp, am_stp, am_en, am_as, am_pad, am_nth, am_set, am_st1, am_st2, am_kl, am_kill, am_mem, am_fv, am_tk, am_wt, am_bk, Option.toList, List.cons_append, List.nil_append, Nat.reduceAdd, Nat.reduceEqDiff, Nat.reduceLeDiff, reduceIte, Nat.reduceLT, or_self, true_or, or_true, if_true, if_false, and_self, and_true, true_and, not_false_eq_true, not_true_eq_false, fd_La_law_490, fd_La_law_491, fd_La_law_492, fd_La_law_493, fd_La_law_494, fd_La_law_496, fd_La_law_497, fd_La_law_498, fd_La_law_499, k11, l11, k72, n1, e1, j1, e2, j2, e3, j3, e4, j4, e5, j5, e6, j6]
  (try simp only [c1, c2, c3, c4, c5, c6, i11])
  refine am_go [] 9 ?_
  simp only [am_wp, am_stp, am_en, am_as, am_pad, am_nth, am_set, am_st1, am_st2, am_kl, am_kill, am_mem, am_fv, am_tk, am_wt, am_bk, Option.toList, List.cons_append, List.nil_append, Nat.reduceAdd, Nat.reduceEqDiff, Nat.reduceLeDiff, reduceIte, Nat.reduceLT, or_self, true_or, or_true, if_true, if_false, and_self, and_true, true_and, not_false_eq_true, not_true_eq_false, fd_La_law_500, fd_La_law_502, fd_La_law_503, fd_La_law_504, fd_La_law_506, fd_La_law_507, fd_La_law_508, fd_La_law_509, fd_La_law_510, k11, l11, k72, n1, e1, j1, e2, j2, e3, j3, e4, j4, e5, j5, e6, j6]
  (try simp only [c1, c2, c3, c4, c5, c6, i11])
  refine am_go [] 9 ?_
  simp only [am_wp, am_stp, am_en, am_as, am_pad, am_nth, am_set, am_st1, am_st2, am_kl, am_kill, am_mem, am_fv, am_tk, am_wt, am_bk, Option.toList, List.cons_append, List.nil_append, Nat.reduceAdd, Nat.reduceEqDiff, Nat.reduceLeDiff, reduceIte, Nat.reduceLT, or_self, true_or, or_true, if_true, if_false, and_self, and_true, true_and, not_false_eq_true, not_true_eq_false, fd_La_law_513, fd_La_law_514, fd_La_law_515, fd_La_law_516, fd_La_law_518, fd_La_law_519, fd_La_law_520, fd_La_law_521, fd_La_law_522, k11, l11, k72, n1, e1, j1, e2, j2, e3, j3, e4, j4, e5, j5, e6, j6]
  (try simp only [c1, c2, c3, c4, c5, c6, i11])
  refine am_go [] 9 ?_
  simp only [am_wp, am_stp, am_en, am_as, am_pad, am_nth, am_set, am_st1, am_st2, am_kl, am_kill, am_mem, am_fv, am_tk, am_wt, am_bk, Option.toList, List.cons_append, List.nil_append, Nat.reduceAdd, Nat.reduceEqDiff, Nat.reduceLeDiff, reduceIte, Nat.reduceLT, or_self, true_or, or_true, if_true, if_false, and_self, and_true, true_and, not_false_eq_true, not_true_eq_false, fd_La_law_524, fd_La_law_525, fd_La_law_526, fd_La_law_528, fd_La_law_530, fd_La_law_531, fd_La_law_532, fd_La_law_533, fd_La_law_536, k11, l11, k72, n1, e1, j1, e2, j2, e3, j3, e4, j4, e5, j5, e6, j6]
  (try simp only [c1, c2, c3, c4, c5, c6, i11])
  refine am_go [] 2 ?_
  simp only [am_wp, am_stp, am_en, am_as, am_pad, am_nth, am_set, am_st1, am_st2, am_kl, am_kill, am_mem, am_fv, am_tk, am_wt, am_bk, Option.toList, List.cons_append, List.nil_append, Nat.reduceAdd, Nat.reduceEqDiff, Nat.reduceLeDiff, reduceIte, Nat.reduceLT, or_self, true_or, or_true, if_true, if_false, and_self, and_true, true_and, not_false_eq_true, not_true_eq_false, fd_La_law_537, fd_La_law_538, k11, l11, k72, n1, e1, j1, e2, j2, e3, j3, e4, j4, e5, j5, e6, j6]
  (try simp only [c1, c2, c3, c4, c5, c6, i11])
  refine am_call (rx_many (d := d + 5) r1) (fun o h2 q => ?_)
  obtain ⟨⟨y, rfl⟩, q⟩ := q
  have I2 := I1.rq q
  simp only [am_wp, am_stp, am_en, am_as, am_pad, am_nth, am_set, am_st1, am_st2, am_kl, am_kill, am_mem, am_fv, am_tk, am_wt, am_bk, Option.toList, List.cons_append, List.nil_append, Nat.reduceAdd, Nat.reduceEqDiff, Nat.reduceLeDiff, reduceIte, Nat.reduceLT, or_self, true_or, or_true, if_true, if_false, and_self, and_true, true_and, not_false_eq_true, not_true_eq_false]
  refine am_go [1170] 2 ?_
  simp only [am_wp, am_stp, am_en, am_as, am_pad, am_nth, am_set, am_st1, am_st2, am_kl, am_kill, am_mem, am_fv, am_tk, am_wt, am_bk, Option.toList, List.cons_append, List.nil_append, Nat.reduceAdd, Nat.reduceEqDiff, Nat.reduceLeDiff, reduceIte, Nat.reduceLT, or_self, true_or, or_true, if_true, if_false, and_self, and_true, true_and, not_false_eq_true, not_true_eq_false, fd_La_law_541, fd_La_law_543]
  exact hk _ _ _ _ I2
theorem lo_flush : lo_op 546 := by
  intro d L P c i xs g Q w5 w6 w7 hL hi I hk
  obtain ⟨w, r, k1, l1, i1, k8, l8, -, -⟩ := id I
  have n1 : ¬ (99 = 100) := by decide
  have k2 : am_kd g 2 = 1 := w.kd 2 1 (by decide)
  refine am_go [] 3 ?_
  simp only [am_wp, am_stp, am_en, am_as, am_pad, am_nth, am_set, am_st1, am_st2, am_kl, am_kill, am_mem, am_fv, am_tk, am_wt, am_bk, Option.toList, List.cons_append, List.nil_append, Nat.reduceAdd, Nat.reduceEqDiff, Nat.reduceLeDiff, reduceIte, Nat.reduceLT, or_self, true_or, or_true, if_true, if_false, and_self, and_true, true_and, not_false_eq_true, not_true_eq_false, fd_La_law_546, fd_La_law_547, fd_La_law_548, k1, l1, k2, n1]
  refine am_call (wy_flush (d := d) w k8 l8) (fun o h1 q => ?_)
  have I1 := I.wy q
  obtain ⟨⟨x, rfl⟩, -⟩ := q
  obtain ⟨-, r1, k11, l11, i11, -, -, -, -⟩ := id I1
  have k72 : am_kd h1 72 = 12 := r1.1.1.1
  simp only [am_wp, am_stp, am_en, am_as, am_pad, am_nth, am_set, am_st1, am_st2, am_kl, am_kill, am_mem, am_fv, am_tk, am_wt, am_bk, Option.toList, List.cons_append, List.nil_append, Nat.reduceAdd, Nat.reduceEqDiff, Nat.reduceLeDiff, reduceIte, Nat.reduceLT, or_self, true_or, or_true, if_true, if_false, and_self, and_true, true_and, not_false_eq_true, not_true_eq_false]
  refine am_go [] 3 ?_
  simp only [am_wp, am_stp, am_en, am_as, am_pad, am_nth, am_set, am_st1, am_st2, am_kl, am_kill, am_mem, am_fv, am_tk, am_wt, am_bk, Option.toList, List.cons_append, List.nil_append, Nat.reduceAdd, Nat.reduceEqDiff, Nat.reduceLeDiff, reduceIte, Nat.reduceLT, or_self, true_or, or_true, if_true, if_false, and_self, and_true, true_and, not_false_eq_true, not_true_eq_false, fd_La_law_551, fd_La_law_553, fd_La_law_554, k11, l11, k72, n1]
  refine am_call (rx_flush (d := d + 5) r1) (fun o h2 q => ?_)
  obtain ⟨⟨y, rfl⟩, q⟩ := q
  have I2 := I1.rq q
  simp only [am_wp, am_stp, am_en, am_as, am_pad, am_nth, am_set, am_st1, am_st2, am_kl, am_kill, am_mem, am_fv, am_tk, am_wt, am_bk, Option.toList, List.cons_append, List.nil_append, Nat.reduceAdd, Nat.reduceEqDiff, Nat.reduceLeDiff, reduceIte, Nat.reduceLT, or_self, true_or, or_true, if_true, if_false, and_self, and_true, true_and, not_false_eq_true, not_true_eq_false]
  refine am_go [1170] 2 ?_
  simp only [am_wp, am_stp, am_en, am_as, am_pad, am_nth, am_set, am_st1, am_st2, am_kl, am_kill, am_mem, am_fv, am_tk, am_wt, am_bk, Option.toList, List.cons_append, List.nil_append, Nat.reduceAdd, Nat.reduceEqDiff, Nat.reduceLeDiff, reduceIte, Nat.reduceLT, or_self, true_or, or_true, if_true, if_false, and_self, and_true, true_and, not_false_eq_true, not_true_eq_false, fd_La_law_557, fd_La_law_559]
  exact hk _ _ _ _ I2
theorem lo_merge : lo_op 562 := by
  intro d L P c i xs g Q w5 w6 w7 hL hi I hk
  obtain ⟨w, r, k1, l1, i1, k8, l8, -, -⟩ := id I
  have n1 : ¬ (99 = 100) := by decide
  have k2 : am_kd g 2 = 1 := w.kd 2 1 (by decide)
  refine am_go [] 3 ?_
  simp only [am_wp, am_stp, am_en, am_as, am_pad, am_nth, am_set, am_st1, am_st2, am_kl, am_kill, am_mem, am_fv, am_tk, am_wt, am_bk, Option.toList, List.cons_append, List.nil_append, Nat.reduceAdd, Nat.reduceEqDiff, Nat.reduceLeDiff, reduceIte, Nat.reduceLT, or_self, true_or, or_true, if_true, if_false, and_self, and_true, true_and, not_false_eq_true, not_true_eq_false, fd_La_law_562, fd_La_law_563, fd_La_law_564, k1, l1, k2, n1]
  refine am_call (wy_merge (d := d) w k8 l8) (fun o h1 q => ?_)
  have I1 := I.wy q
  obtain ⟨⟨x, rfl⟩, -⟩ := q
  obtain ⟨-, r1, k11, l11, i11, -, -, -, -⟩ := id I1
  have k72 : am_kd h1 72 = 12 := r1.1.1.1
  simp only [am_wp, am_stp, am_en, am_as, am_pad, am_nth, am_set, am_st1, am_st2, am_kl, am_kill, am_mem, am_fv, am_tk, am_wt, am_bk, Option.toList, List.cons_append, List.nil_append, Nat.reduceAdd, Nat.reduceEqDiff, Nat.reduceLeDiff, reduceIte, Nat.reduceLT, or_self, true_or, or_true, if_true, if_false, and_self, and_true, true_and, not_false_eq_true, not_true_eq_false]
  refine am_go [] 3 ?_
  simp only [am_wp, am_stp, am_en, am_as, am_pad, am_nth, am_set, am_st1, am_st2, am_kl, am_kill, am_mem, am_fv, am_tk, am_wt, am_bk, Option.toList, List.cons_append, List.nil_append, Nat.reduceAdd, Nat.reduceEqDiff, Nat.reduceLeDiff, reduceIte, Nat.reduceLT, or_self, true_or, or_true, if_true, if_false, and_self, and_true, true_and, not_false_eq_true, not_true_eq_false, fd_La_law_567, fd_La_law_569, fd_La_law_570, k11, l11, k72, n1]
  refine am_call (rx_merge (d := d + 5) r1) (fun o h2 q => ?_)
  obtain ⟨⟨y, rfl⟩, q⟩ := q
  have I2 := I1.rq q
  simp only [am_wp, am_stp, am_en, am_as, am_pad, am_nth, am_set, am_st1, am_st2, am_kl, am_kill, am_mem, am_fv, am_tk, am_wt, am_bk, Option.toList, List.cons_append, List.nil_append, Nat.reduceAdd, Nat.reduceEqDiff, Nat.reduceLeDiff, reduceIte, Nat.reduceLT, or_self, true_or, or_true, if_true, if_false, and_self, and_true, true_and, not_false_eq_true, not_true_eq_false]
  refine am_go [1170] 2 ?_
  simp only [am_wp, am_stp, am_en, am_as, am_pad, am_nth, am_set, am_st1, am_st2, am_kl, am_kill, am_mem, am_fv, am_tk, am_wt, am_bk, Option.toList, List.cons_append, List.nil_append, Nat.reduceAdd, Nat.reduceEqDiff, Nat.reduceLeDiff, reduceIte, Nat.reduceLT, or_self, true_or, or_true, if_true, if_false, and_self, and_true, true_and, not_false_eq_true, not_true_eq_false, fd_La_law_573, fd_La_law_575]
  exact hk _ _ _ _ I2
theorem lo_mark : lo_op 578 := by
  intro d L P c i xs g Q w5 w6 w7 hL hi I hk
  obtain ⟨w, r, k1, l1, i1, k8, l8, -, -⟩ := id I
  have n1 : ¬ (99 = 100) := by decide
  have k2 : am_kd g 2 = 1 := w.kd 2 1 (by decide)
  refine am_go [] 3 ?_
  simp only [am_wp, am_stp, am_en, am_as, am_pad, am_nth, am_set, am_st1, am_st2, am_kl, am_kill, am_mem, am_fv, am_tk, am_wt, am_bk, Option.toList, List.cons_append, List.nil_append, Nat.reduceAdd, Nat.reduceEqDiff, Nat.reduceLeDiff, reduceIte, Nat.reduceLT, or_self, true_or, or_true, if_true, if_false, and_self, and_true, true_and, not_false_eq_true, not_true_eq_false, fd_La_law_578, fd_La_law_579, fd_La_law_580, k1, l1, k2, n1]
  refine am_call (wy_mark (d := d) w k8 l8) (fun o h1 q => ?_)
  have I1 := I.wy q
  obtain ⟨⟨x, rfl⟩, -⟩ := q
  obtain ⟨-, r1, k11, l11, i11, -, -, -, -⟩ := id I1
  have k72 : am_kd h1 72 = 12 := r1.1.1.1
  simp only [am_wp, am_stp, am_en, am_as, am_pad, am_nth, am_set, am_st1, am_st2, am_kl, am_kill, am_mem, am_fv, am_tk, am_wt, am_bk, Option.toList, List.cons_append, List.nil_append, Nat.reduceAdd, Nat.reduceEqDiff, Nat.reduceLeDiff, reduceIte, Nat.reduceLT, or_self, true_or, or_true, if_true, if_false, and_self, and_true, true_and, not_false_eq_true, not_true_eq_false]
  refine am_go [] 3 ?_
  simp only [am_wp, am_stp, am_en, am_as, am_pad, am_nth, am_set, am_st1, am_st2, am_kl, am_kill, am_mem, am_fv, am_tk, am_wt, am_bk, Option.toList, List.cons_append, List.nil_append, Nat.reduceAdd, Nat.reduceEqDiff, Nat.reduceLeDiff, reduceIte, Nat.reduceLT, or_self, true_or, or_true, if_true, if_false, and_self, and_true, true_and, not_false_eq_true, not_true_eq_false, fd_La_law_583, fd_La_law_585, fd_La_law_586, k11, l11, k72, n1]
  refine am_call (rx_mark (d := d + 4) r1) (fun o h2 q => ?_)
  obtain ⟨⟨y, rfl⟩, q⟩ := q
  have I2 := I1.rq q
  simp only [am_wp, am_stp, am_en, am_as, am_pad, am_nth, am_set, am_st1, am_st2, am_kl, am_kill, am_mem, am_fv, am_tk, am_wt, am_bk, Option.toList, List.cons_append, List.nil_append, Nat.reduceAdd, Nat.reduceEqDiff, Nat.reduceLeDiff, reduceIte, Nat.reduceLT, or_self, true_or, or_true, if_true, if_false, and_self, and_true, true_and, not_false_eq_true, not_true_eq_false]
  refine am_go [1170] 2 ?_
  simp only [am_wp, am_stp, am_en, am_as, am_pad, am_nth, am_set, am_st1, am_st2, am_kl, am_kill, am_mem, am_fv, am_tk, am_wt, am_bk, Option.toList, List.cons_append, List.nil_append, Nat.reduceAdd, Nat.reduceEqDiff, Nat.reduceLeDiff, reduceIte, Nat.reduceLT, or_self, true_or, or_true, if_true, if_false, and_self, and_true, true_and, not_false_eq_true, not_true_eq_false, fd_La_law_589, fd_La_law_591]
  exact hk _ _ _ _ I2
theorem lo_release : lo_op 594 := by
  intro d L P c i xs g Q w5 w6 w7 hL hi I hk
  obtain ⟨w, r, k1, l1, i1, k8, l8, -, -⟩ := id I
  have n1 : ¬ (99 = 100) := by decide
  have k2 : am_kd g 2 = 1 := w.kd 2 1 (by decide)
  obtain ⟨e1, j1, c1⟩ := lo_rd 1 hL hi (by decide)
  have e1 : nI i + 1 = nI (i + 1) := e1
  refine am_go [] 8 ?_
  simp only [am_wp, am_stp, am_en, am_as, am_pad, am_nth, am_set, am_st1, am_st2, am_kl, am_kill, am_mem, am_fv, am_tk, am_wt, am_bk, Option.toList, List.cons_append, List.nil_append, Nat.reduceAdd, Nat.reduceEqDiff, Nat.reduceLeDiff, reduceIte, Nat.reduceLT, or_self, true_or, or_true, if_true, if_false, and_self, and_true, true_and, not_false_eq_true, not_true_eq_false, fd_La_law_594, fd_La_law_595, fd_La_law_596, fd_La_law_598, fd_La_law_599, fd_La_law_600, fd_La_law_601, fd_La_law_602, k1, l1, k2, n1, e1, j1]
  (try simp only [c1, i1])
  refine am_call (wy_release (d := d) w k8 l8) (fun o h1 q => ?_)
  have I1 := I.wy q
  obtain ⟨⟨x, rfl⟩, -⟩ := q
  obtain ⟨-, r1, k11, l11, i11, -, -, -, -⟩ := id I1
  have k72 : am_kd h1 72 = 12 := r1.1.1.1
  simp only [am_wp, am_stp, am_en, am_as, am_pad, am_nth, am_set, am_st1, am_st2, am_kl, am_kill, am_mem, am_fv, am_tk, am_wt, am_bk, Option.toList, List.cons_append, List.nil_append, Nat.reduceAdd, Nat.reduceEqDiff, Nat.reduceLeDiff, reduceIte, Nat.reduceLT, or_self, true_or, or_true, if_true, if_false, and_self, and_true, true_and, not_false_eq_true, not_true_eq_false]
  refine am_go [] 8 ?_
  simp only [am_wp, am_stp, am_en, am_as, am_pad, am_nth, am_set, am_st1, am_st2, am_kl, am_kill, am_mem, am_fv, am_tk, am_wt, am_bk, Option.toList, List.cons_append, List.nil_append, Nat.reduceAdd, Nat.reduceEqDiff, Nat.reduceLeDiff, reduceIte, Nat.reduceLT, or_self, true_or, or_true, if_true, if_false, and_self, and_true, true_and, not_false_eq_true, not_true_eq_false, fd_La_law_605, fd_La_law_607, fd_La_law_608, fd_La_law_609, fd_La_law_611, fd_La_law_612, fd_La_law_613, fd_La_law_614, k11, l11, k72, n1, e1, j1]
  (try simp only [c1, i11])
  refine am_call (rx_release (d := d + 9) r1) (fun o h2 q => ?_)
  obtain ⟨⟨y, rfl⟩, q⟩ := q
  have I2 := I1.rq q
  simp only [am_wp, am_stp, am_en, am_as, am_pad, am_nth, am_set, am_st1, am_st2, am_kl, am_kill, am_mem, am_fv, am_tk, am_wt, am_bk, Option.toList, List.cons_append, List.nil_append, Nat.reduceAdd, Nat.reduceEqDiff, Nat.reduceLeDiff, reduceIte, Nat.reduceLT, or_self, true_or, or_true, if_true, if_false, and_self, and_true, true_and, not_false_eq_true, not_true_eq_false]
  refine am_go [1170] 2 ?_
  simp only [am_wp, am_stp, am_en, am_as, am_pad, am_nth, am_set, am_st1, am_st2, am_kl, am_kill, am_mem, am_fv, am_tk, am_wt, am_bk, Option.toList, List.cons_append, List.nil_append, Nat.reduceAdd, Nat.reduceEqDiff, Nat.reduceLeDiff, reduceIte, Nat.reduceLT, or_self, true_or, or_true, if_true, if_false, and_self, and_true, true_and, not_false_eq_true, not_true_eq_false, fd_La_law_617, fd_La_law_619]
  exact hk _ _ _ _ I2
theorem lo_get : lo_op 622 := by
  intro d L P c i xs g Q w5 w6 w7 hL hi I hk
  obtain ⟨w, r, k1, l1, i1, k8, l8, -, -⟩ := id I
  have n1 : ¬ (99 = 100) := by decide
  have k2 : am_kd g 2 = 1 := w.kd 2 1 (by decide)
  obtain ⟨e1, j1, c1⟩ := lo_rd 1 hL hi (by decide)
  have e1 : nI i + 1 = nI (i + 1) := e1
  obtain ⟨e2, j2, c2⟩ := lo_rd 2 hL hi (by decide)
  have e2 : nI i + 2 = nI (i + 2) := e2
  obtain ⟨e3, j3, c3⟩ := lo_rd 3 hL hi (by decide)
  have e3 : nI i + 3 = nI (i + 3) := e3
  refine am_go [] 9 ?_
  simp only [am_wp, am_stp, am_en, am_as, am_pad, am_nth, am_set, am_st1, am_st2, am_kl, am_kill, am_mem, am_fv, am_tk, am_wt, am_bk, Option.toList, List.cons_append, List.nil_append, Nat.reduceAdd, Nat.reduceEqDiff, Nat.reduceLeDiff, reduceIte, Nat.reduceLT, or_self, true_or, or_true, if_true, if_false, and_self, and_true, true_and, not_false_eq_true, not_true_eq_false, fd_La_law_622, fd_La_law_623, fd_La_law_624, fd_La_law_626, fd_La_law_627, fd_La_law_628, fd_La_law_629, fd_La_law_630, fd_La_law_632, k1, l1, k2, n1, e1, j1, e2, j2, e3, j3]
  (try simp only [c1, c2, c3, i1])
  refine am_go [] 9 ?_
  simp only [am_wp, am_stp, am_en, am_as, am_pad, am_nth, am_set, am_st1, am_st2, am_kl, am_kill, am_mem, am_fv, am_tk, am_wt, am_bk, Option.toList, List.cons_append, List.nil_append, Nat.reduceAdd, Nat.reduceEqDiff, Nat.reduceLeDiff, reduceIte, Nat.reduceLT, or_self, true_or, or_true, if_true, if_false, and_self, and_true, true_and, not_false_eq_true, not_true_eq_false, fd_La_law_633, fd_La_law_634, fd_La_law_635, fd_La_law_636, fd_La_law_638, fd_La_law_639, fd_La_law_640, fd_La_law_642, fd_La_law_643, k1, l1, k2, n1, e1, j1, e2, j2, e3, j3]
  (try simp only [c1, c2, c3, i1])
  refine am_go [] 7 ?_
  simp only [am_wp, am_stp, am_en, am_as, am_pad, am_nth, am_set, am_st1, am_st2, am_kl, am_kill, am_mem, am_fv, am_tk, am_wt, am_bk, Option.toList, List.cons_append, List.nil_append, Nat.reduceAdd, Nat.reduceEqDiff, Nat.reduceLeDiff, reduceIte, Nat.reduceLT, or_self, true_or, or_true, if_true, if_false, and_self, and_true, true_and, not_false_eq_true, not_true_eq_false, fd_La_law_644, fd_La_law_645, fd_La_law_646, fd_La_law_649, fd_La_law_650, fd_La_law_651, fd_La_law_652, k1, l1, k2, n1, e1, j1, e2, j2, e3, j3]
  (try simp only [c1, c2, c3, i1])
  refine am_call (wy_get (d := d) w k8 l8) (fun o h1 q => ?_)
  have I1 := I.wy q
  obtain ⟨⟨x, rfl⟩, -⟩ := q
  obtain ⟨-, r1, k11, l11, i11, -, -, -, -⟩ := id I1
  have k72 : am_kd h1 72 = 12 := r1.1.1.1
  simp only [am_wp, am_stp, am_en, am_as, am_pad, am_nth, am_set, am_st1, am_st2, am_kl, am_kill, am_mem, am_fv, am_tk, am_wt, am_bk, Option.toList, List.cons_append, List.nil_append, Nat.reduceAdd, Nat.reduceEqDiff, Nat.reduceLeDiff, reduceIte, Nat.reduceLT, or_self, true_or, or_true, if_true, if_false, and_self, and_true, true_and, not_false_eq_true, not_true_eq_false]
  refine am_go [] 9 ?_
  simp only [am_wp, am_stp, am_en, am_as, am_pad, am_nth, am_set, am_st1, am_st2, am_kl, am_kill, am_mem, am_fv, am_tk, am_wt, am_bk, Option.toList, List.cons_append, List.nil_append, Nat.reduceAdd, Nat.reduceEqDiff, Nat.reduceLeDiff, reduceIte, Nat.reduceLT, or_self, true_or, or_true, if_true, if_false, and_self, and_true, true_and, not_false_eq_true, not_true_eq_false, fd_La_law_655, fd_La_law_657, fd_La_law_658, fd_La_law_659, fd_La_law_661, fd_La_law_662, fd_La_law_663, fd_La_law_664, fd_La_law_665, k11, l11, k72, n1, e1, j1, e2, j2, e3, j3]
  (try simp only [c1, c2, c3, i11])
  refine am_go [] 9 ?_
  simp only [am_wp, am_stp, am_en, am_as, am_pad, am_nth, am_set, am_st1, am_st2, am_kl, am_kill, am_mem, am_fv, am_tk, am_wt, am_bk, Option.toList, List.cons_append, List.nil_append, Nat.reduceAdd, Nat.reduceEqDiff, Nat.reduceLeDiff, reduceIte, Nat.reduceLT, or_self, true_or, or_true, if_true, if_false, and_self, and_true, true_and, not_false_eq_true, not_true_eq_false, fd_La_law_667, fd_La_law_668, fd_La_law_669, fd_La_law_670, fd_La_law_671, fd_La_law_673, fd_La_law_674, fd_La_law_675, fd_La_law_677, k11, l11, k72, n1, e1, j1, e2, j2, e3, j3]
  (try simp only [c1, c2, c3, i11])
  refine am_go [] 7 ?_
  simp only [am_wp, am_stp, am_en, am_as, am_pad, am_nth, am_set, am_st1, am_st2, am_kl, am_kill, am_mem, am_fv, am_tk, am_wt, am_bk, Option.toList, List.cons_append, List.nil_append, Nat.reduceAdd, Nat.reduceEqDiff, Nat.reduceLeDiff, reduceIte, Nat.reduceLT, or_self, true_or, or_true, if_true, if_false, and_self, and_true, true_and, not_false_eq_true, not_true_eq_false, fd_La_law_678, fd_La_law_679, fd_La_law_680, fd_La_law_681, fd_La_law_684, fd_La_law_685, fd_La_law_686, k11, l11, k72, n1, e1, j1, e2, j2, e3, j3]
  (try simp only [c1, c2, c3, i11])
  refine am_call (rx_get (d := d + 8) r1) (fun o h2 q => ?_)
  obtain ⟨⟨y, rfl⟩, q⟩ := q
  have I2 := I1.rq q
  simp only [am_wp, am_stp, am_en, am_as, am_pad, am_nth, am_set, am_st1, am_st2, am_kl, am_kill, am_mem, am_fv, am_tk, am_wt, am_bk, Option.toList, List.cons_append, List.nil_append, Nat.reduceAdd, Nat.reduceEqDiff, Nat.reduceLeDiff, reduceIte, Nat.reduceLT, or_self, true_or, or_true, if_true, if_false, and_self, and_true, true_and, not_false_eq_true, not_true_eq_false]
  refine am_go [1170] 2 ?_
  simp only [am_wp, am_stp, am_en, am_as, am_pad, am_nth, am_set, am_st1, am_st2, am_kl, am_kill, am_mem, am_fv, am_tk, am_wt, am_bk, Option.toList, List.cons_append, List.nil_append, Nat.reduceAdd, Nat.reduceEqDiff, Nat.reduceLeDiff, reduceIte, Nat.reduceLT, or_self, true_or, or_true, if_true, if_false, and_self, and_true, true_and, not_false_eq_true, not_true_eq_false, fd_La_law_689, fd_La_law_691]
  exact hk _ _ _ _ I2
theorem lo_state : lo_op 694 := by
  intro d L P c i xs g Q w5 w6 w7 hL hi I hk
  obtain ⟨w, r, k1, l1, i1, k8, l8, -, -⟩ := id I
  have n1 : ¬ (99 = 100) := by decide
  have k2 : am_kd g 2 = 1 := w.kd 2 1 (by decide)
  refine am_go [] 2 ?_
  simp only [am_wp, am_stp, am_en, am_as, am_pad, am_nth, am_set, am_st1, am_st2, am_kl, am_kill, am_mem, am_fv, am_tk, am_wt, am_bk, Option.toList, List.cons_append, List.nil_append, Nat.reduceAdd, Nat.reduceEqDiff, Nat.reduceLeDiff, reduceIte, Nat.reduceLT, or_self, true_or, or_true, if_true, if_false, and_self, and_true, true_and, not_false_eq_true, not_true_eq_false, fd_La_law_694, fd_La_law_695, k1, l1, k2, n1]
  refine am_call (ww_state (d := d + 11) w) (fun o h1 q => ?_)
  obtain ⟨⟨x, rfl⟩, rfl⟩ := q
  have I1 := I.up
  obtain ⟨-, r1, k11, l11, i11, -, -, -, -⟩ := id I1
  have k72 : am_kd h1 72 = 12 := r1.1.1.1
  simp only [am_wp, am_stp, am_en, am_as, am_pad, am_nth, am_set, am_st1, am_st2, am_kl, am_kill, am_mem, am_fv, am_tk, am_wt, am_bk, Option.toList, List.cons_append, List.nil_append, Nat.reduceAdd, Nat.reduceEqDiff, Nat.reduceLeDiff, reduceIte, Nat.reduceLT, or_self, true_or, or_true, if_true, if_false, and_self, and_true, true_and, not_false_eq_true, not_true_eq_false]
  refine am_go [] 3 ?_
  simp only [am_wp, am_stp, am_en, am_as, am_pad, am_nth, am_set, am_st1, am_st2, am_kl, am_kill, am_mem, am_fv, am_tk, am_wt, am_bk, Option.toList, List.cons_append, List.nil_append, Nat.reduceAdd, Nat.reduceEqDiff, Nat.reduceLeDiff, reduceIte, Nat.reduceLT, or_self, true_or, or_true, if_true, if_false, and_self, and_true, true_and, not_false_eq_true, not_true_eq_false, fd_La_law_698, fd_La_law_699, fd_La_law_700, k11, l11, k72, n1]
  refine am_call (rx_state (d := d + 11) r1) (fun o h2 q => ?_)
  obtain ⟨⟨y, rfl⟩, q⟩ := q
  have I2 := I1.rq q
  simp only [am_wp, am_stp, am_en, am_as, am_pad, am_nth, am_set, am_st1, am_st2, am_kl, am_kill, am_mem, am_fv, am_tk, am_wt, am_bk, Option.toList, List.cons_append, List.nil_append, Nat.reduceAdd, Nat.reduceEqDiff, Nat.reduceLeDiff, reduceIte, Nat.reduceLT, or_self, true_or, or_true, if_true, if_false, and_self, and_true, true_and, not_false_eq_true, not_true_eq_false]
  refine am_go [1170] 2 ?_
  simp only [am_wp, am_stp, am_en, am_as, am_pad, am_nth, am_set, am_st1, am_st2, am_kl, am_kill, am_mem, am_fv, am_tk, am_wt, am_bk, Option.toList, List.cons_append, List.nil_append, Nat.reduceAdd, Nat.reduceEqDiff, Nat.reduceLeDiff, reduceIte, Nat.reduceLT, or_self, true_or, or_true, if_true, if_false, and_self, and_true, true_and, not_false_eq_true, not_true_eq_false, fd_La_law_703, fd_La_law_704]
  exact hk _ _ _ _ I2
theorem lo_range : lo_op 707 := by
  intro d L P c i xs g Q w5 w6 w7 hL hi I hk
  obtain ⟨w, r, k1, l1, i1, k8, l8, -, -⟩ := id I
  have n1 : ¬ (99 = 100) := by decide
  have k2 : am_kd g 2 = 1 := w.kd 2 1 (by decide)
  obtain ⟨e1, j1, c1⟩ := lo_rd 1 hL hi (by decide)
  have e1 : nI i + 1 = nI (i + 1) := e1
  obtain ⟨e2, j2, c2⟩ := lo_rd 2 hL hi (by decide)
  have e2 : nI i + 2 = nI (i + 2) := e2
  obtain ⟨e3, j3, c3⟩ := lo_rd 3 hL hi (by decide)
  have e3 : nI i + 3 = nI (i + 3) := e3
  obtain ⟨e4, j4, c4⟩ := lo_rd 4 hL hi (by decide)
  have e4 : nI i + 4 = nI (i + 4) := e4
  obtain ⟨e5, j5, c5⟩ := lo_rd 5 hL hi (by decide)
  have e5 : nI i + 5 = nI (i + 5) := e5
  refine am_go [] 9 ?_
  simp only [am_wp, am_stp, am_en, am_as, am_pad, am_nth, am_set, am_st1, am_st2, am_kl, am_kill, am_mem, am_fv, am_tk, am_wt, am_bk, Option.toList, List.cons_append, List.nil_append, Nat.reduceAdd, Nat.reduceEqDiff, Nat.reduceLeDiff, reduceIte, Nat.reduceLT, or_self, true_or, or_true, if_true, if_false, and_self, and_true, true_and, not_false_eq_true, not_true_eq_false, fd_La_law_707, fd_La_law_708, fd_La_law_709, fd_La_law_711, fd_La_law_712, fd_La_law_713, fd_La_law_714, fd_La_law_715, fd_La_law_717, k1, l1, k2, n1, e1, j1, e2, j2, e3, j3, e4, j4, e5, j5]
  (try simp only [c1, c2, c3, c4, c5, i1])
  refine am_go [] 9 ?_
  simp only [am_wp, am_stp, am_en, am_as, am_pad, am_nth, am_set, am_st1, am_st2, am_kl, am_kill, am_mem, am_fv, am_tk, am_wt, am_bk, Option.toList, List.cons_append, List.nil_append, Nat.reduceAdd, Nat.reduceEqDiff, Nat.reduceLeDiff, reduceIte, Nat.reduceLT, or_self, true_or, or_true, if_true, if_false, and_self, and_true, true_and, not_false_eq_true, not_true_eq_false, fd_La_law_718, fd_La_law_719, fd_La_law_720, fd_La_law_721, fd_La_law_723, fd_La_law_724, fd_La_law_725, fd_La_law_727, fd_La_law_728, k1, l1, k2, n1, e1, j1, e2, j2, e3, j3, e4, j4, e5, j5]
  (try simp only [c1, c2, c3, c4, c5, i1])
  refine am_go [] 9 ?_
  simp only [am_wp, am_stp, am_en, am_as, am_pad, am_nth, am_set, am_st1, am_st2, am_kl, am_kill, am_mem, am_fv, am_tk, am_wt, am_bk, Option.toList, List.cons_append, List.nil_append, Nat.reduceAdd, Nat.reduceEqDiff, Nat.reduceLeDiff, reduceIte, Nat.reduceLT, or_self, true_or, or_true, if_true, if_false, and_self, and_true, true_and, not_false_eq_true, not_true_eq_false, fd_La_law_729, fd_La_law_730, fd_La_law_731, fd_La_law_734, fd_La_law_735, fd_La_law_736, fd_La_law_737, fd_La_law_739, fd_La_law_740, k1, l1, k2, n1, e1, j1, e2, j2, e3, j3, e4, j4, e5, j5]
  (try simp only [c1, c2, c3, c4, c5, i1])
  refine am_go [] 9 ?_
  simp only [am_wp, am_stp, am_en, am_as, am_pad, am_nth, am_set, am_st1, am_st2, am_kl, am_kill, am_mem, am_fv, am_tk, am_wt, am_bk, Option.toList, List.cons_append, List.nil_append, Nat.reduceAdd, Nat.reduceEqDiff, Nat.reduceLeDiff, reduceIte, Nat.reduceLT, or_self, true_or, or_true, if_true, if_false, and_self, and_true, true_and, not_false_eq_true, not_true_eq_false, fd_La_law_741, fd_La_law_742, fd_La_law_743, fd_La_law_745, fd_La_law_746, fd_La_law_747, fd_La_law_749, fd_La_law_750, fd_La_law_751, k1, l1, k2, n1, e1, j1, e2, j2, e3, j3, e4, j4, e5, j5]
  (try simp only [c1, c2, c3, c4, c5, i1])
  refine am_go [] 6 ?_
  simp only [am_wp, am_stp, am_en, am_as, am_pad, am_nth, am_set, am_st1, am_st2, am_kl, am_kill, am_mem, am_fv, am_tk, am_wt, am_bk, Option.toList, List.cons_append, List.nil_append, Nat.reduceAdd, Nat.reduceEqDiff, Nat.reduceLeDiff, reduceIte, Nat.reduceLT, or_self, true_or, or_true, if_true, if_false, and_self, and_true, true_and, not_false_eq_true, not_true_eq_false, fd_La_law_752, fd_La_law_753, fd_La_law_756, fd_La_law_757, fd_La_law_758, fd_La_law_759, k1, l1, k2, n1, e1, j1, e2, j2, e3, j3, e4, j4, e5, j5]
  (try simp only [c1, c2, c3, c4, c5, i1])
  refine am_call (wy_range (d := d) w k8 l8) (fun o h1 q => ?_)
  have I1 := I.wy q
  obtain ⟨⟨x, rfl⟩, -⟩ := q
  obtain ⟨-, r1, k11, l11, i11, -, -, -, -⟩ := id I1
  have k72 : am_kd h1 72 = 12 := r1.1.1.1
  simp only [am_wp, am_stp, am_en, am_as, am_pad, am_nth, am_set, am_st1, am_st2, am_kl, am_kill, am_mem, am_fv, am_tk, am_wt, am_bk, Option.toList, List.cons_append, List.nil_append, Nat.reduceAdd, Nat.reduceEqDiff, Nat.reduceLeDiff, reduceIte, Nat.reduceLT, or_self, true_or, or_true, if_true, if_false, and_self, and_true, true_and, not_false_eq_true, not_true_eq_false]
  refine am_go [] 9 ?_
  simp only [am_wp, am_stp, am_en, am_as, am_pad, am_nth, am_set, am_st1, am_st2, am_kl, am_kill, am_mem, am_fv, am_tk, am_wt, am_bk, Option.toList, List.cons_append, List.nil_append, Nat.reduceAdd, Nat.reduceEqDiff, Nat.reduceLeDiff, reduceIte, Nat.reduceLT, or_self, true_or, or_true, if_true, if_false, and_self, and_true, true_and, not_false_eq_true, not_true_eq_false, fd_La_law_762, fd_La_law_764, fd_La_law_765, fd_La_law_766, fd_La_law_768, fd_La_law_769, fd_La_law_770, fd_La_law_771, fd_La_law_772, k11, l11, k72, n1, e1, j1, e2, j2, e3, j3, e4, j4, e5, j5]
  (try simp only [c1, c2, c3, c4, c5, i11])
  refine am_go [] 9 ?_
  simp only [am_wp, am_stp, am_en, am_as, am_pad, am_nth, am_set, am_st1, am_st2, am_kl, am_kill, am_mem, am_fv, am_tk, am_wt, am_bk, Option.toList, List.cons_append, List.nil_append, Nat.reduceAdd, Nat.reduceEqDiff, Nat.reduceLeDiff, reduceIte, Nat.reduceLT, or_self, true_or, or_true, if_true, if_false, and_self, and_true, true_and, not_false_eq_true, not_true_eq_false, fd_La_law_774, fd_La_law_775, fd_La_law_776, fd_La_law_777, fd_La_law_778, fd_La_law_780, fd_La_law_781, fd_La_law_782, fd_La_law_784, k11, l11, k72, n1, e1, j1, e2, j2, e3, j3, e4, j4, e5, j5]
  (try simp only [c1, c2, c3, c4, c5, i11])
  refine am_go [] 9 ?_
  simp only [am_wp, am_stp, am_en, am_as, am_pad, am_nth, am_set, am_st1, am_st2, am_kl, am_kill, am_mem, am_fv, am_tk, am_wt, am_bk, Option.toList, List.cons_append, List.nil_append, Nat.reduceAdd, Nat.reduceEqDiff, Nat.reduceLeDiff, reduceIte, Nat.reduceLT, or_self, true_or, or_true, if_true, if_false, and_self, and_true, true_and, not_false_eq_true, not_true_eq_false, fd_La_law_785, fd_La_law_786, fd_La_law_787, fd_La_law_788, fd_La_law_791, fd_La_law_792, fd_La_law_793, fd_La_law_794, fd_La_law_796, k11, l11, k72, n1, e1, j1, e2, j2, e3, j3, e4, j4, e5, j5]
  (try simp only [c1, c2, c3, c4, c5, i11])
  refine am_go [] 9 ?_
  simp only [am_wp, am_stp, am_en, am_as, am_pad, am_nth, am_set, am_st1, am_st2, am_kl, am_kill, am_mem, am_fv, am_tk, am_wt, am_bk, Option.toList, List.cons_append, List.nil_append, Nat.reduceAdd, Nat.reduceEqDiff, Nat.reduceLeDiff, reduceIte, Nat.reduceLT, or_self, true_or, or_true, if_true, if_false, and_self, and_true, true_and, not_false_eq_true, not_true_eq_false, fd_La_law_797, fd_La_law_798, fd_La_law_799, fd_La_law_800, fd_La_law_802, fd_La_law_803, fd_La_law_804, fd_La_law_806, fd_La_law_807, k11, l11, k72, n1, e1, j1, e2, j2, e3, j3, e4, j4, e5, j5]
  (try simp only [c1, c2, c3, c4, c5, i11])
  refine am_go [] 6 ?_
  simp only [am_wp, am_stp, am_en, am_as, am_pad, am_nth, am_set, am_st1, am_st2, am_kl, am_kill, am_mem, am_fv, am_tk, am_wt, am_bk, Option.toList, List.cons_append, List.nil_append, Nat.reduceAdd, Nat.reduceEqDiff, Nat.reduceLeDiff, reduceIte, Nat.reduceLT, or_self, true_or, or_true, if_true, if_false, and_self, and_true, true_and, not_false_eq_true, not_true_eq_false, fd_La_law_808, fd_La_law_809, fd_La_law_810, fd_La_law_813, fd_La_law_814, fd_La_law_815, k11, l11, k72, n1, e1, j1, e2, j2, e3, j3, e4, j4, e5, j5]
  (try simp only [c1, c2, c3, c4, c5, i11])
  refine am_call (rx_range (d := d + 7) r1) (fun o h2 q => ?_)
  obtain ⟨⟨y, rfl⟩, q⟩ := q
  have I2 := I1.rq q
  simp only [am_wp, am_stp, am_en, am_as, am_pad, am_nth, am_set, am_st1, am_st2, am_kl, am_kill, am_mem, am_fv, am_tk, am_wt, am_bk, Option.toList, List.cons_append, List.nil_append, Nat.reduceAdd, Nat.reduceEqDiff, Nat.reduceLeDiff, reduceIte, Nat.reduceLT, or_self, true_or, or_true, if_true, if_false, and_self, and_true, true_and, not_false_eq_true, not_true_eq_false]
  refine am_go [1170] 2 ?_
  simp only [am_wp, am_stp, am_en, am_as, am_pad, am_nth, am_set, am_st1, am_st2, am_kl, am_kill, am_mem, am_fv, am_tk, am_wt, am_bk, Option.toList, List.cons_append, List.nil_append, Nat.reduceAdd, Nat.reduceEqDiff, Nat.reduceLeDiff, reduceIte, Nat.reduceLT, or_self, true_or, or_true, if_true, if_false, and_self, and_true, true_and, not_false_eq_true, not_true_eq_false, fd_La_law_818, fd_La_law_820]
  exact hk _ _ _ _ I2
theorem lo_at : lo_op 823 := by
  intro d L P c i xs g Q w5 w6 w7 hL hi I hk
  obtain ⟨w, r, k1, l1, i1, k8, l8, -, -⟩ := id I
  have n1 : ¬ (99 = 100) := by decide
  have k2 : am_kd g 2 = 1 := w.kd 2 1 (by decide)
  obtain ⟨e1, j1, c1⟩ := lo_rd 1 hL hi (by decide)
  have e1 : nI i + 1 = nI (i + 1) := e1
  obtain ⟨e2, j2, c2⟩ := lo_rd 2 hL hi (by decide)
  have e2 : nI i + 2 = nI (i + 2) := e2
  refine am_go [] 9 ?_
  simp only [am_wp, am_stp, am_en, am_as, am_pad, am_nth, am_set, am_st1, am_st2, am_kl, am_kill, am_mem, am_fv, am_tk, am_wt, am_bk, Option.toList, List.cons_append, List.nil_append, Nat.reduceAdd, Nat.reduceEqDiff, Nat.reduceLeDiff, reduceIte, Nat.reduceLT, or_self, true_or, or_true, if_true, if_false, and_self, and_true, true_and, not_false_eq_true, not_true_eq_false, fd_La_law_823, fd_La_law_824, fd_La_law_825, fd_La_law_827, fd_La_law_828, fd_La_law_829, fd_La_law_830, fd_La_law_831, fd_La_law_833, k1, l1, k2, n1, e1, j1, e2, j2]
  (try simp only [c1, c2, i1])
  refine am_go [] 4 ?_
  simp only [am_wp, am_stp, am_en, am_as, am_pad, am_nth, am_set, am_st1, am_st2, am_kl, am_kill, am_mem, am_fv, am_tk, am_wt, am_bk, Option.toList, List.cons_append, List.nil_append, Nat.reduceAdd, Nat.reduceEqDiff, Nat.reduceLeDiff, reduceIte, Nat.reduceLT, or_self, true_or, or_true, if_true, if_false, and_self, and_true, true_and, not_false_eq_true, not_true_eq_false, fd_La_law_834, fd_La_law_835, fd_La_law_836, fd_La_law_837, k1, l1, k2, n1, e1, j1, e2, j2]
  (try simp only [c1, c2, i1])
  refine am_call (wy_at (d := d) w k8 l8) (fun o h1 q => ?_)
  have I1 := I.wy q
  obtain ⟨⟨x, rfl⟩, -⟩ := q
  obtain ⟨-, r1, k11, l11, i11, -, -, -, -⟩ := id I1
  have k72 : am_kd h1 72 = 12 := r1.1.1.1
  simp only [am_wp, am_stp, am_en, am_as, am_pad, am_nth, am_set, am_st1, am_st2, am_kl, am_kill, am_mem, am_fv, am_tk, am_wt, am_bk, Option.toList, List.cons_append, List.nil_append, Nat.reduceAdd, Nat.reduceEqDiff, Nat.reduceLeDiff, reduceIte, Nat.reduceLT, or_self, true_or, or_true, if_true, if_false, and_self, and_true, true_and, not_false_eq_true, not_true_eq_false]
  refine am_go [] 9 ?_
  simp only [am_wp, am_stp, am_en, am_as, am_pad, am_nth, am_set, am_st1, am_st2, am_kl, am_kill, am_mem, am_fv, am_tk, am_wt, am_bk, Option.toList, List.cons_append, List.nil_append, Nat.reduceAdd, Nat.reduceEqDiff, Nat.reduceLeDiff, reduceIte, Nat.reduceLT, or_self, true_or, or_true, if_true, if_false, and_self, and_true, true_and, not_false_eq_true, not_true_eq_false, fd_La_law_840, fd_La_law_842, fd_La_law_843, fd_La_law_844, fd_La_law_846, fd_La_law_847, fd_La_law_848, fd_La_law_849, fd_La_law_850, k11, l11, k72, n1, e1, j1, e2, j2]
  (try simp only [c1, c2, i11])
  refine am_go [] 4 ?_
  simp only [am_wp, am_stp, am_en, am_as, am_pad, am_nth, am_set, am_st1, am_st2, am_kl, am_kill, am_mem, am_fv, am_tk, am_wt, am_bk, Option.toList, List.cons_append, List.nil_append, Nat.reduceAdd, Nat.reduceEqDiff, Nat.reduceLeDiff, reduceIte, Nat.reduceLT, or_self, true_or, or_true, if_true, if_false, and_self, and_true, true_and, not_false_eq_true, not_true_eq_false, fd_La_law_852, fd_La_law_853, fd_La_law_854, fd_La_law_855, k11, l11, k72, n1, e1, j1, e2, j2]
  (try simp only [c1, c2, i11])
  refine am_call (rx_at (d := d + 11) r1) (fun o h2 q => ?_)
  obtain ⟨⟨y, rfl⟩, q⟩ := q
  have I2 := I1.rq q
  simp only [am_wp, am_stp, am_en, am_as, am_pad, am_nth, am_set, am_st1, am_st2, am_kl, am_kill, am_mem, am_fv, am_tk, am_wt, am_bk, Option.toList, List.cons_append, List.nil_append, Nat.reduceAdd, Nat.reduceEqDiff, Nat.reduceLeDiff, reduceIte, Nat.reduceLT, or_self, true_or, or_true, if_true, if_false, and_self, and_true, true_and, not_false_eq_true, not_true_eq_false]
  refine am_go [1170] 2 ?_
  simp only [am_wp, am_stp, am_en, am_as, am_pad, am_nth, am_set, am_st1, am_st2, am_kl, am_kill, am_mem, am_fv, am_tk, am_wt, am_bk, Option.toList, List.cons_append, List.nil_append, Nat.reduceAdd, Nat.reduceEqDiff, Nat.reduceLeDiff, reduceIte, Nat.reduceLT, or_self, true_or, or_true, if_true, if_false, and_self, and_true, true_and, not_false_eq_true, not_true_eq_false, fd_La_law_858, fd_La_law_860]
  exact hk _ _ _ _ I2
theorem lo_run : lo_op 863 := by
  intro d L P c i xs g Q w5 w6 w7 hL hi I hk
  obtain ⟨w, r, k1, l1, i1, k8, l8, -, -⟩ := id I
  have n1 : ¬ (99 = 100) := by decide
  have k2 : am_kd g 2 = 1 := w.kd 2 1 (by decide)
  obtain ⟨e1, j1, c1⟩ := lo_rd 1 hL hi (by decide)
  have e1 : nI i + 1 = nI (i + 1) := e1
  obtain ⟨e2, j2, c2⟩ := lo_rd 2 hL hi (by decide)
  have e2 : nI i + 2 = nI (i + 2) := e2
  refine am_go [] 9 ?_
  simp only [am_wp, am_stp, am_en, am_as, am_pad, am_nth, am_set, am_st1, am_st2, am_kl, am_kill, am_mem, am_fv, am_tk, am_wt, am_bk, Option.toList, List.cons_append, List.nil_append, Nat.reduceAdd, Nat.reduceEqDiff, Nat.reduceLeDiff, reduceIte, Nat.reduceLT, or_self, true_or, or_true, if_true, if_false, and_self, and_true, true_and, not_false_eq_true, not_true_eq_false, fd_La_law_863, fd_La_law_864, fd_La_law_865, fd_La_law_867, fd_La_law_868, fd_La_law_869, fd_La_law_870, fd_La_law_871, fd_La_law_873, k1, l1, k2, n1, e1, j1, e2, j2]
  (try simp only [c1, c2, i1])
  refine am_go [] 4 ?_
  simp only [am_wp, am_stp, am_en, am_as, am_pad, am_nth, am_set, am_st1, am_st2, am_kl, am_kill, am_mem, am_fv, am_tk, am_wt, am_bk, Option.toList, List.cons_append, List.nil_append, Nat.reduceAdd, Nat.reduceEqDiff, Nat.reduceLeDiff, reduceIte, Nat.reduceLT, or_self, true_or, or_true, if_true, if_false, and_self, and_true, true_and, not_false_eq_true, not_true_eq_false, fd_La_law_874, fd_La_law_875, fd_La_law_876, fd_La_law_877, k1, l1, k2, n1, e1, j1, e2, j2]
  (try simp only [c1, c2, i1])
  refine am_call (wy_run (d := d) w k8 l8) (fun o h1 q => ?_)
  have I1 := I.wy q
  obtain ⟨⟨x, rfl⟩, -⟩ := q
  obtain ⟨-, r1, k11, l11, i11, -, -, -, -⟩ := id I1
  have k72 : am_kd h1 72 = 12 := r1.1.1.1
  simp only [am_wp, am_stp, am_en, am_as, am_pad, am_nth, am_set, am_st1, am_st2, am_kl, am_kill, am_mem, am_fv, am_tk, am_wt, am_bk, Option.toList, List.cons_append, List.nil_append, Nat.reduceAdd, Nat.reduceEqDiff, Nat.reduceLeDiff, reduceIte, Nat.reduceLT, or_self, true_or, or_true, if_true, if_false, and_self, and_true, true_and, not_false_eq_true, not_true_eq_false]
  refine am_go [] 9 ?_
  simp only [am_wp, am_stp, am_en, am_as, am_pad, am_nth, am_set, am_st1, am_st2, am_kl, am_kill, am_mem, am_fv, am_tk, am_wt, am_bk, Option.toList, List.cons_append, List.nil_append, Nat.reduceAdd, Nat.reduceEqDiff, Nat.reduceLeDiff, reduceIte, Nat.reduceLT, or_self, true_or, or_true, if_true, if_false, and_self, and_true, true_and, not_false_eq_true, not_true_eq_false, fd_La_law_880, fd_La_law_882, fd_La_law_883, fd_La_law_884, fd_La_law_886, fd_La_law_887, fd_La_law_888, fd_La_law_889, fd_La_law_890, k11, l11, k72, n1, e1, j1, e2, j2]
  (try simp only [c1, c2, i11])
  refine am_go [] 4 ?_
  simp only [am_wp, am_stp, am_en, am_as, am_pad, am_nth, am_set, am_st1, am_st2, am_kl, am_kill, am_mem, am_fv, am_tk, am_wt, am_bk, Option.toList, List.cons_append, List.nil_append, Nat.reduceAdd, Nat.reduceEqDiff, Nat.reduceLeDiff, reduceIte, Nat.reduceLT, or_self, true_or, or_true, if_true, if_false, and_self, and_true, true_and, not_false_eq_true, not_true_eq_false, fd_La_law_892, fd_La_law_893, fd_La_law_894, fd_La_law_895, k11, l11, k72, n1, e1, j1, e2, j2]
  (try simp only [c1, c2, i11])
  refine am_call (rx_run (d := d + 11) r1) (fun o h2 q => ?_)
  obtain ⟨⟨y, rfl⟩, q⟩ := q
  have I2 := I1.rq q
  simp only [am_wp, am_stp, am_en, am_as, am_pad, am_nth, am_set, am_st1, am_st2, am_kl, am_kill, am_mem, am_fv, am_tk, am_wt, am_bk, Option.toList, List.cons_append, List.nil_append, Nat.reduceAdd, Nat.reduceEqDiff, Nat.reduceLeDiff, reduceIte, Nat.reduceLT, or_self, true_or, or_true, if_true, if_false, and_self, and_true, true_and, not_false_eq_true, not_true_eq_false]
  refine am_go [1170] 2 ?_
  simp only [am_wp, am_stp, am_en, am_as, am_pad, am_nth, am_set, am_st1, am_st2, am_kl, am_kill, am_mem, am_fv, am_tk, am_wt, am_bk, Option.toList, List.cons_append, List.nil_append, Nat.reduceAdd, Nat.reduceEqDiff, Nat.reduceLeDiff, reduceIte, Nat.reduceLT, or_self, true_or, or_true, if_true, if_false, and_self, and_true, true_and, not_false_eq_true, not_true_eq_false, fd_La_law_898, fd_La_law_900]
  exact hk _ _ _ _ I2
theorem lo_hidden : lo_op 903 := by
  intro d L P c i xs g Q w5 w6 w7 hL hi I hk
  obtain ⟨w, r, k1, l1, i1, k8, l8, -, -⟩ := id I
  have n1 : ¬ (99 = 100) := by decide
  have k2 : am_kd g 2 = 1 := w.kd 2 1 (by decide)
  obtain ⟨e1, j1, c1⟩ := lo_rd 1 hL hi (by decide)
  have e1 : nI i + 1 = nI (i + 1) := e1
  obtain ⟨e2, j2, c2⟩ := lo_rd 2 hL hi (by decide)
  have e2 : nI i + 2 = nI (i + 2) := e2
  refine am_go [] 9 ?_
  simp only [am_wp, am_stp, am_en, am_as, am_pad, am_nth, am_set, am_st1, am_st2, am_kl, am_kill, am_mem, am_fv, am_tk, am_wt, am_bk, Option.toList, List.cons_append, List.nil_append, Nat.reduceAdd, Nat.reduceEqDiff, Nat.reduceLeDiff, reduceIte, Nat.reduceLT, or_self, true_or, or_true, if_true, if_false, and_self, and_true, true_and, not_false_eq_true, not_true_eq_false, fd_La_law_903, fd_La_law_904, fd_La_law_905, fd_La_law_907, fd_La_law_908, fd_La_law_909, fd_La_law_910, fd_La_law_911, fd_La_law_913, k1, l1, k2, n1, e1, j1, e2, j2]
  (try simp only [c1, c2, i1])
  refine am_go [] 9 ?_
  simp only [am_wp, am_stp, am_en, am_as, am_pad, am_nth, am_set, am_st1, am_st2, am_kl, am_kill, am_mem, am_fv, am_tk, am_wt, am_bk, Option.toList, List.cons_append, List.nil_append, Nat.reduceAdd, Nat.reduceEqDiff, Nat.reduceLeDiff, reduceIte, Nat.reduceLT, or_self, true_or, or_true, if_true, if_false, and_self, and_true, true_and, not_false_eq_true, not_true_eq_false, fd_La_law_914, fd_La_law_915, fd_La_law_917, fd_La_law_918, fd_La_law_919, fd_La_law_920, fd_La_law_921, fd_La_law_924, fd_La_law_925, k1, l1, k2, n1, e1, j1, e2, j2]
  (try simp only [c1, c2, i1])
  refine am_go [] 2 ?_
  simp only [am_wp, am_stp, am_en, am_as, am_pad, am_nth, am_set, am_st1, am_st2, am_kl, am_kill, am_mem, am_fv, am_tk, am_wt, am_bk, Option.toList, List.cons_append, List.nil_append, Nat.reduceAdd, Nat.reduceEqDiff, Nat.reduceLeDiff, reduceIte, Nat.reduceLT, or_self, true_or, or_true, if_true, if_false, and_self, and_true, true_and, not_false_eq_true, not_true_eq_false, fd_La_law_926, fd_La_law_927, k1, l1, k2, n1, e1, j1, e2, j2]
  (try simp only [c1, c2, i1])
  refine am_call (wy_hidden (d := d) w k8 l8) (fun o h1 q => ?_)
  have I1 := I.wy q
  obtain ⟨⟨x, rfl⟩, -⟩ := q
  obtain ⟨-, r1, k11, l11, i11, -, -, -, -⟩ := id I1
  have k72 : am_kd h1 72 = 12 := r1.1.1.1
  simp only [am_wp, am_stp, am_en, am_as, am_pad, am_nth, am_set, am_st1, am_st2, am_kl, am_kill, am_mem, am_fv, am_tk, am_wt, am_bk, Option.toList, List.cons_append, List.nil_append, Nat.reduceAdd, Nat.reduceEqDiff, Nat.reduceLeDiff, reduceIte, Nat.reduceLT, or_self, true_or, or_true, if_true, if_false, and_self, and_true, true_and, not_false_eq_true, not_true_eq_false]
  refine am_go [] 9 ?_
  simp only [am_wp, am_stp, am_en, am_as, am_pad, am_nth, am_set, am_st1, am_st2, am_kl, am_kill, am_mem, am_fv, am_tk, am_wt, am_bk, Option.toList, List.cons_append, List.nil_append, Nat.reduceAdd, Nat.reduceEqDiff, Nat.reduceLeDiff, reduceIte, Nat.reduceLT, or_self, true_or, or_true, if_true, if_false, and_self, and_true, true_and, not_false_eq_true, not_true_eq_false, fd_La_law_930, fd_La_law_932, fd_La_law_933, fd_La_law_934, fd_La_law_936, fd_La_law_937, fd_La_law_938, fd_La_law_939, fd_La_law_940, k11, l11, k72, n1, e1, j1, e2, j2]
  (try simp only [c1, c2, i11])
  refine am_go [] 9 ?_
  simp only [am_wp, am_stp, am_en, am_as, am_pad, am_nth, am_set, am_st1, am_st2, am_kl, am_kill, am_mem, am_fv, am_tk, am_wt, am_bk, Option.toList, List.cons_append, List.nil_append, Nat.reduceAdd, Nat.reduceEqDiff, Nat.reduceLeDiff, reduceIte, Nat.reduceLT, or_self, true_or, or_true, if_true, if_false, and_self, and_true, true_and, not_false_eq_true, not_true_eq_false, fd_La_law_942, fd_La_law_943, fd_La_law_944, fd_La_law_946, fd_La_law_947, fd_La_law_948, fd_La_law_949, fd_La_law_950, fd_La_law_953, k11, l11, k72, n1, e1, j1, e2, j2]
  (try simp only [c1, c2, i11])
  refine am_go [] 2 ?_
  simp only [am_wp, am_stp, am_en, am_as, am_pad, am_nth, am_set, am_st1, am_st2, am_kl, am_kill, am_mem, am_fv, am_tk, am_wt, am_bk, Option.toList, List.cons_append, List.nil_append, Nat.reduceAdd, Nat.reduceEqDiff, Nat.reduceLeDiff, reduceIte, Nat.reduceLT, or_self, true_or, or_true, if_true, if_false, and_self, and_true, true_and, not_false_eq_true, not_true_eq_false, fd_La_law_954, fd_La_law_955, k11, l11, k72, n1, e1, j1, e2, j2]
  (try simp only [c1, c2, i11])
  refine am_call (rx_hidden (d := d + 9) r1) (fun o h2 q => ?_)
  obtain ⟨q0, q⟩ := q
  obtain ⟨y, rfl⟩ := q0.i
  have I2 := I1.rq q
  simp only [am_wp, am_stp, am_en, am_as, am_pad, am_nth, am_set, am_st1, am_st2, am_kl, am_kill, am_mem, am_fv, am_tk, am_wt, am_bk, Option.toList, List.cons_append, List.nil_append, Nat.reduceAdd, Nat.reduceEqDiff, Nat.reduceLeDiff, reduceIte, Nat.reduceLT, or_self, true_or, or_true, if_true, if_false, and_self, and_true, true_and, not_false_eq_true, not_true_eq_false]
  refine am_go [1170] 2 ?_
  simp only [am_wp, am_stp, am_en, am_as, am_pad, am_nth, am_set, am_st1, am_st2, am_kl, am_kill, am_mem, am_fv, am_tk, am_wt, am_bk, Option.toList, List.cons_append, List.nil_append, Nat.reduceAdd, Nat.reduceEqDiff, Nat.reduceLeDiff, reduceIte, Nat.reduceLT, or_self, true_or, or_true, if_true, if_false, and_self, and_true, true_and, not_false_eq_true, not_true_eq_false, fd_La_law_958, fd_La_law_960]
  exact hk _ _ _ _ I2
theorem lo_octet : lo_op 963 := by
  intro d L P c i xs g Q w5 w6 w7 hL hi I hk
  obtain ⟨w, r, k1, l1, i1, k8, l8, -, -⟩ := id I
  have n1 : ¬ (99 = 100) := by decide
  have k2 : am_kd g 2 = 1 := w.kd 2 1 (by decide)
  obtain ⟨e1, j1, c1⟩ := lo_rd 1 hL hi (by decide)
  have e1 : nI i + 1 = nI (i + 1) := e1
  obtain ⟨e2, j2, c2⟩ := lo_rd 2 hL hi (by decide)
  have e2 : nI i + 2 = nI (i + 2) := e2
  refine am_go [] 9 ?_
  simp only [am_wp, am_stp, am_en, am_as, am_pad, am_nth, am_set, am_st1, am_st2, am_kl, am_kill, am_mem, am_fv, am_tk, am_wt, am_bk, Option.toList, List.cons_append, List.nil_append, Nat.reduceAdd, Nat.reduceEqDiff, Nat.reduceLeDiff, reduceIte, Nat.reduceLT, or_self, true_or, or_true, if_true, if_false, and_self, and_true, true_and, not_false_eq_true, not_true_eq_false, fd_La_law_963, fd_La_law_964, fd_La_law_965, fd_La_law_967, fd_La_law_968, fd_La_law_969, fd_La_law_970, fd_La_law_971, fd_La_law_973, k1, l1, k2, n1, e1, j1, e2, j2]
  (try simp only [c1, c2, i1])
  refine am_go [] 4 ?_
  simp only [am_wp, am_stp, am_en, am_as, am_pad, am_nth, am_set, am_st1, am_st2, am_kl, am_kill, am_mem, am_fv, am_tk, am_wt, am_bk, Option.toList, List.cons_append, List.nil_append, Nat.reduceAdd, Nat.reduceEqDiff, Nat.reduceLeDiff, reduceIte, Nat.reduceLT, or_self, true_or, or_true, if_true, if_false, and_self, and_true, true_and, not_false_eq_true, not_true_eq_false, fd_La_law_974, fd_La_law_975, fd_La_law_976, fd_La_law_977, k1, l1, k2, n1, e1, j1, e2, j2]
  (try simp only [c1, c2, i1])
  refine am_call (wy_octet (d := d) w k8 l8) (fun o h1 q => ?_)
  have I1 := I.wy q
  obtain ⟨⟨x, rfl⟩, -⟩ := q
  obtain ⟨-, r1, k11, l11, i11, -, -, -, -⟩ := id I1
  have k72 : am_kd h1 72 = 12 := r1.1.1.1
  simp only [am_wp, am_stp, am_en, am_as, am_pad, am_nth, am_set, am_st1, am_st2, am_kl, am_kill, am_mem, am_fv, am_tk, am_wt, am_bk, Option.toList, List.cons_append, List.nil_append, Nat.reduceAdd, Nat.reduceEqDiff, Nat.reduceLeDiff, reduceIte, Nat.reduceLT, or_self, true_or, or_true, if_true, if_false, and_self, and_true, true_and, not_false_eq_true, not_true_eq_false]
  refine am_go [] 9 ?_
  simp only [am_wp, am_stp, am_en, am_as, am_pad, am_nth, am_set, am_st1, am_st2, am_kl, am_kill, am_mem, am_fv, am_tk, am_wt, am_bk, Option.toList, List.cons_append, List.nil_append, Nat.reduceAdd, Nat.reduceEqDiff, Nat.reduceLeDiff, reduceIte, Nat.reduceLT, or_self, true_or, or_true, if_true, if_false, and_self, and_true, true_and, not_false_eq_true, not_true_eq_false, fd_La_law_980, fd_La_law_982, fd_La_law_983, fd_La_law_984, fd_La_law_986, fd_La_law_987, fd_La_law_988, fd_La_law_989, fd_La_law_990, k11, l11, k72, n1, e1, j1, e2, j2]
  (try simp only [c1, c2, i11])
  refine am_go [] 4 ?_
  simp only [am_wp, am_stp, am_en, am_as, am_pad, am_nth, am_set, am_st1, am_st2, am_kl, am_kill, am_mem, am_fv, am_tk, am_wt, am_bk, Option.toList, List.cons_append, List.nil_append, Nat.reduceAdd, Nat.reduceEqDiff, Nat.reduceLeDiff, reduceIte, Nat.reduceLT, or_self, true_or, or_true, if_true, if_false, and_self, and_true, true_and, not_false_eq_true, not_true_eq_false, fd_La_law_992, fd_La_law_993, fd_La_law_994, fd_La_law_995, k11, l11, k72, n1, e1, j1, e2, j2]
  (try simp only [c1, c2, i11])
  refine am_call (rx_octet (d := d + 10) r1) (fun o h2 q => ?_)
  obtain ⟨⟨y, rfl⟩, q⟩ := q
  have I2 := I1.rq q
  simp only [am_wp, am_stp, am_en, am_as, am_pad, am_nth, am_set, am_st1, am_st2, am_kl, am_kill, am_mem, am_fv, am_tk, am_wt, am_bk, Option.toList, List.cons_append, List.nil_append, Nat.reduceAdd, Nat.reduceEqDiff, Nat.reduceLeDiff, reduceIte, Nat.reduceLT, or_self, true_or, or_true, if_true, if_false, and_self, and_true, true_and, not_false_eq_true, not_true_eq_false]
  refine am_go [1170] 2 ?_
  simp only [am_wp, am_stp, am_en, am_as, am_pad, am_nth, am_set, am_st1, am_st2, am_kl, am_kill, am_mem, am_fv, am_tk, am_wt, am_bk, Option.toList, List.cons_append, List.nil_append, Nat.reduceAdd, Nat.reduceEqDiff, Nat.reduceLeDiff, reduceIte, Nat.reduceLT, or_self, true_or, or_true, if_true, if_false, and_self, and_true, true_and, not_false_eq_true, not_true_eq_false, fd_La_law_998, fd_La_law_1000]
  exact hk _ _ _ _ I2
theorem lo_poke : lo_op 1003 := by
  intro d L P c i xs g Q w5 w6 w7 hL hi I hk
  obtain ⟨w, r, k1, l1, i1, k8, l8, -, -⟩ := id I
  have n1 : ¬ (99 = 100) := by decide
  have k2 : am_kd g 2 = 1 := w.kd 2 1 (by decide)
  obtain ⟨e1, j1, c1⟩ := lo_rd 1 hL hi (by decide)
  have e1 : nI i + 1 = nI (i + 1) := e1
  obtain ⟨e2, j2, c2⟩ := lo_rd 2 hL hi (by decide)
  have e2 : nI i + 2 = nI (i + 2) := e2
  obtain ⟨e3, j3, c3⟩ := lo_rd 3 hL hi (by decide)
  have e3 : nI i + 3 = nI (i + 3) := e3
  refine am_go [] 9 ?_
  simp only [am_wp, am_stp, am_en, am_as, am_pad, am_nth, am_set, am_st1, am_st2, am_kl, am_kill, am_mem, am_fv, am_tk, am_wt, am_bk, Option.toList, List.cons_append, List.nil_append, Nat.reduceAdd, Nat.reduceEqDiff, Nat.reduceLeDiff, reduceIte, Nat.reduceLT, or_self, true_or, or_true, if_true, if_false, and_self, and_true, true_and, not_false_eq_true, not_true_eq_false, fd_La_law_1003, fd_La_law_1004, fd_La_law_1005, fd_La_law_1007, fd_La_law_1008, fd_La_law_1009, fd_La_law_1010, fd_La_law_1011, fd_La_law_1013, k1, l1, k2, n1, e1, j1, e2, j2, e3, j3]
  (try simp only [c1, c2, c3, i1])
  refine am_go [] 8 ?_
  simp only [am_wp, am_stp, am_en, am_as, am_pad, am_nth, am_set, am_st1, am_st2, am_kl, am_kill, am_mem, am_fv, am_tk, am_wt, am_bk, Option.toList, List.cons_append, List.nil_append, Nat.reduceAdd, Nat.reduceEqDiff, Nat.reduceLeDiff, reduceIte, Nat.reduceLT, or_self, true_or, or_true, if_true, if_false, and_self, and_true, true_and, not_false_eq_true, not_true_eq_false, fd_La_law_1014, fd_La_law_1015, fd_La_law_1016, fd_La_law_1017, fd_La_law_1019, fd_La_law_1020, fd_La_law_1021, fd_La_law_1022, k1, l1, k2, n1, e1, j1, e2, j2, e3, j3]
  (try simp only [c1, c2, c3, i1])
  refine am_call (wy_poke (d := d) w) (fun o h1 q => ?_)
  have I1 := I.wy q
  obtain ⟨⟨x, rfl⟩, -⟩ := q
  obtain ⟨-, r1, k11, l11, i11, -, -, -, -⟩ := id I1
  have k72 : am_kd h1 72 = 12 := r1.1.1.1
  simp only [am_wp, am_stp, am_en, am_as, am_pad, am_nth, am_set, am_st1, am_st2, am_kl, am_kill, am_mem, am_fv, am_tk, am_wt, am_bk, Option.toList, List.cons_append, List.nil_append, Nat.reduceAdd, Nat.reduceEqDiff, Nat.reduceLeDiff, reduceIte, Nat.reduceLT, or_self, true_or, or_true, if_true, if_false, and_self, and_true, true_and, not_false_eq_true, not_true_eq_false]
  refine am_go [] 9 ?_
  simp only [am_wp, am_stp, am_en, am_as, am_pad, am_nth, am_set, am_st1, am_st2, am_kl, am_kill, am_mem, am_fv, am_tk, am_wt, am_bk, Option.toList, List.cons_append, List.nil_append, Nat.reduceAdd, Nat.reduceEqDiff, Nat.reduceLeDiff, reduceIte, Nat.reduceLT, or_self, true_or, or_true, if_true, if_false, and_self, and_true, true_and, not_false_eq_true, not_true_eq_false, fd_La_law_1025, fd_La_law_1027, fd_La_law_1028, fd_La_law_1029, fd_La_law_1031, fd_La_law_1032, fd_La_law_1033, fd_La_law_1034, fd_La_law_1035, k11, l11, k72, n1, e1, j1, e2, j2, e3, j3]
  (try simp only [c1, c2, c3, i11])
  refine am_go [] 9 ?_
  simp only [am_wp, am_stp, am_en, am_as, am_pad, am_nth, am_set, am_st1, am_st2, am_kl, am_kill, am_mem, am_fv, am_tk, am_wt, am_bk, Option.toList, List.cons_append, List.nil_append, Nat.reduceAdd, Nat.reduceEqDiff, Nat.reduceLeDiff, reduceIte, Nat.reduceLT, or_self, true_or, or_true, if_true, if_false, and_self, and_true, true_and, not_false_eq_true, not_true_eq_false, fd_La_law_1037, fd_La_law_1038, fd_La_law_1039, fd_La_law_1040, fd_La_law_1041, fd_La_law_1043, fd_La_law_1044, fd_La_law_1045, fd_La_law_1046, k11, l11, k72, n1, e1, j1, e2, j2, e3, j3]
  (try simp only [c1, c2, c3, i11])
  refine am_call (rx_poke (d := d + 9) r1) (fun o h2 q => ?_)
  obtain ⟨rfl, q⟩ := q
  have I2 := I1.rq q
  simp only [am_wp, am_stp, am_en, am_as, am_pad, am_nth, am_set, am_st1, am_st2, am_kl, am_kill, am_mem, am_fv, am_tk, am_wt, am_bk, Option.toList, List.cons_append, List.nil_append, Nat.reduceAdd, Nat.reduceEqDiff, Nat.reduceLeDiff, reduceIte, Nat.reduceLT, or_self, true_or, or_true, if_true, if_false, and_self, and_true, true_and, not_false_eq_true, not_true_eq_false]
  refine am_go [1170] 1 ?_
  simp only [am_wp, am_stp, am_en, am_as, am_pad, am_nth, am_set, am_st1, am_st2, am_kl, am_kill, am_mem, am_fv, am_tk, am_wt, am_bk, Option.toList, List.cons_append, List.nil_append, Nat.reduceAdd, Nat.reduceEqDiff, Nat.reduceLeDiff, reduceIte, Nat.reduceLT, or_self, true_or, or_true, if_true, if_false, and_self, and_true, true_and, not_false_eq_true, not_true_eq_false, fd_La_law_1049]
  exact hk _ _ _ _ I2
theorem lo_badAt : lo_op 1052 := by
  intro d L P c i xs g Q w5 w6 w7 hL hi I hk
  obtain ⟨w, r, k1, l1, i1, k8, l8, -, -⟩ := id I
  have n1 : ¬ (99 = 100) := by decide
  have k2 : am_kd g 2 = 1 := w.kd 2 1 (by decide)
  refine am_go [] 2 ?_
  simp only [am_wp, am_stp, am_en, am_as, am_pad, am_nth, am_set, am_st1, am_st2, am_kl, am_kill, am_mem, am_fv, am_tk, am_wt, am_bk, Option.toList, List.cons_append, List.nil_append, Nat.reduceAdd, Nat.reduceEqDiff, Nat.reduceLeDiff, reduceIte, Nat.reduceLT, or_self, true_or, or_true, if_true, if_false, and_self, and_true, true_and, not_false_eq_true, not_true_eq_false, fd_La_law_1052, fd_La_law_1053, k1, l1, k2, n1]
  refine am_call (ww_badAt (d := d + 8) w) (fun o h1 q => ?_)
  obtain ⟨⟨x, rfl⟩, rfl⟩ := q
  have I1 := I.up
  obtain ⟨-, r1, k11, l11, i11, -, -, -, -⟩ := id I1
  have k72 : am_kd h1 72 = 12 := r1.1.1.1
  simp only [am_wp, am_stp, am_en, am_as, am_pad, am_nth, am_set, am_st1, am_st2, am_kl, am_kill, am_mem, am_fv, am_tk, am_wt, am_bk, Option.toList, List.cons_append, List.nil_append, Nat.reduceAdd, Nat.reduceEqDiff, Nat.reduceLeDiff, reduceIte, Nat.reduceLT, or_self, true_or, or_true, if_true, if_false, and_self, and_true, true_and, not_false_eq_true, not_true_eq_false]
  refine am_go [] 3 ?_
  simp only [am_wp, am_stp, am_en, am_as, am_pad, am_nth, am_set, am_st1, am_st2, am_kl, am_kill, am_mem, am_fv, am_tk, am_wt, am_bk, Option.toList, List.cons_append, List.nil_append, Nat.reduceAdd, Nat.reduceEqDiff, Nat.reduceLeDiff, reduceIte, Nat.reduceLT, or_self, true_or, or_true, if_true, if_false, and_self, and_true, true_and, not_false_eq_true, not_true_eq_false, fd_La_law_1056, fd_La_law_1057, fd_La_law_1058, k11, l11, k72, n1]
  refine am_call (rx_badAt (d := d + 9) r1) (fun o h2 q => ?_)
  obtain ⟨⟨y, rfl⟩, q⟩ := q
  have I2 := I1.rq q
  simp only [am_wp, am_stp, am_en, am_as, am_pad, am_nth, am_set, am_st1, am_st2, am_kl, am_kill, am_mem, am_fv, am_tk, am_wt, am_bk, Option.toList, List.cons_append, List.nil_append, Nat.reduceAdd, Nat.reduceEqDiff, Nat.reduceLeDiff, reduceIte, Nat.reduceLT, or_self, true_or, or_true, if_true, if_false, and_self, and_true, true_and, not_false_eq_true, not_true_eq_false]
  refine am_go [1170] 2 ?_
  simp only [am_wp, am_stp, am_en, am_as, am_pad, am_nth, am_set, am_st1, am_st2, am_kl, am_kill, am_mem, am_fv, am_tk, am_wt, am_bk, Option.toList, List.cons_append, List.nil_append, Nat.reduceAdd, Nat.reduceEqDiff, Nat.reduceLeDiff, reduceIte, Nat.reduceLT, or_self, true_or, or_true, if_true, if_false, and_self, and_true, true_and, not_false_eq_true, not_true_eq_false, fd_La_law_1061, fd_La_law_1062]
  exact hk _ _ _ _ I2
theorem lo_down : lo_op 1113 := by
  intro d L P c i xs g Q w5 w6 w7 hL hi I hk
  obtain ⟨w, r, k1, l1, i1, k8, l8, -, -⟩ := id I
  have n1 : ¬ (99 = 100) := by decide
  have k2 : am_kd g 2 = 1 := w.kd 2 1 (by decide)
  refine am_go [] 2 ?_
  simp only [am_wp, am_stp, am_en, am_as, am_pad, am_nth, am_set, am_st1, am_st2, am_kl, am_kill, am_mem, am_fv, am_tk, am_wt, am_bk, Option.toList, List.cons_append, List.nil_append, Nat.reduceAdd, Nat.reduceEqDiff, Nat.reduceLeDiff, reduceIte, Nat.reduceLT, or_self, true_or, or_true, if_true, if_false, and_self, and_true, true_and, not_false_eq_true, not_true_eq_false, fd_La_law_1113, fd_La_law_1114, k1, l1, k2, n1]
  refine am_call (ww_down (d := d + 9) w) (fun o h1 q => ?_)
  obtain ⟨q0, q⟩ := q
  obtain ⟨x, rfl⟩ := q0.i
  have I1 := I.wp q (by omega)
  obtain ⟨-, r1, k11, l11, i11, -, -, -, -⟩ := id I1
  have k72 : am_kd h1 72 = 12 := r1.1.1.1
  simp only [am_wp, am_stp, am_en, am_as, am_pad, am_nth, am_set, am_st1, am_st2, am_kl, am_kill, am_mem, am_fv, am_tk, am_wt, am_bk, Option.toList, List.cons_append, List.nil_append, Nat.reduceAdd, Nat.reduceEqDiff, Nat.reduceLeDiff, reduceIte, Nat.reduceLT, or_self, true_or, or_true, if_true, if_false, and_self, and_true, true_and, not_false_eq_true, not_true_eq_false]
  refine am_go [] 3 ?_
  simp only [am_wp, am_stp, am_en, am_as, am_pad, am_nth, am_set, am_st1, am_st2, am_kl, am_kill, am_mem, am_fv, am_tk, am_wt, am_bk, Option.toList, List.cons_append, List.nil_append, Nat.reduceAdd, Nat.reduceEqDiff, Nat.reduceLeDiff, reduceIte, Nat.reduceLT, or_self, true_or, or_true, if_true, if_false, and_self, and_true, true_and, not_false_eq_true, not_true_eq_false, fd_La_law_1117, fd_La_law_1118, fd_La_law_1119, k11, l11, k72, n1]
  refine am_call (rx_down (d := d + 10) r1) (fun o h2 q => ?_)
  obtain ⟨q0, q⟩ := q
  obtain ⟨y, rfl⟩ := q0.i
  have I2 := I1.rq q
  simp only [am_wp, am_stp, am_en, am_as, am_pad, am_nth, am_set, am_st1, am_st2, am_kl, am_kill, am_mem, am_fv, am_tk, am_wt, am_bk, Option.toList, List.cons_append, List.nil_append, Nat.reduceAdd, Nat.reduceEqDiff, Nat.reduceLeDiff, reduceIte, Nat.reduceLT, or_self, true_or, or_true, if_true, if_false, and_self, and_true, true_and, not_false_eq_true, not_true_eq_false]
  refine am_go [1170] 2 ?_
  simp only [am_wp, am_stp, am_en, am_as, am_pad, am_nth, am_set, am_st1, am_st2, am_kl, am_kill, am_mem, am_fv, am_tk, am_wt, am_bk, Option.toList, List.cons_append, List.nil_append, Nat.reduceAdd, Nat.reduceEqDiff, Nat.reduceLeDiff, reduceIte, Nat.reduceLT, or_self, true_or, or_true, if_true, if_false, and_self, and_true, true_and, not_false_eq_true, not_true_eq_false, fd_La_law_1122, fd_La_law_1123]
  exact hk _ _ _ _ I2
theorem lo_open : lo_op 1126 := by
  intro d L P c i xs g Q w5 w6 w7 hL hi I hk
  obtain ⟨w, r, k1, l1, i1, k8, l8, -, -⟩ := id I
  have n1 : ¬ (99 = 100) := by decide
  have k2 : am_kd g 2 = 1 := w.kd 2 1 (by decide)
  refine am_go [] 3 ?_
  simp only [am_wp, am_stp, am_en, am_as, am_pad, am_nth, am_set, am_st1, am_st2, am_kl, am_kill, am_mem, am_fv, am_tk, am_wt, am_bk, Option.toList, List.cons_append, List.nil_append, Nat.reduceAdd, Nat.reduceEqDiff, Nat.reduceLeDiff, reduceIte, Nat.reduceLT, or_self, true_or, or_true, if_true, if_false, and_self, and_true, true_and, not_false_eq_true, not_true_eq_false, fd_La_law_1126, fd_La_law_1127, fd_La_law_1128, k1, l1, k2, n1]
  refine am_call (wy_open (d := d) w k8 l8) (fun o h1 q => ?_)
  have I1 := I.wy q
  obtain ⟨⟨x, rfl⟩, -⟩ := q
  obtain ⟨-, r1, k11, l11, i11, -, -, -, -⟩ := id I1
  have k72 : am_kd h1 72 = 12 := r1.1.1.1
  simp only [am_wp, am_stp, am_en, am_as, am_pad, am_nth, am_set, am_st1, am_st2, am_kl, am_kill, am_mem, am_fv, am_tk, am_wt, am_bk, Option.toList, List.cons_append, List.nil_append, Nat.reduceAdd, Nat.reduceEqDiff, Nat.reduceLeDiff, reduceIte, Nat.reduceLT, or_self, true_or, or_true, if_true, if_false, and_self, and_true, true_and, not_false_eq_true, not_true_eq_false]
  refine am_go [] 3 ?_
  simp only [am_wp, am_stp, am_en, am_as, am_pad, am_nth, am_set, am_st1, am_st2, am_kl, am_kill, am_mem, am_fv, am_tk, am_wt, am_bk, Option.toList, List.cons_append, List.nil_append, Nat.reduceAdd, Nat.reduceEqDiff, Nat.reduceLeDiff, reduceIte, Nat.reduceLT, or_self, true_or, or_true, if_true, if_false, and_self, and_true, true_and, not_false_eq_true, not_true_eq_false, fd_La_law_1131, fd_La_law_1133, fd_La_law_1134, k11, l11, k72, n1]
  refine am_call (rx_open (d := d + 8) r1) (fun o h2 q => ?_)
  obtain ⟨⟨y, rfl⟩, q⟩ := q
  have I2 := I1.rq q
  simp only [am_wp, am_stp, am_en, am_as, am_pad, am_nth, am_set, am_st1, am_st2, am_kl, am_kill, am_mem, am_fv, am_tk, am_wt, am_bk, Option.toList, List.cons_append, List.nil_append, Nat.reduceAdd, Nat.reduceEqDiff, Nat.reduceLeDiff, reduceIte, Nat.reduceLT, or_self, true_or, or_true, if_true, if_false, and_self, and_true, true_and, not_false_eq_true, not_true_eq_false]
  refine am_go [1170] 2 ?_
  simp only [am_wp, am_stp, am_en, am_as, am_pad, am_nth, am_set, am_st1, am_st2, am_kl, am_kill, am_mem, am_fv, am_tk, am_wt, am_bk, Option.toList, List.cons_append, List.nil_append, Nat.reduceAdd, Nat.reduceEqDiff, Nat.reduceLeDiff, reduceIte, Nat.reduceLT, or_self, true_or, or_true, if_true, if_false, and_self, and_true, true_and, not_false_eq_true, not_true_eq_false, fd_La_law_1137, fd_La_law_1139]
  exact hk _ _ _ _ I2
theorem lo_told : lo_op 1142 := by
  intro d L P c i xs g Q w5 w6 w7 hL hi I hk
  obtain ⟨w, r, k1, l1, i1, k8, l8, -, -⟩ := id I
  have n1 : ¬ (99 = 100) := by decide
  have k2 : am_kd g 2 = 1 := w.kd 2 1 (by decide)
  obtain ⟨e1, j1, c1⟩ := lo_rd 1 hL hi (by decide)
  have e1 : nI i + 1 = nI (i + 1) := e1
  refine am_go [] 8 ?_
  simp only [am_wp, am_stp, am_en, am_as, am_pad, am_nth, am_set, am_st1, am_st2, am_kl, am_kill, am_mem, am_fv, am_tk, am_wt, am_bk, Option.toList, List.cons_append, List.nil_append, Nat.reduceAdd, Nat.reduceEqDiff, Nat.reduceLeDiff, reduceIte, Nat.reduceLT, or_self, true_or, or_true, if_true, if_false, and_self, and_true, true_and, not_false_eq_true, not_true_eq_false, fd_La_law_1142, fd_La_law_1143, fd_La_law_1144, fd_La_law_1146, fd_La_law_1147, fd_La_law_1148, fd_La_law_1149, fd_La_law_1150, k1, l1, k2, n1, e1, j1]
  (try simp only [c1, i1])
  refine am_call (wy_told (d := d) w k8 l8) (fun o h1 q => ?_)
  have I1 := I.wy q
  obtain ⟨⟨x, rfl⟩, -⟩ := q
  obtain ⟨-, r1, k11, l11, i11, -, -, -, -⟩ := id I1
  have k72 : am_kd h1 72 = 12 := r1.1.1.1
  simp only [am_wp, am_stp, am_en, am_as, am_pad, am_nth, am_set, am_st1, am_st2, am_kl, am_kill, am_mem, am_fv, am_tk, am_wt, am_bk, Option.toList, List.cons_append, List.nil_append, Nat.reduceAdd, Nat.reduceEqDiff, Nat.reduceLeDiff, reduceIte, Nat.reduceLT, or_self, true_or, or_true, if_true, if_false, and_self, and_true, true_and, not_false_eq_true, not_true_eq_false]
  refine am_go [] 8 ?_
  simp only [am_wp, am_stp, am_en, am_as, am_pad, am_nth, am_set, am_st1, am_st2, am_kl, am_kill, am_mem, am_fv, am_tk, am_wt, am_bk, Option.toList, List.cons_append, List.nil_append, Nat.reduceAdd, Nat.reduceEqDiff, Nat.reduceLeDiff, reduceIte, Nat.reduceLT, or_self, true_or, or_true, if_true, if_false, and_self, and_true, true_and, not_false_eq_true, not_true_eq_false, fd_La_law_1153, fd_La_law_1155, fd_La_law_1156, fd_La_law_1157, fd_La_law_1159, fd_La_law_1160, fd_La_law_1161, fd_La_law_1162, k11, l11, k72, n1, e1, j1]
  (try simp only [c1, i11])
  refine am_call (rx_told (d := d + 9) r1) (fun o h2 q => ?_)
  obtain ⟨⟨y, rfl⟩, q⟩ := q
  have I2 := I1.rq q
  simp only [am_wp, am_stp, am_en, am_as, am_pad, am_nth, am_set, am_st1, am_st2, am_kl, am_kill, am_mem, am_fv, am_tk, am_wt, am_bk, Option.toList, List.cons_append, List.nil_append, Nat.reduceAdd, Nat.reduceEqDiff, Nat.reduceLeDiff, reduceIte, Nat.reduceLT, or_self, true_or, or_true, if_true, if_false, and_self, and_true, true_and, not_false_eq_true, not_true_eq_false]
  refine am_go [1170] 2 ?_
  simp only [am_wp, am_stp, am_en, am_as, am_pad, am_nth, am_set, am_st1, am_st2, am_kl, am_kill, am_mem, am_fv, am_tk, am_wt, am_bk, Option.toList, List.cons_append, List.nil_append, Nat.reduceAdd, Nat.reduceEqDiff, Nat.reduceLeDiff, reduceIte, Nat.reduceLT, or_self, true_or, or_true, if_true, if_false, and_self, and_true, true_and, not_false_eq_true, not_true_eq_false, fd_La_law_1165, fd_La_law_1167]
  exact hk _ _ _ _ I2
