/-! THE REFERENCE'S get -/
def vq (P : Nat) (E : Nat → List ent) (now : List Nat) (mk : Nat → List Nat) (v : Int32) (l : List Nat) (h g : am_H) : Prop := rq P h g ∧ rC P g ∧ rR P g E now mk ∧ vv g v l ∧ ∀ s ∈ l, s ∈ al now mk
theorem vq.fr {P : Nat} {E : Nat → List ent} {now : List Nat} {mk : Nat → List Nat} {v : Int32} {l : List Nat} {S : List Nat} {h g g' : am_H} (c : vq P E now mk v l h g) (f : am_fi S g g') (hS : ∀ q ∈ S, q = 72 ∨ q ∈ rB) (h72 : ∀ j, rJ j → am_I g' 72 j = am_I g 72 j) : vq P E now mk v l h g' := by
  obtain ⟨c1, c2, c3, c4, c5⟩ := c
  exact ⟨c1.trans (rq.fr c1.1 f hS h72), c2.fr f hS h72, c3.fr c2.2.2.1 f hS h72, c4.fr f hS h72, c5⟩
theorem vq.s {P j : Nat} {E : Nat → List ent} {now : List Nat} {mk : Nat → List Nat} {v : Int32} {l : List Nat} {x : Int32} {h g : am_H} (c : vq P E now mk v l h g) (hj : ¬ rJ j) : vq P E now mk v l h (am_sI g 72 j x) :=
  c.fr (S := [72]) (am_fi.refl.sI (by simp)) (by simp) (fun i hi => by
    have : i ≠ j := fun e => hj (e ▸ hi)
    rw [hx_I_sI, if_pos rfl, if_neg this])
theorem rx_get_seen {d P c : Nat} {v : Int32} {z : Int64} {w7 w8 w9 w10 : Value} {E : Nat → List ent} {now : List Nat} {mk : Nat → List Nat} {l : List Nat} {h g : am_H} (q : vq P E now mk v l h g) (h35 : am_I g 72 35 = nI c) (hc : c < 60)
    (hx : ∀ (ad : Int32) (su : Int64) (x11 : Int32), am_Ex nm_pr (d + 3) mt_Mo_get (344, [.ref 72, .int v, .long z, .retAddr 0, .int ad, .long su, .retAddr 0, w7, w8, w9, w10, .int x11], [], g) (fun o h' => lany o ∧ rq P h h')) (hw : ∀ y, w10 ≠ .long y) : ∀ (m i : Nat) (ad : Int32) (su : Int64), m + i = c →
    am_Ex nm_pr (d + 3) mt_Mo_get (247, [.ref 72, .int v, .long z, .retAddr 0, .int ad, .long su, .retAddr 0, w7, w8, w9, w10, .int (nI i)], [], g) (fun o h' => lany o ∧ rq P h h')
  | 0, i, ad, su, hm => by
    have S := q.2.1.1
    have e : i = c := by omega
    subst e
    have l1 : ¬ nI i < nI i := nI_nlt (Nat.le_refl _) (by omega)
    refine am_go [256, 344] 4 ?_
    simp only [am_wp, am_stp, am_en, am_as, am_pad, am_nth, am_set, am_st1, am_st2, am_kl, am_kill, am_mem, am_fv, am_tk, am_wt, am_bk, Option.toList, List.cons_append, List.nil_append, Nat.reduceAdd, Nat.reduceEqDiff, Nat.reduceLeDiff, reduceIte, Nat.reduceLT, or_self, true_or, or_true, if_true, if_false, and_self, and_true, true_and, not_false_eq_true, not_true_eq_false, fd_Mo_get_247, fd_Mo_get_249, fd_Mo_get_250, fd_Mo_get_253, S.all, h35, l1]
    exact hx _ _ _
  | m + 1, i, ad, su, hm => by
    have S := q.2.1.1
    have l1 : nI i < nI c := nI_lt (by omega) (by omega)
    have i1 := am_inb (c := i) (N := 60) (by omega) (by omega)
    have q1 : (nI i).toNatClampNeg = i := nI_clamp (by omega)
    have next : ∀ (ad : Int32) (su : Int64), am_Ex nm_pr (d + 3) mt_Mo_get (338, [.ref 72, .int v, .long z, .retAddr 0, .int ad, .long su, .retAddr 0, w7, w8, w9, w10, .int (nI i)], [], g) (fun o h' => lany o ∧ rq P h h') := fun ad su => by
      refine am_go [247] 2 ?_
      simp only [am_wp, am_stp, am_en, am_as, am_pad, am_nth, am_set, am_st1, am_st2, am_kl, am_kill, am_mem, am_fv, am_tk, am_wt, am_bk, Option.toList, List.cons_append, List.nil_append, Nat.reduceAdd, Nat.reduceEqDiff, Nat.reduceLeDiff, reduceIte, Nat.reduceLT, or_self, true_or, or_true, if_true, if_false, and_self, and_true, true_and, not_false_eq_true, not_true_eq_false, fd_Mo_get_338, fd_Mo_get_341, S.all, nI_1]
      exact rx_get_seen q h35 hc hx hw m (i + 1) ad su (by omega)
    refine am_go [256, 344] 4 ?_
    simp only [am_wp, am_stp, am_en, am_as, am_pad, am_nth, am_set, am_st1, am_st2, am_kl, am_kill, am_mem, am_fv, am_tk, am_wt, am_bk, Option.toList, List.cons_append, List.nil_append, Nat.reduceAdd, Nat.reduceEqDiff, Nat.reduceLeDiff, reduceIte, Nat.reduceLT, or_self, true_or, or_true, if_true, if_false, and_self, and_true, true_and, not_false_eq_true, not_true_eq_false, fd_Mo_get_247, fd_Mo_get_249, fd_Mo_get_250, fd_Mo_get_253, S.all, h35, l1]
    refine am_go [268, 338] 7 ?_
    simp only [am_wp, am_stp, am_en, am_as, am_pad, am_nth, am_set, am_st1, am_st2, am_kl, am_kill, am_mem, am_fv, am_tk, am_wt, am_bk, Option.toList, List.cons_append, List.nil_append, Nat.reduceAdd, Nat.reduceEqDiff, Nat.reduceLeDiff, reduceIte, Nat.reduceLT, or_self, true_or, or_true, if_true, if_false, and_self, and_true, true_and, not_false_eq_true, not_true_eq_false, fd_Mo_get_256, fd_Mo_get_257, fd_Mo_get_260, fd_Mo_get_262, fd_Mo_get_263, fd_Mo_get_264, fd_Mo_get_265, S.all, i1, q1]
    refine wif ?_ (next _ _)
    refine am_go [279, 295] 6 ?_
    simp only [am_wp, am_stp, am_en, am_as, am_pad, am_nth, am_set, am_st1, am_st2, am_kl, am_kill, am_mem, am_fv, am_tk, am_wt, am_bk, Option.toList, List.cons_append, List.nil_append, Nat.reduceAdd, Nat.reduceEqDiff, Nat.reduceLeDiff, reduceIte, Nat.reduceLT, or_self, true_or, or_true, if_true, if_false, and_self, and_true, true_and, not_false_eq_true, not_true_eq_false, fd_Mo_get_268, fd_Mo_get_269, fd_Mo_get_272, fd_Mo_get_274, fd_Mo_get_275, fd_Mo_get_276, S.all, i1, q1]
    refine wif ?_ ?_
    rotate_left
    rotate_left
    · refine am_go [284] 3 ?_
      simp only [am_wp, am_stp, am_en, am_as, am_pad, am_nth, am_set, am_st1, am_st2, am_kl, am_kill, am_mem, am_fv, am_tk, am_wt, am_bk, Option.toList, List.cons_append, List.nil_append, Nat.reduceAdd, Nat.reduceEqDiff, Nat.reduceLeDiff, reduceIte, Nat.reduceLT, or_self, true_or, or_true, if_true, if_false, and_self, and_true, true_and, not_false_eq_true, not_true_eq_false, fd_Mo_get_279, fd_Mo_get_280, fd_Mo_get_281, S.all]
      have q2 := q.s (j := 10) (x := 1) (by unfold rJ; omega)
      generalize am_sI g 72 10 1 = g2 at *
      have S2 := q2.2.1.1
      refine am_go [] 7 ?_
      simp only [am_wp, am_stp, am_en, am_as, am_pad, am_nth, am_set, am_st1, am_st2, am_kl, am_kill, am_mem, am_fv, am_tk, am_wt, am_bk, Option.toList, List.cons_append, List.nil_append, Nat.reduceAdd, Nat.reduceEqDiff, Nat.reduceLeDiff, reduceIte, Nat.reduceLT, or_self, true_or, or_true, if_true, if_false, and_self, and_true, true_and, not_false_eq_true, not_true_eq_false, fd_Mo_get_284, fd_Mo_get_285, fd_Mo_get_288, fd_Mo_get_290, fd_Mo_get_291, fd_Mo_get_293, fd_Mo_get_294, S2.all, i1, q1]
      exact ⟨⟨_, rfl⟩, q2.1⟩
    refine am_go [306, 323] 6 ?_
    simp only [am_wp, am_stp, am_en, am_as, am_pad, am_nth, am_set, am_st1, am_st2, am_kl, am_kill, am_mem, am_fv, am_tk, am_wt, am_bk, Option.toList, List.cons_append, List.nil_append, Nat.reduceAdd, Nat.reduceEqDiff, Nat.reduceLeDiff, reduceIte, Nat.reduceLT, or_self, true_or, or_true, if_true, if_false, and_self, and_true, true_and, not_false_eq_true, not_true_eq_false, fd_Mo_get_295, fd_Mo_get_296, fd_Mo_get_299, fd_Mo_get_301, fd_Mo_get_302, fd_Mo_get_303, S.all, i1, q1]
    refine wif ?_ ?_
    rotate_left
    rotate_left
    · have fin : ∀ x : Int32, am_Ex nm_pr (d + 3) mt_Mo_get (317, [.ref 72, .int v, .long z, .retAddr 0, .int ad, .long su, .retAddr 0, w7, w8, w9, w10, .int (nI i)], [.int x, .ref 72], g) (fun o h' => lany o ∧ rq P h h') := fun x => by
        refine am_go [320] 1 ?_
        simp only [am_wp, am_stp, am_en, am_as, am_pad, am_nth, am_set, am_st1, am_st2, am_kl, am_kill, am_mem, am_fv, am_tk, am_wt, am_bk, Option.toList, List.cons_append, List.nil_append, Nat.reduceAdd, Nat.reduceEqDiff, Nat.reduceLeDiff, reduceIte, Nat.reduceLT, or_self, true_or, or_true, if_true, if_false, and_self, and_true, true_and, not_false_eq_true, not_true_eq_false, fd_Mo_get_317, S.all]
        have q2 := q.s (j := 10) (x := x) (by unfold rJ; omega)
        generalize am_sI g 72 10 x = g2 at *
        have S2 := q2.2.1.1
        refine am_go [] 2 ?_
        simp only [am_wp, am_stp, am_en, am_as, am_pad, am_nth, am_set, am_st1, am_st2, am_kl, am_kill, am_mem, am_fv, am_tk, am_wt, am_bk, Option.toList, List.cons_append, List.nil_append, Nat.reduceAdd, Nat.reduceEqDiff, Nat.reduceLeDiff, reduceIte, Nat.reduceLT, or_self, true_or, or_true, if_true, if_false, and_self, and_true, true_and, not_false_eq_true, not_true_eq_false, fd_Mo_get_320, fd_Mo_get_322, S2.all]
        exact ⟨⟨_, rfl⟩, q2.1⟩
      refine am_go [312, 316] 3 ?_
      simp only [am_wp, am_stp, am_en, am_as, am_pad, am_nth, am_set, am_st1, am_st2, am_kl, am_kill, am_mem, am_fv, am_tk, am_wt, am_bk, Option.toList, List.cons_append, List.nil_append, Nat.reduceAdd, Nat.reduceEqDiff, Nat.reduceLeDiff, reduceIte, Nat.reduceLT, or_self, true_or, or_true, if_true, if_false, and_self, and_true, true_and, not_false_eq_true, not_true_eq_false, fd_Mo_get_306, fd_Mo_get_307, fd_Mo_get_309, S.all]
      refine wif ?_ ?_
      · refine am_go [317] 1 ?_
        simp only [am_wp, am_stp, am_en, am_as, am_pad, am_nth, am_set, am_st1, am_st2, am_kl, am_kill, am_mem, am_fv, am_tk, am_wt, am_bk, Option.toList, List.cons_append, List.nil_append, Nat.reduceAdd, Nat.reduceEqDiff, Nat.reduceLeDiff, reduceIte, Nat.reduceLT, or_self, true_or, or_true, if_true, if_false, and_self, and_true, true_and, not_false_eq_true, not_true_eq_false, fd_Mo_get_316, S.all]
        exact fin _
      · refine am_go [317] 2 ?_
        simp only [am_wp, am_stp, am_en, am_as, am_pad, am_nth, am_set, am_st1, am_st2, am_kl, am_kill, am_mem, am_fv, am_tk, am_wt, am_bk, Option.toList, List.cons_append, List.nil_append, Nat.reduceAdd, Nat.reduceEqDiff, Nat.reduceLeDiff, reduceIte, Nat.reduceLT, or_self, true_or, or_true, if_true, if_false, and_self, and_true, true_and, not_false_eq_true, not_true_eq_false, fd_Mo_get_312, fd_Mo_get_313, S.all]
        exact fin _
    refine am_go [338] 9 ?_
    simp only [am_wp, am_stp, am_en, am_as, am_pad, am_nth, am_set, am_st1, am_st2, am_kl, am_kill, am_mem, am_fv, am_tk, am_wt, am_bk, Option.toList, List.cons_append, List.nil_append, Nat.reduceAdd, Nat.reduceEqDiff, Nat.reduceLeDiff, reduceIte, Nat.reduceLT, or_self, true_or, or_true, if_true, if_false, and_self, and_true, true_and, not_false_eq_true, not_true_eq_false, fd_Mo_get_323, fd_Mo_get_324, fd_Mo_get_326, fd_Mo_get_328, fd_Mo_get_329, fd_Mo_get_332, fd_Mo_get_334, fd_Mo_get_335, fd_Mo_get_336, S.all, i1, q1]
    exact next _ _
theorem rx_get_p {d s n : Nat} {v ad x7 : Int32} {z su : Int64} {w10 w11 : Value} {g : am_H} {Q : am_O → am_H → Prop} (hS : mo_Sk g) (hs : s < 100) (hn : n ≤ 1024) (h0 : ¬ z < am_L g 83 (1024 * s)) (hx : ∀ p, p < n → am_Ex nm_pr d mt_Mo_get (196, [.ref 72, .int v, .long z, .retAddr 0, .int ad, .long su, .retAddr 0, .int x7, .int (nI s), .int (nI p), w10, w11], [], g) Q) : ∀ p, p < n →
    am_Ex nm_pr d mt_Mo_get (171, [.ref 72, .int v, .long z, .retAddr 0, .int ad, .long su, .retAddr 0, .int x7, .int (nI s), .int (nI p), w10, w11], [], g) Q
  | 0, hp => by
    have e4 : 1024 * nI s = nI (1024 * s) := (Int32.ofNat_mul 1024 s).symm
    have i3 := am_inb (c := 1024 * s + 0) (N := 102400) (by omega) (by omega)
    have q3 : (nI (1024 * s + 0)).toNatClampNeg = 1024 * s + 0 := nI_clamp (by omega)
    have h0' : ¬ z < am_L g 83 (1024 * s + 0) := h0
    refine am_go [190, 196] 11 ?_
    simp only [am_wp, am_stp, am_en, am_as, am_pad, am_nth, am_set, am_st1, am_st2, am_kl, am_kill, am_mem, am_fv, am_tk, am_wt, am_bk, Option.toList, List.cons_append, List.nil_append, Nat.reduceAdd, Nat.reduceEqDiff, Nat.reduceLeDiff, reduceIte, Nat.reduceLT, or_self, true_or, or_true, if_true, if_false, and_self, and_true, true_and, not_false_eq_true, not_true_eq_false, fd_Mo_get_171, fd_Mo_get_172, fd_Mo_get_175, fd_Mo_get_178, fd_Mo_get_180, fd_Mo_get_181, fd_Mo_get_183, fd_Mo_get_184, fd_Mo_get_185, fd_Mo_get_186, fd_Mo_get_187, hS.all, e4, nI_add, i3, q3]
    simp only [lc_gt, h0', am_wp, am_stp, am_en, am_as, am_pad, am_nth, am_set, am_st1, am_st2, am_kl, am_kill, am_mem, am_fv, am_tk, am_wt, am_bk, Option.toList, List.cons_append, List.nil_append, Nat.reduceAdd, Nat.reduceEqDiff, Nat.reduceLeDiff, reduceIte, Nat.reduceLT, or_self, true_or, or_true, if_true, if_false, and_self, and_true, true_and, not_false_eq_true, not_true_eq_false]
    exact hx 0 hp
  | p + 1, hp => by
    have e4 : 1024 * nI s = nI (1024 * s) := (Int32.ofNat_mul 1024 s).symm
    have i3 : (nI (1024 * s + (p + 1)) < 0 ∨ 102400 ≤ 1024 * s + (p + 1)) = False := am_inb (c := 1024 * s + (p + 1)) (N := 102400) (by omega) (by omega)
    have q3 : (nI (1024 * s + (p + 1))).toNatClampNeg = 1024 * s + (p + 1) := nI_clamp (by omega)
    have em : nI (p + 1) - 1 = nI p := nI_pred p
    have em2 : nI (p + 1) + -1 = nI p := by rw [← em, Int32.sub_eq_add_neg]
    generalize hP : p + 1 = p1 at *
    refine am_go [190, 196] 11 ?_
    simp only [am_wp, am_stp, am_en, am_as, am_pad, am_nth, am_set, am_st1, am_st2, am_kl, am_kill, am_mem, am_fv, am_tk, am_wt, am_bk, Option.toList, List.cons_append, List.nil_append, Nat.reduceAdd, Nat.reduceEqDiff, Nat.reduceLeDiff, reduceIte, Nat.reduceLT, or_self, true_or, or_true, if_true, if_false, and_self, and_true, true_and, not_false_eq_true, not_true_eq_false, fd_Mo_get_171, fd_Mo_get_172, fd_Mo_get_175, fd_Mo_get_178, fd_Mo_get_180, fd_Mo_get_181, fd_Mo_get_183, fd_Mo_get_184, fd_Mo_get_185, fd_Mo_get_186, fd_Mo_get_187, hS.all, e4, nI_add, i3, q3]
    refine wif ?_ (hx p1 hp)
    refine am_go [171] 2 ?_
    simp only [am_wp, am_stp, am_en, am_as, am_pad, am_nth, am_set, am_st1, am_st2, am_kl, am_kill, am_mem, am_fv, am_tk, am_wt, am_bk, Option.toList, List.cons_append, List.nil_append, Nat.reduceAdd, Nat.reduceEqDiff, Nat.reduceLeDiff, reduceIte, Nat.reduceLT, or_self, true_or, or_true, if_true, if_false, and_self, and_true, true_and, not_false_eq_true, not_true_eq_false, fd_Mo_get_190, fd_Mo_get_193, em2]
    exact rx_get_p hS hs hn h0 hx p (by omega)
theorem rx_get_loop {d P : Nat} {v : Int32} {z : Int64} {E : Nat → List ent} {now : List Nat} {mk : Nat → List Nat} {l : List Nat} {h : am_H} : ∀ (m r : Nat) (ad : Int32) (su : Int64) (w8 w9 w10 w11 : Value) (g : am_H), m + r = l.length → vq P E now mk v l h g →
    am_Ex nm_pr (d + 3) mt_Mo_get (103, [.ref 72, .int v, .long z, .retAddr 0, .int ad, .long su, .retAddr 0, .int (nI r), w8, w9, w10, w11], [], g) (fun o h' => lany o ∧ rq P h h')
  | 0, r, ad, su, w8, w9, w10, w11, g, hm, q => by
    have S := q.2.1.1
    have l9 := q.2.2.2.1.1
    have e : r = l.length := by omega
    subst e
    have l1 : ¬ nI l.length < nI l.length := nI_nlt (Nat.le_refl _) (by omega)
    refine am_go [] 4 ?_
    simp only [am_wp, am_stp, am_en, am_as, am_pad, am_nth, am_set, am_st1, am_st2, am_kl, am_kill, am_mem, am_fv, am_tk, am_wt, am_bk, Option.toList, List.cons_append, List.nil_append, Nat.reduceAdd, Nat.reduceEqDiff, Nat.reduceLeDiff, reduceIte, Nat.reduceLT, or_self, true_or, or_true, if_true, if_false, and_self, and_true, true_and, not_false_eq_true, not_true_eq_false, fd_Mo_get_103, fd_Mo_get_105, fd_Mo_get_106, fd_Mo_get_107, S.all]
    refine am_call (rx_runsOf (d := d + 2) S q.2.2.2.1) (fun o g1 w => ?_)
    obtain ⟨rfl, rfl⟩ := w
    simp only [am_wp, am_stp, am_en, am_as, am_pad, am_nth, am_set, am_st1, am_st2, am_kl, am_kill, am_mem, am_fv, am_tk, am_wt, am_bk, Option.toList, List.cons_append, List.nil_append, Nat.reduceAdd, Nat.reduceEqDiff, Nat.reduceLeDiff, reduceIte, Nat.reduceLT, or_self, true_or, or_true, if_true, if_false, and_self, and_true, true_and, not_false_eq_true, not_true_eq_false]
    refine am_go [113, 350] 1 ?_
    simp only [am_wp, am_stp, am_en, am_as, am_pad, am_nth, am_set, am_st1, am_st2, am_kl, am_kill, am_mem, am_fv, am_tk, am_wt, am_bk, Option.toList, List.cons_append, List.nil_append, Nat.reduceAdd, Nat.reduceEqDiff, Nat.reduceLeDiff, reduceIte, Nat.reduceLT, or_self, true_or, or_true, if_true, if_false, and_self, and_true, true_and, not_false_eq_true, not_true_eq_false, fd_Mo_get_110, S.all, l1]
    have fin : ∀ x : Int32, am_Ex nm_pr (d + 3) mt_Mo_get (361, [.ref 72, .int v, .long z, .retAddr 0, .int ad, .long su, .retAddr 0, .int (nI l.length), w8, w9, w10, w11], [.int x, .ref 72], g1) (fun o h' => lany o ∧ rq P h h') := fun x => by
      refine am_go [364] 1 ?_
      simp only [am_wp, am_stp, am_en, am_as, am_pad, am_nth, am_set, am_st1, am_st2, am_kl, am_kill, am_mem, am_fv, am_tk, am_wt, am_bk, Option.toList, List.cons_append, List.nil_append, Nat.reduceAdd, Nat.reduceEqDiff, Nat.reduceLeDiff, reduceIte, Nat.reduceLT, or_self, true_or, or_true, if_true, if_false, and_self, and_true, true_and, not_false_eq_true, not_true_eq_false, fd_Mo_get_361, S.all]
      have q2 := q.s (j := 10) (x := x) (by unfold rJ; omega)
      generalize am_sI g1 72 10 x = g2 at *
      have S2 := q2.2.1.1
      refine am_go [] 2 ?_
      simp only [am_wp, am_stp, am_en, am_as, am_pad, am_nth, am_set, am_st1, am_st2, am_kl, am_kill, am_mem, am_fv, am_tk, am_wt, am_bk, Option.toList, List.cons_append, List.nil_append, Nat.reduceAdd, Nat.reduceEqDiff, Nat.reduceLeDiff, reduceIte, Nat.reduceLT, or_self, true_or, or_true, if_true, if_false, and_self, and_true, true_and, not_false_eq_true, not_true_eq_false, fd_Mo_get_364, fd_Mo_get_366, S2.all]
      exact ⟨⟨_, rfl⟩, q2.1⟩
    refine am_go [356, 360] 3 ?_
    simp only [am_wp, am_stp, am_en, am_as, am_pad, am_nth, am_set, am_st1, am_st2, am_kl, am_kill, am_mem, am_fv, am_tk, am_wt, am_bk, Option.toList, List.cons_append, List.nil_append, Nat.reduceAdd, Nat.reduceEqDiff, Nat.reduceLeDiff, reduceIte, Nat.reduceLT, or_self, true_or, or_true, if_true, if_false, and_self, and_true, true_and, not_false_eq_true, not_true_eq_false, fd_Mo_get_350, fd_Mo_get_351, fd_Mo_get_353, S.all]
    refine wif ?_ ?_
    · refine am_go [361] 1 ?_
      simp only [am_wp, am_stp, am_en, am_as, am_pad, am_nth, am_set, am_st1, am_st2, am_kl, am_kill, am_mem, am_fv, am_tk, am_wt, am_bk, Option.toList, List.cons_append, List.nil_append, Nat.reduceAdd, Nat.reduceEqDiff, Nat.reduceLeDiff, reduceIte, Nat.reduceLT, or_self, true_or, or_true, if_true, if_false, and_self, and_true, true_and, not_false_eq_true, not_true_eq_false, fd_Mo_get_360, S.all]
      exact fin _
    · refine am_go [361] 2 ?_
      simp only [am_wp, am_stp, am_en, am_as, am_pad, am_nth, am_set, am_st1, am_st2, am_kl, am_kill, am_mem, am_fv, am_tk, am_wt, am_bk, Option.toList, List.cons_append, List.nil_append, Nat.reduceAdd, Nat.reduceEqDiff, Nat.reduceLeDiff, reduceIte, Nat.reduceLT, or_self, true_or, or_true, if_true, if_false, and_self, and_true, true_and, not_false_eq_true, not_true_eq_false, fd_Mo_get_356, fd_Mo_get_357, S.all]
      exact fin _
  | m + 1, r, ad, su, w8, w9, w10, w11, g, hm, q => by
    obtain ⟨c1, c2, c3, c4, c5⟩ := id q
    have S := c2.1
    have P1024 := c2.2.2.1
    have l9 := c4.1
    have l1 : nI r < nI l.length := nI_lt (by omega) (by omega)
    obtain ⟨s, hs⟩ : ∃ s, l[r]? = some s := ⟨l[r]'(by omega), List.getElem?_eq_getElem (by omega)⟩
    have hs100 := c4.2.1 s (List.mem_of_getElem? hs)
    obtain ⟨-, pl, p2, p3, p4, p5, p6⟩ := c3.2.2.1.2 s (c5 s (List.mem_of_getElem? hs))
    have hl := (pw_len p5 p6).2
    have hpos := List.length_pos_iff.mpr p2
    have i2 := am_inb (c := s) (N := 100) (by omega) (by omega)
    have q2 : (nI s).toNatClampNeg = s := nI_clamp (by omega)
    have e4 : 1024 * nI s = nI (1024 * s) := (Int32.ofNat_mul 1024 s).symm
    have i3 := am_inb (c := 1024 * s) (N := 102400) (by omega) (by omega)
    have q3 : (nI (1024 * s)).toNatClampNeg = 1024 * s := nI_clamp (by omega)
    have one0 : ¬ (1 : Int32) = 0 := by decide
    refine am_go [] 4 ?_
    simp only [am_wp, am_stp, am_en, am_as, am_pad, am_nth, am_set, am_st1, am_st2, am_kl, am_kill, am_mem, am_fv, am_tk, am_wt, am_bk, Option.toList, List.cons_append, List.nil_append, Nat.reduceAdd, Nat.reduceEqDiff, Nat.reduceLeDiff, reduceIte, Nat.reduceLT, or_self, true_or, or_true, if_true, if_false, and_self, and_true, true_and, not_false_eq_true, not_true_eq_false, fd_Mo_get_103, fd_Mo_get_105, fd_Mo_get_106, fd_Mo_get_107, S.all]
    refine am_call (rx_runsOf (d := d + 2) S c4) (fun o g1 w => ?_)
    obtain ⟨rfl, rfl⟩ := w
    simp only [am_wp, am_stp, am_en, am_as, am_pad, am_nth, am_set, am_st1, am_st2, am_kl, am_kill, am_mem, am_fv, am_tk, am_wt, am_bk, Option.toList, List.cons_append, List.nil_append, Nat.reduceAdd, Nat.reduceEqDiff, Nat.reduceLeDiff, reduceIte, Nat.reduceLT, or_self, true_or, or_true, if_true, if_false, and_self, and_true, true_and, not_false_eq_true, not_true_eq_false]
    refine am_go [113, 350] 1 ?_
    simp only [am_wp, am_stp, am_en, am_as, am_pad, am_nth, am_set, am_st1, am_st2, am_kl, am_kill, am_mem, am_fv, am_tk, am_wt, am_bk, Option.toList, List.cons_append, List.nil_append, Nat.reduceAdd, Nat.reduceEqDiff, Nat.reduceLeDiff, reduceIte, Nat.reduceLT, or_self, true_or, or_true, if_true, if_false, and_self, and_true, true_and, not_false_eq_true, not_true_eq_false, fd_Mo_get_110, S.all, l1]
    refine am_go [] 4 ?_
    simp only [am_wp, am_stp, am_en, am_as, am_pad, am_nth, am_set, am_st1, am_st2, am_kl, am_kill, am_mem, am_fv, am_tk, am_wt, am_bk, Option.toList, List.cons_append, List.nil_append, Nat.reduceAdd, Nat.reduceEqDiff, Nat.reduceLeDiff, reduceIte, Nat.reduceLT, or_self, true_or, or_true, if_true, if_false, and_self, and_true, true_and, not_false_eq_true, not_true_eq_false, fd_Mo_get_113, fd_Mo_get_114, fd_Mo_get_115, fd_Mo_get_117, S.all]
    refine am_call (rx_runOf (d := d + 2) S c4 hs) (fun o g2 w => ?_)
    obtain ⟨rfl, rfl⟩ := w
    simp only [am_wp, am_stp, am_en, am_as, am_pad, am_nth, am_set, am_st1, am_st2, am_kl, am_kill, am_mem, am_fv, am_tk, am_wt, am_bk, Option.toList, List.cons_append, List.nil_append, Nat.reduceAdd, Nat.reduceEqDiff, Nat.reduceLeDiff, reduceIte, Nat.reduceLT, or_self, true_or, or_true, if_true, if_false, and_self, and_true, true_and, not_false_eq_true, not_true_eq_false]
    have next : ∀ (ad : Int32) (su : Int64) (w9 w10 w11 : Value) g, vq P E now mk v l h g → am_Ex nm_pr (d + 3) mt_Mo_get (344, [.ref 72, .int v, .long z, .retAddr 0, .int ad, .long su, .retAddr 0, .int (nI r), .int (nI s), w9, w10, w11], [], g) (fun o h' => lany o ∧ rq P h h') := fun ad su w9 w10 w11 g q => by
      have S := q.2.1.1
      refine am_go [103] 2 ?_
      simp only [am_wp, am_stp, am_en, am_as, am_pad, am_nth, am_set, am_st1, am_st2, am_kl, am_kill, am_mem, am_fv, am_tk, am_wt, am_bk, Option.toList, List.cons_append, List.nil_append, Nat.reduceAdd, Nat.reduceEqDiff, Nat.reduceLeDiff, reduceIte, Nat.reduceLT, or_self, true_or, or_true, if_true, if_false, and_self, and_true, true_and, not_false_eq_true, not_true_eq_false, fd_Mo_get_344, fd_Mo_get_347, S.all, nI_1]
      exact rx_get_loop m (r + 1) ad su _ _ _ _ g (by omega) q
    refine am_go [138, 344] 10 ?_
    simp only [am_wp, am_stp, am_en, am_as, am_pad, am_nth, am_set, am_st1, am_st2, am_kl, am_kill, am_mem, am_fv, am_tk, am_wt, am_bk, Option.toList, List.cons_append, List.nil_append, Nat.reduceAdd, Nat.reduceEqDiff, Nat.reduceLeDiff, reduceIte, Nat.reduceLT, or_self, true_or, or_true, if_true, if_false, and_self, and_true, true_and, not_false_eq_true, not_true_eq_false, fd_Mo_get_120, fd_Mo_get_122, fd_Mo_get_123, fd_Mo_get_126, fd_Mo_get_129, fd_Mo_get_131, fd_Mo_get_132, fd_Mo_get_133, fd_Mo_get_134, fd_Mo_get_135, S.all, e4, i3, q3]
    simp only [lc_gt]
    by_cases h0 : z < am_L g2 83 (1024 * s)
    · simp only [h0, am_wp, am_stp, am_en, am_as, am_pad, am_nth, am_set, am_st1, am_st2, am_kl, am_kill, am_mem, am_fv, am_tk, am_wt, am_bk, Option.toList, List.cons_append, List.nil_append, Nat.reduceAdd, Nat.reduceEqDiff, Nat.reduceLeDiff, reduceIte, Nat.reduceLT, or_self, true_or, or_true, if_true, if_false, and_self, and_true, true_and, not_false_eq_true, not_true_eq_false]
      exact next _ _ _ _ _ _ q
    simp only [h0, am_wp, am_stp, am_en, am_as, am_pad, am_nth, am_set, am_st1, am_st2, am_kl, am_kill, am_mem, am_fv, am_tk, am_wt, am_bk, Option.toList, List.cons_append, List.nil_append, Nat.reduceAdd, Nat.reduceEqDiff, Nat.reduceLeDiff, reduceIte, Nat.reduceLT, or_self, true_or, or_true, if_true, if_false, and_self, and_true, true_and, not_false_eq_true, not_true_eq_false]
    refine am_go [150, 344] 7 ?_
    simp only [am_wp, am_stp, am_en, am_as, am_pad, am_nth, am_set, am_st1, am_st2, am_kl, am_kill, am_mem, am_fv, am_tk, am_wt, am_bk, Option.toList, List.cons_append, List.nil_append, Nat.reduceAdd, Nat.reduceEqDiff, Nat.reduceLeDiff, reduceIte, Nat.reduceLT, or_self, true_or, or_true, if_true, if_false, and_self, and_true, true_and, not_false_eq_true, not_true_eq_false, fd_Mo_get_138, fd_Mo_get_139, fd_Mo_get_142, fd_Mo_get_144, fd_Mo_get_145, fd_Mo_get_146, fd_Mo_get_147, S.all, i2, q2]
    refine wif (next _ _ _ _ _ _ q) ?_
    refine am_go [] 4 ?_
    simp only [am_wp, am_stp, am_en, am_as, am_pad, am_nth, am_set, am_st1, am_st2, am_kl, am_kill, am_mem, am_fv, am_tk, am_wt, am_bk, Option.toList, List.cons_append, List.nil_append, Nat.reduceAdd, Nat.reduceEqDiff, Nat.reduceLeDiff, reduceIte, Nat.reduceLT, or_self, true_or, or_true, if_true, if_false, and_self, and_true, true_and, not_false_eq_true, not_true_eq_false, fd_Mo_get_150, fd_Mo_get_151, fd_Mo_get_153, fd_Mo_get_154, S.all]
    refine am_call (rx_bars (d := d + 1) S hs100) (fun o g3 w => ?_)
    obtain ⟨b, rfl⟩ := w
    obtain ⟨x, rfl, -⟩ := b01_cases b
    simp only [am_wp, am_stp, am_en, am_as, am_pad, am_nth, am_set, am_st1, am_st2, am_kl, am_kill, am_mem, am_fv, am_tk, am_wt, am_bk, Option.toList, List.cons_append, List.nil_append, Nat.reduceAdd, Nat.reduceEqDiff, Nat.reduceLeDiff, reduceIte, Nat.reduceLT, or_self, true_or, or_true, if_true, if_false, and_self, and_true, true_and, not_false_eq_true, not_true_eq_false]
    refine am_go [160, 344] 1 ?_
    simp only [am_wp, am_stp, am_en, am_as, am_pad, am_nth, am_set, am_st1, am_st2, am_kl, am_kill, am_mem, am_fv, am_tk, am_wt, am_bk, Option.toList, List.cons_append, List.nil_append, Nat.reduceAdd, Nat.reduceEqDiff, Nat.reduceLeDiff, reduceIte, Nat.reduceLT, or_self, true_or, or_true, if_true, if_false, and_self, and_true, true_and, not_false_eq_true, not_true_eq_false, fd_Mo_get_157, S.all]
    refine wif ?_ (next _ _ _ _ _ _ q)
    have em : nI pl.length - 1 = nI (pl.length - 1) := nI_sub (b := 1) (by omega)
    refine am_go [171] 7 ?_
    simp only [am_wp, am_stp, am_en, am_as, am_pad, am_nth, am_set, am_st1, am_st2, am_kl, am_kill, am_mem, am_fv, am_tk, am_wt, am_bk, Option.toList, List.cons_append, List.nil_append, Nat.reduceAdd, Nat.reduceEqDiff, Nat.reduceLeDiff, reduceIte, Nat.reduceLT, or_self, true_or, or_true, if_true, if_false, and_self, and_true, true_and, not_false_eq_true, not_true_eq_false, fd_Mo_get_160, fd_Mo_get_161, fd_Mo_get_164, fd_Mo_get_166, fd_Mo_get_167, fd_Mo_get_168, fd_Mo_get_169, S.all, i2, q2, p3, em]
    refine rx_get_p (n := pl.length) S hs100 (by omega) h0 (fun p hp => ?_) (pl.length - 1) (by omega)
    obtain ⟨pg, hpg⟩ : ∃ x, pl[p]? = some x := ⟨pl[p]'hp, List.getElem?_eq_getElem hp⟩
    obtain ⟨g1, g2', g3', g4, g5, g6⟩ := p5 pg (List.mem_of_getElem? hpg)
    have v82 := p4 p pg hpg
    have i5 := am_inb (c := 1024 * s + p) (N := 102400) (by omega) (by omega)
    have q5 : (nI (1024 * s + p)).toNatClampNeg = 1024 * s + p := nI_clamp (by omega)
    refine am_go [] 9 ?_
    simp only [am_wp, am_stp, am_en, am_as, am_pad, am_nth, am_set, am_st1, am_st2, am_kl, am_kill, am_mem, am_fv, am_tk, am_wt, am_bk, Option.toList, List.cons_append, List.nil_append, Nat.reduceAdd, Nat.reduceEqDiff, Nat.reduceLeDiff, reduceIte, Nat.reduceLT, or_self, true_or, or_true, if_true, if_false, and_self, and_true, true_and, not_false_eq_true, not_true_eq_false, fd_Mo_get_196, fd_Mo_get_197, fd_Mo_get_200, fd_Mo_get_203, fd_Mo_get_205, fd_Mo_get_206, fd_Mo_get_208, fd_Mo_get_209, fd_Mo_get_210, S.all, e4, nI_add, i5, q5, v82]
    refine am_go [222] 6 ?_
    simp only [am_wp, am_stp, am_en, am_as, am_pad, am_nth, am_set, am_st1, am_st2, am_kl, am_kill, am_mem, am_fv, am_tk, am_wt, am_bk, Option.toList, List.cons_append, List.nil_append, Nat.reduceAdd, Nat.reduceEqDiff, Nat.reduceLeDiff, reduceIte, Nat.reduceLT, or_self, true_or, or_true, if_true, if_false, and_self, and_true, true_and, not_false_eq_true, not_true_eq_false, fd_Mo_get_212, fd_Mo_get_213, fd_Mo_get_214, fd_Mo_get_217, fd_Mo_get_218, fd_Mo_get_219, S.all]
    have q6 := q.s (j := 6) (x := am_I g3 72 6 + 1) (by unfold rJ; omega)
    have e73 : am_I (am_sI g3 72 6 (am_I g3 72 6 + 1)) 73 = am_I g3 73 := by funext j; rw [hx_I_sI, if_neg (by decide)]
    generalize am_sI g3 72 6 (am_I g3 72 6 + 1) = g7 at *
    have S7 := q6.2.1.1
    refine am_go [] 3 ?_
    simp only [am_wp, am_stp, am_en, am_as, am_pad, am_nth, am_set, am_st1, am_st2, am_kl, am_kill, am_mem, am_fv, am_tk, am_wt, am_bk, Option.toList, List.cons_append, List.nil_append, Nat.reduceAdd, Nat.reduceEqDiff, Nat.reduceLeDiff, reduceIte, Nat.reduceLT, or_self, true_or, or_true, if_true, if_false, and_self, and_true, true_and, not_false_eq_true, not_true_eq_false, fd_Mo_get_222, fd_Mo_get_223, fd_Mo_get_225, S7.all]
    refine am_call (l2_Mo_isRight (d := d + 1) S7.Pg (show pg < 1024 by omega)) (fun o g8 w => ?_)
    obtain ⟨rfl, w⟩ := w
    rcases w with ⟨rfl, hR⟩ | ⟨rfl, -⟩
    · have hM : pg_M P g8 pg (E pg) := (g6 ((mo_Rt.eq (fun j _ => by rw [e73])).mp hR)).mono (fun j _ => by rw [e73])
      simp only [am_wp, am_stp, am_en, am_as, am_pad, am_nth, am_set, am_st1, am_st2, am_kl, am_kill, am_mem, am_fv, am_tk, am_wt, am_bk, Option.toList, List.cons_append, List.nil_append, Nat.reduceAdd, Nat.reduceEqDiff, Nat.reduceLeDiff, reduceIte, Nat.reduceLT, or_self, true_or, or_true, if_true, if_false, and_self, and_true, true_and, not_false_eq_true, not_true_eq_false]
      refine am_go [231, 238] 1 ?_
      simp only [am_wp, am_stp, am_en, am_as, am_pad, am_nth, am_set, am_st1, am_st2, am_kl, am_kill, am_mem, am_fv, am_tk, am_wt, am_bk, Option.toList, List.cons_append, List.nil_append, Nat.reduceAdd, Nat.reduceEqDiff, Nat.reduceLeDiff, reduceIte, Nat.reduceLT, or_self, true_or, or_true, if_true, if_false, and_self, and_true, true_and, not_false_eq_true, not_true_eq_false, fd_Mo_get_228, S7.all, one0]
      refine am_go [] 3 ?_
      simp only [am_wp, am_stp, am_en, am_as, am_pad, am_nth, am_set, am_st1, am_st2, am_kl, am_kill, am_mem, am_fv, am_tk, am_wt, am_bk, Option.toList, List.cons_append, List.nil_append, Nat.reduceAdd, Nat.reduceEqDiff, Nat.reduceLeDiff, reduceIte, Nat.reduceLT, or_self, true_or, or_true, if_true, if_false, and_self, and_true, true_and, not_false_eq_true, not_true_eq_false, fd_Mo_get_238, fd_Mo_get_239, fd_Mo_get_241, S7.all]
      refine am_call (l2_see (d := d + 2) S7 P1024 hM) (fun o g9 w => ?_)
      obtain ⟨rfl, F9, b1, b2, b3⟩ := w
      have q9 := q6.fr F9 (by simp [rB]) (fun j hj => b1 j (rJ_ne hj).2.2.2.2.2.2.2.1)
      simp only [am_wp, am_stp, am_en, am_as, am_pad, am_nth, am_set, am_st1, am_st2, am_kl, am_kill, am_mem, am_fv, am_tk, am_wt, am_bk, Option.toList, List.cons_append, List.nil_append, Nat.reduceAdd, Nat.reduceEqDiff, Nat.reduceLeDiff, reduceIte, Nat.reduceLT, or_self, true_or, or_true, if_true, if_false, and_self, and_true, true_and, not_false_eq_true, not_true_eq_false]
      refine am_go [247] 2 ?_
      simp only [am_wp, am_stp, am_en, am_as, am_pad, am_nth, am_set, am_st1, am_st2, am_kl, am_kill, am_mem, am_fv, am_tk, am_wt, am_bk, Option.toList, List.cons_append, List.nil_append, Nat.reduceAdd, Nat.reduceEqDiff, Nat.reduceLeDiff, reduceIte, Nat.reduceLT, or_self, true_or, or_true, if_true, if_false, and_self, and_true, true_and, not_false_eq_true, not_true_eq_false, fd_Mo_get_244, fd_Mo_get_245]
      exact rx_get_seen (d := d) q9 b2 (by omega) (fun ad su x11 => next _ _ _ _ _ _ q9) (by simp) (E pg).length 0 _ _ (by omega)
    · simp only [am_wp, am_stp, am_en, am_as, am_pad, am_nth, am_set, am_st1, am_st2, am_kl, am_kill, am_mem, am_fv, am_tk, am_wt, am_bk, Option.toList, List.cons_append, List.nil_append, Nat.reduceAdd, Nat.reduceEqDiff, Nat.reduceLeDiff, reduceIte, Nat.reduceLT, or_self, true_or, or_true, if_true, if_false, and_self, and_true, true_and, not_false_eq_true, not_true_eq_false]
      refine am_go [231, 238] 1 ?_
      simp only [am_wp, am_stp, am_en, am_as, am_pad, am_nth, am_set, am_st1, am_st2, am_kl, am_kill, am_mem, am_fv, am_tk, am_wt, am_bk, Option.toList, List.cons_append, List.nil_append, Nat.reduceAdd, Nat.reduceEqDiff, Nat.reduceLeDiff, reduceIte, Nat.reduceLT, or_self, true_or, or_true, if_true, if_false, and_self, and_true, true_and, not_false_eq_true, not_true_eq_false, fd_Mo_get_228, S7.all]
      refine am_go [] 5 ?_
      simp only [am_wp, am_stp, am_en, am_as, am_pad, am_nth, am_set, am_st1, am_st2, am_kl, am_kill, am_mem, am_fv, am_tk, am_wt, am_bk, Option.toList, List.cons_append, List.nil_append, Nat.reduceAdd, Nat.reduceEqDiff, Nat.reduceLeDiff, reduceIte, Nat.reduceLT, or_self, true_or, or_true, if_true, if_false, and_self, and_true, true_and, not_false_eq_true, not_true_eq_false, fd_Mo_get_231, fd_Mo_get_232, fd_Mo_get_233, fd_Mo_get_236, fd_Mo_get_237, S7.all]
      exact ⟨⟨_, rfl⟩, (q6.s (j := 10) (x := 3) (by unfold rJ; omega)).1⟩
theorem rx_get {d P : Nat} {v : Int32} {z : Int64} {h : am_H} (R : rI P h) : am_Rt nm_pr (d + 4) mi_Mo_get [.ref 72, .int v, .long z] h (fun o h' => lany o ∧ rq P h h') := by
  obtain ⟨C, E, now, mk, RR⟩ := id R
  have hS := R.1.1
  have q0 := rq.refl R
  have one0 : ¬ (1 : Int32) = 0 := by decide
  refine am_in' (d := d + 3) mt_Mo_get 12 rfl rfl rfl ?_
  refine am_go [] 3 ?_
  simp only [am_wp, am_stp, am_en, am_as, am_pad, am_nth, am_set, am_st1, am_st2, am_kl, am_kill, am_mem, am_fv, am_tk, am_wt, am_bk, Option.toList, List.cons_append, List.nil_append, Nat.reduceAdd, Nat.reduceEqDiff, Nat.reduceLeDiff, reduceIte, Nat.reduceLT, or_self, true_or, or_true, if_true, if_false, and_self, and_true, true_and, not_false_eq_true, not_true_eq_false, fd_Mo_get_0, fd_Mo_get_1, fd_Mo_get_2, hS.all]
  refine am_call (rx_isView (d := d + 2) hS RR) (fun o g w => ?_)
  obtain ⟨c, rfl, w⟩ := w
  have f1 : am_fi [72] h (am_sI h 72 0 c) := am_fi.refl.sI (by simp)
  have v1 : ∀ j, rJ j → am_I (am_sI h 72 0 c) 72 j = am_I h 72 j := fun j hj => by rw [hx_I_sI, if_pos rfl, if_neg (rJ_ne hj).1]
  have q1 := q0.s (j := 0) (v := c) (by unfold rJ; omega)
  have C1 := C.fr f1 (by simp) v1
  have R1 := RR.fr C.2.2.1 f1 (by simp) v1
  rcases w with rfl | ⟨rfl, l, hv, hl⟩
  · generalize am_sI h 72 0 c = g at *
    have S1 := C1.1
    simp only [am_wp, am_stp, am_en, am_as, am_pad, am_nth, am_set, am_st1, am_st2, am_kl, am_kill, am_mem, am_fv, am_tk, am_wt, am_bk, Option.toList, List.cons_append, List.nil_append, Nat.reduceAdd, Nat.reduceEqDiff, Nat.reduceLeDiff, reduceIte, Nat.reduceLT, or_self, true_or, or_true, if_true, if_false, and_self, and_true, true_and, not_false_eq_true, not_true_eq_false]
    refine am_go [8, 10] 1 ?_
    simp only [am_wp, am_stp, am_en, am_as, am_pad, am_nth, am_set, am_st1, am_st2, am_kl, am_kill, am_mem, am_fv, am_tk, am_wt, am_bk, Option.toList, List.cons_append, List.nil_append, Nat.reduceAdd, Nat.reduceEqDiff, Nat.reduceLeDiff, reduceIte, Nat.reduceLT, or_self, true_or, or_true, if_true, if_false, and_self, and_true, true_and, not_false_eq_true, not_true_eq_false, fd_Mo_get_5, S1.all]
    refine am_go [] 2 ?_
    simp only [am_wp, am_stp, am_en, am_as, am_pad, am_nth, am_set, am_st1, am_st2, am_kl, am_kill, am_mem, am_fv, am_tk, am_wt, am_bk, Option.toList, List.cons_append, List.nil_append, Nat.reduceAdd, Nat.reduceEqDiff, Nat.reduceLeDiff, reduceIte, Nat.reduceLT, or_self, true_or, or_true, if_true, if_false, and_self, and_true, true_and, not_false_eq_true, not_true_eq_false, fd_Mo_get_8, fd_Mo_get_9, S1.all]
    exact ⟨⟨_, rfl⟩, q1⟩
  · have hv1 := hv.fr f1 (by simp) v1
    clear f1 v1 hv
    generalize am_sI h 72 0 c = g at *
    have S1 := C1.1
    have Q : vq P E now mk v l h g := ⟨q1, C1, R1, hv1, hl⟩
    simp only [am_wp, am_stp, am_en, am_as, am_pad, am_nth, am_set, am_st1, am_st2, am_kl, am_kill, am_mem, am_fv, am_tk, am_wt, am_bk, Option.toList, List.cons_append, List.nil_append, Nat.reduceAdd, Nat.reduceEqDiff, Nat.reduceLeDiff, reduceIte, Nat.reduceLT, or_self, true_or, or_true, if_true, if_false, and_self, and_true, true_and, not_false_eq_true, not_true_eq_false]
    refine am_go [8, 10] 1 ?_
    simp only [am_wp, am_stp, am_en, am_as, am_pad, am_nth, am_set, am_st1, am_st2, am_kl, am_kill, am_mem, am_fv, am_tk, am_wt, am_bk, Option.toList, List.cons_append, List.nil_append, Nat.reduceAdd, Nat.reduceEqDiff, Nat.reduceLeDiff, reduceIte, Nat.reduceLT, or_self, true_or, or_true, if_true, if_false, and_self, and_true, true_and, not_false_eq_true, not_true_eq_false, fd_Mo_get_5, S1.all, one0]
    refine am_go [16] 4 ?_
    simp only [am_wp, am_stp, am_en, am_as, am_pad, am_nth, am_set, am_st1, am_st2, am_kl, am_kill, am_mem, am_fv, am_tk, am_wt, am_bk, Option.toList, List.cons_append, List.nil_append, Nat.reduceAdd, Nat.reduceEqDiff, Nat.reduceLeDiff, reduceIte, Nat.reduceLT, or_self, true_or, or_true, if_true, if_false, and_self, and_true, true_and, not_false_eq_true, not_true_eq_false, fd_Mo_get_10, fd_Mo_get_11, fd_Mo_get_13, fd_Mo_get_14]
    have go : ∀ (ad : Int32) (su : Int64) (w7 : Value), am_Ex nm_pr (d + 3) mt_Mo_get (100, [.ref 72, .int v, .long z, .retAddr 0, .int ad, .long su, .retAddr 0, w7, .retAddr 0, .retAddr 0, .retAddr 0, .retAddr 0], [], g) (fun o h' => lany o ∧ rq P h h') := fun ad su w7 => by
      refine am_go [103] 2 ?_
      simp only [am_wp, am_stp, am_en, am_as, am_pad, am_nth, am_set, am_st1, am_st2, am_kl, am_kill, am_mem, am_fv, am_tk, am_wt, am_bk, Option.toList, List.cons_append, List.nil_append, Nat.reduceAdd, Nat.reduceEqDiff, Nat.reduceLeDiff, reduceIte, Nat.reduceLT, or_self, true_or, or_true, if_true, if_false, and_self, and_true, true_and, not_false_eq_true, not_true_eq_false, fd_Mo_get_100, fd_Mo_get_101, S1.all]
      exact rx_get_loop l.length 0 ad su _ _ _ _ g (by omega) Q
    refine am_go [21, 100] 3 ?_
    simp only [am_wp, am_stp, am_en, am_as, am_pad, am_nth, am_set, am_st1, am_st2, am_kl, am_kill, am_mem, am_fv, am_tk, am_wt, am_bk, Option.toList, List.cons_append, List.nil_append, Nat.reduceAdd, Nat.reduceEqDiff, Nat.reduceLeDiff, reduceIte, Nat.reduceLT, or_self, true_or, or_true, if_true, if_false, and_self, and_true, true_and, not_false_eq_true, not_true_eq_false, fd_Mo_get_16, fd_Mo_get_17, fd_Mo_get_18, S1.all]
    refine wif ?_ (go _ _ _)
    obtain ⟨n, T, A⟩ := q1.1.tb
    refine am_go [] 3 ?_
    simp only [am_wp, am_stp, am_en, am_as, am_pad, am_nth, am_set, am_st1, am_st2, am_kl, am_kill, am_mem, am_fv, am_tk, am_wt, am_bk, Option.toList, List.cons_append, List.nil_append, Nat.reduceAdd, Nat.reduceEqDiff, Nat.reduceLeDiff, reduceIte, Nat.reduceLT, or_self, true_or, or_true, if_true, if_false, and_self, and_true, true_and, not_false_eq_true, not_true_eq_false, fd_Mo_get_21, fd_Mo_get_22, fd_Mo_get_23, S1.all]
    refine am_call (l2_Mo_placeOf (d := d + 2) T A.2.1) (fun o g2 w => ?_)
    obtain ⟨p, ⟨p1, -, -⟩, rfl, rfl⟩ := w
    have n64 := A.1
    simp only [am_wp, am_stp, am_en, am_as, am_pad, am_nth, am_set, am_st1, am_st2, am_kl, am_kill, am_mem, am_fv, am_tk, am_wt, am_bk, Option.toList, List.cons_append, List.nil_append, Nat.reduceAdd, Nat.reduceEqDiff, Nat.reduceLeDiff, reduceIte, Nat.reduceLT, or_self, true_or, or_true, if_true, if_false, and_self, and_true, true_and, not_false_eq_true, not_true_eq_false]
    by_cases hp : p < n
    · have l1 : nI p < nI n := nI_lt hp (by omega)
      have i1 := am_inb (c := p) (N := 64) (by omega) (by omega)
      have q2 : (nI p).toNatClampNeg = p := nI_clamp (by omega)
      refine am_go [37, 100] 5 ?_
      simp only [am_wp, am_stp, am_en, am_as, am_pad, am_nth, am_set, am_st1, am_st2, am_kl, am_kill, am_mem, am_fv, am_tk, am_wt, am_bk, Option.toList, List.cons_append, List.nil_append, Nat.reduceAdd, Nat.reduceEqDiff, Nat.reduceLeDiff, reduceIte, Nat.reduceLT, or_self, true_or, or_true, if_true, if_false, and_self, and_true, true_and, not_false_eq_true, not_true_eq_false, fd_Mo_get_26, fd_Mo_get_28, fd_Mo_get_30, fd_Mo_get_31, fd_Mo_get_34, S1.all, T.2.1, l1]
      refine am_go [49, 100] 7 ?_
      simp only [am_wp, am_stp, am_en, am_as, am_pad, am_nth, am_set, am_st1, am_st2, am_kl, am_kill, am_mem, am_fv, am_tk, am_wt, am_bk, Option.toList, List.cons_append, List.nil_append, Nat.reduceAdd, Nat.reduceEqDiff, Nat.reduceLeDiff, reduceIte, Nat.reduceLT, or_self, true_or, or_true, if_true, if_false, and_self, and_true, true_and, not_false_eq_true, not_true_eq_false, fd_Mo_get_37, fd_Mo_get_38, fd_Mo_get_41, fd_Mo_get_43, fd_Mo_get_44, fd_Mo_get_45, fd_Mo_get_46, S1.all, i1, q2]
      refine wif ?_ (go _ _ _)
      refine am_go [60, 88] 6 ?_
      simp only [am_wp, am_stp, am_en, am_as, am_pad, am_nth, am_set, am_st1, am_st2, am_kl, am_kill, am_mem, am_fv, am_tk, am_wt, am_bk, Option.toList, List.cons_append, List.nil_append, Nat.reduceAdd, Nat.reduceEqDiff, Nat.reduceLeDiff, reduceIte, Nat.reduceLT, or_self, true_or, or_true, if_true, if_false, and_self, and_true, true_and, not_false_eq_true, not_true_eq_false, fd_Mo_get_49, fd_Mo_get_50, fd_Mo_get_53, fd_Mo_get_55, fd_Mo_get_56, fd_Mo_get_57, S1.all, i1, q2]
      refine wif ?_ ?_
      · refine am_go [100] 7 ?_
        simp only [am_wp, am_stp, am_en, am_as, am_pad, am_nth, am_set, am_st1, am_st2, am_kl, am_kill, am_mem, am_fv, am_tk, am_wt, am_bk, Option.toList, List.cons_append, List.nil_append, Nat.reduceAdd, Nat.reduceEqDiff, Nat.reduceLeDiff, reduceIte, Nat.reduceLT, or_self, true_or, or_true, if_true, if_false, and_self, and_true, true_and, not_false_eq_true, not_true_eq_false, fd_Mo_get_88, fd_Mo_get_89, fd_Mo_get_91, fd_Mo_get_92, fd_Mo_get_95, fd_Mo_get_97, fd_Mo_get_98, S1.all, i1, q2]
        exact go _ _ _
      · have fin : ∀ x : Int32, am_Ex nm_pr (d + 3) mt_Mo_get (77, [.ref 72, .int v, .long z, .retAddr 0, .int 0, .long 0, .retAddr 0, .int (nI p), .retAddr 0, .retAddr 0, .retAddr 0, .retAddr 0], [.int x, .ref 72], g2) (fun o h' => lany o ∧ rq P h h') := fun x => by
          refine am_go [80] 1 ?_
          simp only [am_wp, am_stp, am_en, am_as, am_pad, am_nth, am_set, am_st1, am_st2, am_kl, am_kill, am_mem, am_fv, am_tk, am_wt, am_bk, Option.toList, List.cons_append, List.nil_append, Nat.reduceAdd, Nat.reduceEqDiff, Nat.reduceLeDiff, reduceIte, Nat.reduceLT, or_self, true_or, or_true, if_true, if_false, and_self, and_true, true_and, not_false_eq_true, not_true_eq_false, fd_Mo_get_77, S1.all]
          have q3 := q1.s (j := 10) (v := x) (by unfold rJ; omega)
          generalize am_sI g2 72 10 x = g3 at *
          have S3 := q3.1.1.1
          refine am_go [] 5 ?_
          simp only [am_wp, am_stp, am_en, am_as, am_pad, am_nth, am_set, am_st1, am_st2, am_kl, am_kill, am_mem, am_fv, am_tk, am_wt, am_bk, Option.toList, List.cons_append, List.nil_append, Nat.reduceAdd, Nat.reduceEqDiff, Nat.reduceLeDiff, reduceIte, Nat.reduceLT, or_self, true_or, or_true, if_true, if_false, and_self, and_true, true_and, not_false_eq_true, not_true_eq_false, fd_Mo_get_80, fd_Mo_get_81, fd_Mo_get_84, fd_Mo_get_86, fd_Mo_get_87, S3.all, i1, q2]
          exact ⟨⟨_, rfl⟩, q3⟩
        refine am_go [72, 76] 7 ?_
        simp only [am_wp, am_stp, am_en, am_as, am_pad, am_nth, am_set, am_st1, am_st2, am_kl, am_kill, am_mem, am_fv, am_tk, am_wt, am_bk, Option.toList, List.cons_append, List.nil_append, Nat.reduceAdd, Nat.reduceEqDiff, Nat.reduceLeDiff, reduceIte, Nat.reduceLT, or_self, true_or, or_true, if_true, if_false, and_self, and_true, true_and, not_false_eq_true, not_true_eq_false, fd_Mo_get_60, fd_Mo_get_61, fd_Mo_get_62, fd_Mo_get_65, fd_Mo_get_67, fd_Mo_get_68, fd_Mo_get_69, S1.all, i1, q2]
        refine wif ?_ ?_
        rotate_left
        · refine am_go [77] 1 ?_
          simp only [am_wp, am_stp, am_en, am_as, am_pad, am_nth, am_set, am_st1, am_st2, am_kl, am_kill, am_mem, am_fv, am_tk, am_wt, am_bk, Option.toList, List.cons_append, List.nil_append, Nat.reduceAdd, Nat.reduceEqDiff, Nat.reduceLeDiff, reduceIte, Nat.reduceLT, or_self, true_or, or_true, if_true, if_false, and_self, and_true, true_and, not_false_eq_true, not_true_eq_false, fd_Mo_get_76, S1.all]
          exact fin _
        · refine am_go [77] 2 ?_
          simp only [am_wp, am_stp, am_en, am_as, am_pad, am_nth, am_set, am_st1, am_st2, am_kl, am_kill, am_mem, am_fv, am_tk, am_wt, am_bk, Option.toList, List.cons_append, List.nil_append, Nat.reduceAdd, Nat.reduceEqDiff, Nat.reduceLeDiff, reduceIte, Nat.reduceLT, or_self, true_or, or_true, if_true, if_false, and_self, and_true, true_and, not_false_eq_true, not_true_eq_false, fd_Mo_get_72, fd_Mo_get_73, S1.all]
          exact fin _
    · have l1 : ¬ nI p < nI n := nI_nlt (by omega) (by omega)
      refine am_go [37, 100] 5 ?_
      simp only [am_wp, am_stp, am_en, am_as, am_pad, am_nth, am_set, am_st1, am_st2, am_kl, am_kill, am_mem, am_fv, am_tk, am_wt, am_bk, Option.toList, List.cons_append, List.nil_append, Nat.reduceAdd, Nat.reduceEqDiff, Nat.reduceLeDiff, reduceIte, Nat.reduceLT, or_self, true_or, or_true, if_true, if_false, and_self, and_true, true_and, not_false_eq_true, not_true_eq_false, fd_Mo_get_26, fd_Mo_get_28, fd_Mo_get_30, fd_Mo_get_31, fd_Mo_get_34, S1.all, T.2.1, l1]
      exact go _ _ _
