/-! THE REFERENCE SEES A PAGE -/
theorem mo_se {h : am_H} (c : mo_Sk h) : am_kd h 72 = 12 ∧ (am_R h 72 2 = 73 ∧ am_kd h 73 = 102 ∧ am_ln h 73 = 131072) ∧ (am_R h 72 36 = 95 ∧ am_kd h 95 = 101 ∧ am_ln h 95 = 60) ∧ (am_R h 72 37 = 96 ∧ am_kd h 96 = 100 ∧ am_ln h 96 = 60) ∧ (am_R h 72 38 = 97 ∧ am_kd h 97 = 101 ∧ am_ln h 97 = 60) := by
  obtain ⟨c1, rr, aa⟩ := c
  exact ⟨c1, ⟨(rr 2).trans rfl, (aa 0 _ rfl).1, (aa 0 _ rfl).2⟩, ⟨(rr 36).trans rfl, (aa 22 _ rfl).1, (aa 22 _ rfl).2⟩, ⟨(rr 37).trans rfl, (aa 23 _ rfl).1, (aa 23 _ rfl).2⟩, ⟨(rr 38).trans rfl, (aa 24 _ rfl).1, (aa 24 _ rfl).2⟩⟩
theorem s7_m {i : Nat} (hi : i < 10) : (nI (7 * i)).toInt64 &&& 63 = Int64.ofNat (7 * i) := by
  have : ∀ j : Fin 10, (nI (7 * j.1)).toInt64 &&& 63 = Int64.ofNat (7 * j.1) := by decide
  exact this ⟨i, hi⟩
theorem l2_see_key {d p a s i : Nat} {e : ent} {w8 w9 w10 w11 : Value} {g : am_H} {Q : am_O → am_H → Prop} (hS : mo_Sk g) (hp : p < 1024) (hs : s ≤ 8) (hE : ea (fun j => am_I g 73 (p * 128 + j)) a s e) (ha : a + es s e ≤ 120)
    (hx : ∀ w8 w9 w10, am_Ex nm_pr d mt_Mo_see (137, [.ref 72, .int (nI p), .int (nI (128 * p + (a + 9 - s))), .long e.1, .retAddr 0, .int (nI i), .int (nI s), .int (nI 8), w8, w9, w10, w11], [], g) Q) : ∀ (r j : Nat) (x : Int64) (w8 w9 w10 : Value), r + j = 8 → s ≤ j → kg x e.1 j →
    am_Ex nm_pr d mt_Mo_see (61, [.ref 72, .int (nI p), .int (nI (128 * p + (a + 1 + (j - s)))), .long x, .retAddr 0, .int (nI i), .int (nI s), .int (nI j), w8, w9, w10, w11], [], g) Q
  | 0, j, x, w8, w9, w10, hr, hj, hg => by
    have ej : j = 8 := by omega
    subst ej
    have hlt : ¬ (nI 8 < 8) := by decide
    have ex := kg_8 hg
    subst ex
    refine am_go [68, 137] 3 ?_
    simp only [am_wp, am_stp, am_en, am_as, am_pad, am_nth, am_set, am_st1, am_st2, am_kl, am_kill, am_mem, am_fv, am_tk, am_wt, am_bk, Option.toList, List.cons_append, List.nil_append, Nat.reduceAdd, Nat.reduceEqDiff, Nat.reduceLeDiff, reduceIte, Nat.reduceLT, or_self, true_or, or_true, if_true, if_false, and_self, and_true, true_and, not_false_eq_true, not_true_eq_false, fd_Mo_see_61, fd_Mo_see_63, fd_Mo_see_65, hlt]
    have := hx w8 w9 w10
    rw [show a + 9 - s = a + 1 + (8 - s) by omega] at this
    exact this
  | r + 1, j, x, w8, w9, w10, hr, hj, hg => by
    obtain ⟨k72, ⟨r2, k73, n73⟩, -⟩ := mo_se hS
    have hlt : nI j < 8 := nI_lt (b := 8) (by omega) (by decide)
    have ha2 : a + 1 + (j - s) < 120 := by unfold es at ha; omega
    have i1 := am_inb (c := 128 * p + (a + 1 + (j - s))) (N := 131072) (by omega) (by omega)
    have q1 : (nI (128 * p + (a + 1 + (j - s)))).toNatClampNeg = 128 * p + (a + 1 + (j - s)) := nI_clamp (by omega)
    have hE2 : am_I g 73 (p * 128 + (a + 1 + (j - s))) = sm_O (kt e.1) j := hE.2.1 j hj (by omega)
    rw [Nat.mul_comm p 128] at hE2
    refine am_go [68, 137] 3 ?_
    simp only [am_wp, am_stp, am_en, am_as, am_pad, am_nth, am_set, am_st1, am_st2, am_kl, am_kill, am_mem, am_fv, am_tk, am_wt, am_bk, Option.toList, List.cons_append, List.nil_append, Nat.reduceAdd, Nat.reduceEqDiff, Nat.reduceLeDiff, reduceIte, Nat.reduceLT, or_self, true_or, or_true, if_true, if_false, and_self, and_true, true_and, not_false_eq_true, not_true_eq_false, fd_Mo_see_61, fd_Mo_see_63, fd_Mo_see_65, hlt]
    refine am_go [] 6 ?_
    simp only [am_wp, am_stp, am_en, am_as, am_pad, am_nth, am_set, am_st1, am_st2, am_kl, am_kill, am_mem, am_fv, am_tk, am_wt, am_bk, Option.toList, List.cons_append, List.nil_append, Nat.reduceAdd, Nat.reduceEqDiff, Nat.reduceLeDiff, reduceIte, Nat.reduceLT, or_self, true_or, or_true, if_true, if_false, and_self, and_true, true_and, not_false_eq_true, not_true_eq_false, fd_Mo_see_68, fd_Mo_see_70, fd_Mo_see_72, fd_Mo_see_74, fd_Mo_see_75, fd_Mo_see_76]
    refine am_go [96, 105] 10 ?_
    simp only [am_wp, am_stp, am_en, am_as, am_pad, am_nth, am_set, am_st1, am_st2, am_kl, am_kill, am_mem, am_fv, am_tk, am_wt, am_bk, Option.toList, List.cons_append, List.nil_append, Nat.reduceAdd, Nat.reduceEqDiff, Nat.reduceLeDiff, reduceIte, Nat.reduceLT, or_self, true_or, or_true, if_true, if_false, and_self, and_true, true_and, not_false_eq_true, not_true_eq_false, fd_Mo_see_78, fd_Mo_see_79, fd_Mo_see_82, fd_Mo_see_83, fd_Mo_see_84, fd_Mo_see_87, fd_Mo_see_88, fd_Mo_see_89, fd_Mo_see_91, fd_Mo_see_93, k72, r2, k73, n73, i1, q1, hE2]
    rw [sm_O_and]
    have hk := mo_O_kt (k := e.1) (show j < 8 by omega)
    have fin : ∀ z : Int64, z = (mo_O e.1 j).toInt64 → am_Ex nm_pr d mt_Mo_see (107, [.ref 72, .int (nI p), .int (nI (128 * p + (a + 1 + (j - s)))), .long x, .retAddr 0, .int (nI i), .int (nI s), .int (nI j), .int (56 - 8 * nI j), .long (mo_O (kt e.1) j).toInt64, .retAddr 0, w11], [.long z], g) Q := by
      intro z hz
      subst hz
      refine am_go [61] 16 ?_
      simp only [am_wp, am_stp, am_en, am_as, am_pad, am_nth, am_set, am_st1, am_st2, am_kl, am_kill, am_mem, am_fv, am_tk, am_wt, am_bk, Option.toList, List.cons_append, List.nil_append, Nat.reduceAdd, Nat.reduceEqDiff, Nat.reduceLeDiff, reduceIte, Nat.reduceLT, or_self, true_or, or_true, if_true, if_false, and_self, and_true, true_and, not_false_eq_true, not_true_eq_false, fd_Mo_see_107, fd_Mo_see_109, fd_Mo_see_110, fd_Mo_see_113, fd_Mo_see_115, fd_Mo_see_116, fd_Mo_see_119, fd_Mo_see_120, fd_Mo_see_121, fd_Mo_see_123, fd_Mo_see_125, fd_Mo_see_126, fd_Mo_see_127, fd_Mo_see_128, fd_Mo_see_131, fd_Mo_see_134, nI_1]
      have := l2_see_key (d := d) (i := i) (w11 := w11) (w8 := w8) (w9 := w9) (w10 := w10) hS hp hs hE ha hx r (j + 1) _ (.int (56 - 8 * nI j)) (.long (mo_O e.1 j).toInt64) (.retAddr 0) (by omega) (by omega) (kin_O (show j < 8 by omega) hg)
      rw [show 128 * p + (a + 1 + (j + 1 - s)) = 128 * p + (a + 1 + (j - s)) + 1 by omega] at this
      exact this
    by_cases j0 : j = 0
    · have z : (nI j = 0) = True := eq_true (by rw [j0]; rfl)
      rw [if_pos j0] at hk
      simp only [z, am_wp, am_stp, am_en, am_as, am_pad, am_nth, am_set, am_st1, am_st2, am_kl, am_kill, am_mem, am_fv, am_tk, am_wt, am_bk, Option.toList, List.cons_append, List.nil_append, Nat.reduceAdd, Nat.reduceEqDiff, Nat.reduceLeDiff, reduceIte, Nat.reduceLT, or_self, true_or, or_true, if_true, if_false, and_self, and_true, true_and, not_false_eq_true, not_true_eq_false]
      refine am_go [107] 4 ?_
      simp only [am_wp, am_stp, am_en, am_as, am_pad, am_nth, am_set, am_st1, am_st2, am_kl, am_kill, am_mem, am_fv, am_tk, am_wt, am_bk, Option.toList, List.cons_append, List.nil_append, Nat.reduceAdd, Nat.reduceEqDiff, Nat.reduceLeDiff, reduceIte, Nat.reduceLT, or_self, true_or, or_true, if_true, if_false, and_self, and_true, true_and, not_false_eq_true, not_true_eq_false, fd_Mo_see_96, fd_Mo_see_98, fd_Mo_see_101, fd_Mo_see_102]
      exact fin _ hk
    · have z : (nI j = 0) = False := eq_false (nI_ne0 (by omega) (by omega))
      rw [if_neg j0] at hk
      simp only [z, am_wp, am_stp, am_en, am_as, am_pad, am_nth, am_set, am_st1, am_st2, am_kl, am_kill, am_mem, am_fv, am_tk, am_wt, am_bk, Option.toList, List.cons_append, List.nil_append, Nat.reduceAdd, Nat.reduceEqDiff, Nat.reduceLeDiff, reduceIte, Nat.reduceLT, or_self, true_or, or_true, if_true, if_false, and_self, and_true, true_and, not_false_eq_true, not_true_eq_false]
      refine am_go [107] 1 ?_
      simp only [am_wp, am_stp, am_en, am_as, am_pad, am_nth, am_set, am_st1, am_st2, am_kl, am_kill, am_mem, am_fv, am_tk, am_wt, am_bk, Option.toList, List.cons_append, List.nil_append, Nat.reduceAdd, Nat.reduceEqDiff, Nat.reduceLeDiff, reduceIte, Nat.reduceLT, or_self, true_or, or_true, if_true, if_false, and_self, and_true, true_and, not_false_eq_true, not_true_eq_false, fd_Mo_see_105]
      exact fin _ hk
theorem l2_see_val {d p a m i : Nat} {s t : Int32} {kk z : Int64} {g : am_H} {Q : am_O → am_H → Prop} (hS : mo_Sk g) (hp : p < 1024) (hm : m = vs z) (hB : ∀ k, k < m → am_I g 73 (p * 128 + (a + k)) = am_b8 (nI (vb (zN z) m k))) (ha : a + m ≤ 120)
    (hx : ∀ w10 w11, am_Ex nm_pr d mt_Mo_see (212, [.ref 72, .int (nI p), .int (nI (128 * p + (a + m))), .long kk, .retAddr 0, .int (nI i), .int s, .int t, .long z, .retAddr 0, w10, w11], [], g) Q) : ∀ (r k : Nat), r + k = m →
    am_Ex nm_pr d mt_Mo_see (163, [.ref 72, .int (nI p), .int (nI (128 * p + (a + k))), .long kk, .retAddr 0, .int (nI i), .int s, .int t, .long (Int64.ofNat (zN z % 128 ^ k)), .retAddr 0, .int (nI (7 * k)), .int (if k < m then 1 else 0)], [], g) Q
  | 0, k, hr => by
    have ek : k = m := by omega
    subst ek
    have e0 : Int64.ofNat (zN z % 128 ^ k) = z := vb_end (by rw [hm]; exact vs_0 z)
    rw [if_neg (by omega), e0]
    refine am_go [168, 212] 2 ?_
    simp only [am_wp, am_stp, am_en, am_as, am_pad, am_nth, am_set, am_st1, am_st2, am_kl, am_kill, am_mem, am_fv, am_tk, am_wt, am_bk, Option.toList, List.cons_append, List.nil_append, Nat.reduceAdd, Nat.reduceEqDiff, Nat.reduceLeDiff, reduceIte, Nat.reduceLT, or_self, true_or, or_true, if_true, if_false, and_self, and_true, true_and, not_false_eq_true, not_true_eq_false, fd_Mo_see_163, fd_Mo_see_165]
    exact hx _ _
  | r + 1, k, hr => by
    obtain ⟨k72, ⟨r2, k73, n73⟩, -⟩ := mo_se hS
    have hv := vs_le z
    have one0 : ¬ (1 : Int32) = 0 := by decide
    have i1 := am_inb (c := 128 * p + (a + k)) (N := 131072) (by omega) (by omega)
    have q1 : (nI (128 * p + (a + k))).toNatClampNeg = 128 * p + (a + k) := nI_clamp (by omega)
    have hx2 := by_x (vb_lt (zN z) m k)
    have hB2 := hB k (by omega)
    rw [Nat.mul_comm p 128] at hB2
    have e7 : nI (7 * k) + 7 = nI (7 * (k + 1)) := nI_add (7 * k) 7
    rw [if_pos (by omega)]
    refine am_go [168, 212] 2 ?_
    simp only [am_wp, am_stp, am_en, am_as, am_pad, am_nth, am_set, am_st1, am_st2, am_kl, am_kill, am_mem, am_fv, am_tk, am_wt, am_bk, Option.toList, List.cons_append, List.nil_append, Nat.reduceAdd, Nat.reduceEqDiff, Nat.reduceLeDiff, reduceIte, Nat.reduceLT, or_self, true_or, or_true, if_true, if_false, and_self, and_true, true_and, not_false_eq_true, not_true_eq_false, fd_Mo_see_163, fd_Mo_see_165, one0]
    refine am_go [] 12 ?_
    simp only [am_wp, am_stp, am_en, am_as, am_pad, am_nth, am_set, am_st1, am_st2, am_kl, am_kill, am_mem, am_fv, am_tk, am_wt, am_bk, Option.toList, List.cons_append, List.nil_append, Nat.reduceAdd, Nat.reduceEqDiff, Nat.reduceLeDiff, reduceIte, Nat.reduceLT, or_self, true_or, or_true, if_true, if_false, and_self, and_true, true_and, not_false_eq_true, not_true_eq_false, fd_Mo_see_168, fd_Mo_see_170, fd_Mo_see_171, fd_Mo_see_174, fd_Mo_see_175, fd_Mo_see_176, fd_Mo_see_177, fd_Mo_see_180, fd_Mo_see_181, fd_Mo_see_183, fd_Mo_see_184, fd_Mo_see_185, k72, r2, k73, n73, i1, q1, hB2]
    rw [hx2.2.2.2.1, vb_mod, s7_m (show k < 10 by omega), vb_in (show k < 10 by omega)]
    refine am_go [196, 200] 5 ?_
    simp only [am_wp, am_stp, am_en, am_as, am_pad, am_nth, am_set, am_st1, am_st2, am_kl, am_kill, am_mem, am_fv, am_tk, am_wt, am_bk, Option.toList, List.cons_append, List.nil_append, Nat.reduceAdd, Nat.reduceEqDiff, Nat.reduceLeDiff, reduceIte, Nat.reduceLT, or_self, true_or, or_true, if_true, if_false, and_self, and_true, true_and, not_false_eq_true, not_true_eq_false, fd_Mo_see_187, fd_Mo_see_188, fd_Mo_see_191, fd_Mo_see_192, fd_Mo_see_193, k72, r2, k73, n73, i1, q1, hB2]
    have nx := l2_see_val (d := d) (i := i) (s := s) (t := t) (kk := kk) hS hp hm hB ha hx r (k + 1) (by omega)
    rw [show 128 * p + (a + (k + 1)) = 128 * p + (a + k) + 1 by omega] at nx
    by_cases q : k + 1 < m
    · have hneg : (am_b8 (nI (vb (zN z) m k)) < 0) = True := eq_true (hx2.2.2.2.2.mpr ((vb_hi _ _ _).mpr q))
      rw [if_pos q] at nx
      simp only [hneg, am_wp, am_stp, am_en, am_as, am_pad, am_nth, am_set, am_st1, am_st2, am_kl, am_kill, am_mem, am_fv, am_tk, am_wt, am_bk, Option.toList, List.cons_append, List.nil_append, Nat.reduceAdd, Nat.reduceEqDiff, Nat.reduceLeDiff, reduceIte, Nat.reduceLT, or_self, true_or, or_true, if_true, if_false, and_self, and_true, true_and, not_false_eq_true, not_true_eq_false]
      refine am_go [163] 6 ?_
      simp only [am_wp, am_stp, am_en, am_as, am_pad, am_nth, am_set, am_st1, am_st2, am_kl, am_kill, am_mem, am_fv, am_tk, am_wt, am_bk, Option.toList, List.cons_append, List.nil_append, Nat.reduceAdd, Nat.reduceEqDiff, Nat.reduceLeDiff, reduceIte, Nat.reduceLT, or_self, true_or, or_true, if_true, if_false, and_self, and_true, true_and, not_false_eq_true, not_true_eq_false, fd_Mo_see_196, fd_Mo_see_197, fd_Mo_see_201, fd_Mo_see_203, fd_Mo_see_206, fd_Mo_see_209, e7, nI_1]
      exact nx
    · have hneg : (am_b8 (nI (vb (zN z) m k)) < 0) = False := eq_false (fun c => q ((vb_hi _ _ _).mp (hx2.2.2.2.2.mp c)))
      rw [if_neg q] at nx
      simp only [hneg, am_wp, am_stp, am_en, am_as, am_pad, am_nth, am_set, am_st1, am_st2, am_kl, am_kill, am_mem, am_fv, am_tk, am_wt, am_bk, Option.toList, List.cons_append, List.nil_append, Nat.reduceAdd, Nat.reduceEqDiff, Nat.reduceLeDiff, reduceIte, Nat.reduceLT, or_self, true_or, or_true, if_true, if_false, and_self, and_true, true_and, not_false_eq_true, not_true_eq_false]
      refine am_go [163] 5 ?_
      simp only [am_wp, am_stp, am_en, am_as, am_pad, am_nth, am_set, am_st1, am_st2, am_kl, am_kill, am_mem, am_fv, am_tk, am_wt, am_bk, Option.toList, List.cons_append, List.nil_append, Nat.reduceAdd, Nat.reduceEqDiff, Nat.reduceLeDiff, reduceIte, Nat.reduceLT, or_self, true_or, or_true, if_true, if_false, and_self, and_true, true_and, not_false_eq_true, not_true_eq_false, fd_Mo_see_200, fd_Mo_see_201, fd_Mo_see_203, fd_Mo_see_206, fd_Mo_see_209, e7, nI_1]
      exact nx
theorem tr_S.snoc {h : am_H} {a b c : Nat} {L : List ent} {e : ent} {g : am_H} (t : tr_S h a b c L) (e1 : ∀ j, j < L.length → am_L g a j = am_L h a j ∧ am_I g b j = am_I h b j ∧ am_L g c j = am_L h c j) (h1 : am_L g a L.length = e.1) (h2 : am_I g b L.length = e.2.1) (h3 : am_L g c L.length = e.2.2) : tr_S g a b c (L ++ [e]) := fun i x hx => by
  by_cases hi : i < L.length
  · rw [List.getElem?_append_left hi] at hx
    obtain ⟨y1, y2, y3⟩ := e1 i hi
    rw [y1, y2, y3]
    exact t i x hx
  · have ei : i = L.length := by
      have := (List.getElem?_eq_some_iff.mp hx).1
      simp at this
      omega
    subst ei
    simp at hx
    subst hx
    exact ⟨h1, h2, h3⟩
/-- entries seen so far -/
def se_I (h g : am_H) (C pre : List ent) : Prop := am_fi [72, 95, 96, 97] h g ∧ (∀ j, j ≠ 35 → am_I g 72 j = am_I h 72 j) ∧ am_I g 72 35 = nI C.length ∧ tr_S g 95 96 97 pre
theorem l2_see_loop {d p u : Nat} {C : List ent} {h : am_H} (hS : mo_Sk h) (hp : p < 1024) (hC : C.length < 60) (hO : ∀ e ∈ C, eo e) (hu : u ≤ 120) : ∀ (rest pre : List ent) (a : Nat) (pk : Option Int64) (kk : Int64) (w6 w7 w8 w9 w10 w11 : Value) (g : am_H), pre ++ rest = C → el (fun j => am_I h 73 (p * 128 + j)) a pk rest u → (∀ q, pk = some q → kk = q) → se_I h g C pre →
    am_Ex nm_pr d mt_Mo_see (33, [.ref 72, .int (nI p), .int (nI (128 * p + a)), .long kk, .retAddr 0, .int (nI pre.length), w6, w7, w8, w9, w10, w11], [], g) (fun o h' => o = .inl none ∧ se_I h h' C C)
  | [], pre, a, pk, kk, w6, w7, w8, w9, w10, w11, g, hL, hE, hk, I => by
    obtain ⟨F, i1, i2, i3⟩ := id I
    have e : pre = C := by simpa using hL
    subst e
    have k72 := (hS.fi F).1
    have l1 : ¬ nI pre.length < nI pre.length := nI_nlt (Nat.le_refl _) (by omega)
    refine am_go [42] 5 ?_
    simp only [am_wp, am_stp, am_en, am_as, am_pad, am_nth, am_set, am_st1, am_st2, am_kl, am_kill, am_mem, am_fv, am_tk, am_wt, am_bk, Option.toList, List.cons_append, List.nil_append, Nat.reduceAdd, Nat.reduceEqDiff, Nat.reduceLeDiff, reduceIte, Nat.reduceLT, or_self, true_or, or_true, if_true, if_false, and_self, and_true, true_and, not_false_eq_true, not_true_eq_false, fd_Mo_see_33, fd_Mo_see_35, fd_Mo_see_36, fd_Mo_see_39, fd_Mo_see_266, k72, i2, l1]
    exact I
  | e :: rest, pre, a, pk, kk, w6, w7, w8, w9, w10, w11, g, hL, hE, hk, I => by
    obtain ⟨F, j1, j2, j3⟩ := id I
    have G := hS.fi F
    obtain ⟨k72, ⟨r2, k73, n73⟩, ⟨r36, k95, n95⟩, ⟨r37, k96, n96⟩, ⟨r38, k97, n97⟩⟩ := mo_se G
    have hlen : pre.length < C.length := by rw [← hL]; simp
    have he : eo e := hO e (by rw [← hL]; simp)
    have l1 : nI pre.length < nI C.length := nI_lt hlen (by omega)
    have I73 : am_I g 73 = am_I h 73 := F.2.2.2.2.2.2.1 73 (by simp)
    obtain ⟨hEa, hEr⟩ := hE
    have hle := el_le hEr
    have hs8 := sh1_le pk e.1
    have hge := es_ge hs8 e
    generalize hs : sh1 pk e.1 = s at *
    have ha : a + es s e ≤ 120 := by omega
    have e0 : am_I h 73 (p * 128 + a) = nI s := hEa.1
    rw [Nat.mul_comm p 128, ← I73] at e0
    have i1 := am_inb (c := 128 * p + a) (N := 131072) (by omega) (by omega)
    have q1 : (nI (128 * p + a)).toNatClampNeg = 128 * p + a := nI_clamp (by omega)
    refine am_go [42, 266] 4 ?_
    simp only [am_wp, am_stp, am_en, am_as, am_pad, am_nth, am_set, am_st1, am_st2, am_kl, am_kill, am_mem, am_fv, am_tk, am_wt, am_bk, Option.toList, List.cons_append, List.nil_append, Nat.reduceAdd, Nat.reduceEqDiff, Nat.reduceLeDiff, reduceIte, Nat.reduceLT, or_self, true_or, or_true, if_true, if_false, and_self, and_true, true_and, not_false_eq_true, not_true_eq_false, fd_Mo_see_33, fd_Mo_see_35, fd_Mo_see_36, fd_Mo_see_39, k72, j2, l1]
    refine am_go [] 7 ?_
    simp only [am_wp, am_stp, am_en, am_as, am_pad, am_nth, am_set, am_st1, am_st2, am_kl, am_kill, am_mem, am_fv, am_tk, am_wt, am_bk, Option.toList, List.cons_append, List.nil_append, Nat.reduceAdd, Nat.reduceEqDiff, Nat.reduceLeDiff, reduceIte, Nat.reduceLT, or_self, true_or, or_true, if_true, if_false, and_self, and_true, true_and, not_false_eq_true, not_true_eq_false, fd_Mo_see_42, fd_Mo_see_43, fd_Mo_see_46, fd_Mo_see_47, fd_Mo_see_48, fd_Mo_see_51, fd_Mo_see_52, k72, r2, k73, n73, i1, q1, e0]
    rw [and255 (by omega)]
    refine am_go [61] 3 ?_
    simp only [am_wp, am_stp, am_en, am_as, am_pad, am_nth, am_set, am_st1, am_st2, am_kl, am_kill, am_mem, am_fv, am_tk, am_wt, am_bk, Option.toList, List.cons_append, List.nil_append, Nat.reduceAdd, Nat.reduceEqDiff, Nat.reduceLeDiff, reduceIte, Nat.reduceLT, or_self, true_or, or_true, if_true, if_false, and_self, and_true, true_and, not_false_eq_true, not_true_eq_false, fd_Mo_see_54, fd_Mo_see_57, fd_Mo_see_59, nI_1]
    have hEa' : ea (fun j => am_I g 73 (p * 128 + j)) a s e := by rw [I73]; exact hEa
    have hkg : kg kk e.1 s := by
      cases pk with
      | none => have : s = 0 := hs.symm
                rw [this]; exact kg_0 _ _
      | some q =>
        have := hk q rfl
        subst this
        rw [← hs]
        exact kc_g _ _
    have key := l2_see_key (d := d) (i := pre.length) (w8 := w8) (w9 := w9) (w10 := w10) (w11 := w11) (Q := fun o h' => o = .inl none ∧ se_I h h' C C) G hp hs8 hEa' ha (fun v8 v9 v10 => ?_) (8 - s) s kk w8 w9 w10 (by omega) (Nat.le_refl _) hkg
    · rw [Nat.sub_self] at key
      exact key
    · -- the kind
      have ek : am_I g 73 (p * 128 + (a + 9 - s)) = e.2.1 := hEa'.2.2.1
      rw [Nat.mul_comm p 128] at ek
      have i2 := am_inb (c := 128 * p + (a + 9 - s)) (N := 131072) (by omega) (by omega)
      have q2 : (nI (128 * p + (a + 9 - s))).toNatClampNeg = 128 * p + (a + 9 - s) := nI_clamp (by omega)
      have e10 : 128 * p + (a + 9 - s) + 1 = 128 * p + (a + (10 - s)) := by omega
      have hes : 10 - s ≤ es s e := by unfold es; omega
      -- the end of one entry
      have fin : ∀ (b : Nat) (z : Int64) (x10 x11 : Value), b = a + es s e → zb z = e.2.2 → am_Ex nm_pr d mt_Mo_see (212, [.ref 72, .int (nI p), .int (nI (128 * p + b)), .long e.1, .retAddr 0, .int (nI pre.length), .int (nI s), .int e.2.1, .long z, .retAddr 0, x10, x11], [], g) (fun o h' => o = .inl none ∧ se_I h h' C C) := by
        intro b z x10 x11 hb hz
        have i3 := am_inb (c := pre.length) (N := 60) (by omega) (by omega)
        have q3 : (nI pre.length).toNatClampNeg = pre.length := nI_clamp (by omega)
        refine am_go [] 10 ?_
        simp only [am_wp, am_stp, am_en, am_as, am_pad, am_nth, am_set, am_st1, am_st2, am_kl, am_kill, am_mem, am_fv, am_tk, am_wt, am_bk, Option.toList, List.cons_append, List.nil_append, Nat.reduceAdd, Nat.reduceEqDiff, Nat.reduceLeDiff, reduceIte, Nat.reduceLT, or_self, true_or, or_true, if_true, if_false, and_self, and_true, true_and, not_false_eq_true, not_true_eq_false, fd_Mo_see_212, fd_Mo_see_213, fd_Mo_see_216, fd_Mo_see_218, fd_Mo_see_219, fd_Mo_see_220, fd_Mo_see_221, fd_Mo_see_224, fd_Mo_see_226, fd_Mo_see_228, hx_nx_sI, hx_ce_sI, hx_sl_sI, hx_kd_sI, hx_ln_sI, hx_I_sI, hx_L_sI, hx_R_sI, hx_nx_sL, hx_ce_sL, hx_sl_sL, hx_kd_sL, hx_ln_sL, hx_I_sL, hx_L_sL, hx_R_sL, hx_nx_sR, hx_ce_sR, hx_sl_sR, hx_kd_sR, hx_ln_sR, hx_I_sR, hx_L_sR, hx_R_sR, hx_nx_al, hx_ce_al, hx_sl_al, hx_kd_al, hx_ln_al, hx_I_al, hx_L_al, hx_R_al, hx_nx_row, hx_ce_row, hx_sl_row, hx_kd_row, hx_ln_row, hx_I_row, hx_L_row, hx_R_row, hx_nx_mk, hx_kd_mk, hx_ln_mk, hx_I_mk, hx_L_mk, hx_R_mk, k72, r36, k95, n95, r37, k96, n96, i3, q3]
        have last : ∀ v : Int64, v = e.2.2 → am_Ex nm_pr d mt_Mo_see (259, [.ref 72, .int (nI p), .int (nI (128 * p + b)), .long e.1, .retAddr 0, .int (nI pre.length), .int (nI s), .int e.2.1, .long z, .retAddr 0, x10, x11], [.long v, .int (nI pre.length), .ref 97], am_sI (am_sL g 95 pre.length e.1) 96 pre.length e.2.1) (fun o h' => o = .inl none ∧ se_I h h' C C) := by
          intro v hv
          subst hv
          refine am_go [33] 3 ?_
          simp only [am_wp, am_stp, am_en, am_as, am_pad, am_nth, am_set, am_st1, am_st2, am_kl, am_kill, am_mem, am_fv, am_tk, am_wt, am_bk, Option.toList, List.cons_append, List.nil_append, Nat.reduceAdd, Nat.reduceEqDiff, Nat.reduceLeDiff, reduceIte, Nat.reduceLT, or_self, true_or, or_true, if_true, if_false, and_self, and_true, true_and, not_false_eq_true, not_true_eq_false, fd_Mo_see_259, fd_Mo_see_260, fd_Mo_see_263, hx_kd_sI, hx_ln_sI, hx_kd_sL, hx_ln_sL, k97, n97, i3, q3, nI_1]
          have F' : am_fi [72, 95, 96, 97] h (am_sL (am_sI (am_sL g 95 pre.length e.1) 96 pre.length e.2.1) 97 pre.length e.2.2) := ((F.sL (by simp)).sI (by simp)).sL (by simp)
          have I' : se_I h (am_sL (am_sI (am_sL g 95 pre.length e.1) 96 pre.length e.2.1) 97 pre.length e.2.2) C (pre ++ [e]) := by
            refine ⟨F', fun j hj => ?_, ?_, j3.snoc (fun j hj => ⟨?_, ?_, ?_⟩) ?_ ?_ ?_⟩
            · simp only [hx_nx_sI, hx_ce_sI, hx_sl_sI, hx_kd_sI, hx_ln_sI, hx_I_sI, hx_L_sI, hx_R_sI, hx_nx_sL, hx_ce_sL, hx_sl_sL, hx_kd_sL, hx_ln_sL, hx_I_sL, hx_L_sL, hx_R_sL, hx_nx_sR, hx_ce_sR, hx_sl_sR, hx_kd_sR, hx_ln_sR, hx_I_sR, hx_L_sR, hx_R_sR, hx_nx_al, hx_ce_al, hx_sl_al, hx_kd_al, hx_ln_al, hx_I_al, hx_L_al, hx_R_al, hx_nx_row, hx_ce_row, hx_sl_row, hx_kd_row, hx_ln_row, hx_I_row, hx_L_row, hx_R_row, hx_nx_mk, hx_kd_mk, hx_ln_mk, hx_I_mk, hx_L_mk, hx_R_mk, am_wp, am_stp, am_en, am_as, am_pad, am_nth, am_set, am_st1, am_st2, am_kl, am_kill, am_mem, am_fv, am_tk, am_wt, am_bk, Option.toList, List.cons_append, List.nil_append, Nat.reduceAdd, Nat.reduceEqDiff, Nat.reduceLeDiff, reduceIte, Nat.reduceLT, or_self, true_or, or_true, if_true, if_false, and_self, and_true, true_and, not_false_eq_true, not_true_eq_false]; exact j1 j hj
            · simp only [hx_nx_sI, hx_ce_sI, hx_sl_sI, hx_kd_sI, hx_ln_sI, hx_I_sI, hx_L_sI, hx_R_sI, hx_nx_sL, hx_ce_sL, hx_sl_sL, hx_kd_sL, hx_ln_sL, hx_I_sL, hx_L_sL, hx_R_sL, hx_nx_sR, hx_ce_sR, hx_sl_sR, hx_kd_sR, hx_ln_sR, hx_I_sR, hx_L_sR, hx_R_sR, hx_nx_al, hx_ce_al, hx_sl_al, hx_kd_al, hx_ln_al, hx_I_al, hx_L_al, hx_R_al, hx_nx_row, hx_ce_row, hx_sl_row, hx_kd_row, hx_ln_row, hx_I_row, hx_L_row, hx_R_row, hx_nx_mk, hx_kd_mk, hx_ln_mk, hx_I_mk, hx_L_mk, hx_R_mk, am_wp, am_stp, am_en, am_as, am_pad, am_nth, am_set, am_st1, am_st2, am_kl, am_kill, am_mem, am_fv, am_tk, am_wt, am_bk, Option.toList, List.cons_append, List.nil_append, Nat.reduceAdd, Nat.reduceEqDiff, Nat.reduceLeDiff, reduceIte, Nat.reduceLT, or_self, true_or, or_true, if_true, if_false, and_self, and_true, true_and, not_false_eq_true, not_true_eq_false]; exact j2
            · simp only [hx_nx_sI, hx_ce_sI, hx_sl_sI, hx_kd_sI, hx_ln_sI, hx_I_sI, hx_L_sI, hx_R_sI, hx_nx_sL, hx_ce_sL, hx_sl_sL, hx_kd_sL, hx_ln_sL, hx_I_sL, hx_L_sL, hx_R_sL, hx_nx_sR, hx_ce_sR, hx_sl_sR, hx_kd_sR, hx_ln_sR, hx_I_sR, hx_L_sR, hx_R_sR, hx_nx_al, hx_ce_al, hx_sl_al, hx_kd_al, hx_ln_al, hx_I_al, hx_L_al, hx_R_al, hx_nx_row, hx_ce_row, hx_sl_row, hx_kd_row, hx_ln_row, hx_I_row, hx_L_row, hx_R_row, hx_nx_mk, hx_kd_mk, hx_ln_mk, hx_I_mk, hx_L_mk, hx_R_mk, am_wp, am_stp, am_en, am_as, am_pad, am_nth, am_set, am_st1, am_st2, am_kl, am_kill, am_mem, am_fv, am_tk, am_wt, am_bk, Option.toList, List.cons_append, List.nil_append, Nat.reduceAdd, Nat.reduceEqDiff, Nat.reduceLeDiff, reduceIte, Nat.reduceLT, or_self, true_or, or_true, if_true, if_false, and_self, and_true, true_and, not_false_eq_true, not_true_eq_false]; rw [if_neg (by omega)]
            · simp only [hx_nx_sI, hx_ce_sI, hx_sl_sI, hx_kd_sI, hx_ln_sI, hx_I_sI, hx_L_sI, hx_R_sI, hx_nx_sL, hx_ce_sL, hx_sl_sL, hx_kd_sL, hx_ln_sL, hx_I_sL, hx_L_sL, hx_R_sL, hx_nx_sR, hx_ce_sR, hx_sl_sR, hx_kd_sR, hx_ln_sR, hx_I_sR, hx_L_sR, hx_R_sR, hx_nx_al, hx_ce_al, hx_sl_al, hx_kd_al, hx_ln_al, hx_I_al, hx_L_al, hx_R_al, hx_nx_row, hx_ce_row, hx_sl_row, hx_kd_row, hx_ln_row, hx_I_row, hx_L_row, hx_R_row, hx_nx_mk, hx_kd_mk, hx_ln_mk, hx_I_mk, hx_L_mk, hx_R_mk, am_wp, am_stp, am_en, am_as, am_pad, am_nth, am_set, am_st1, am_st2, am_kl, am_kill, am_mem, am_fv, am_tk, am_wt, am_bk, Option.toList, List.cons_append, List.nil_append, Nat.reduceAdd, Nat.reduceEqDiff, Nat.reduceLeDiff, reduceIte, Nat.reduceLT, or_self, true_or, or_true, if_true, if_false, and_self, and_true, true_and, not_false_eq_true, not_true_eq_false]; rw [if_neg (by omega)]
            · simp only [hx_nx_sI, hx_ce_sI, hx_sl_sI, hx_kd_sI, hx_ln_sI, hx_I_sI, hx_L_sI, hx_R_sI, hx_nx_sL, hx_ce_sL, hx_sl_sL, hx_kd_sL, hx_ln_sL, hx_I_sL, hx_L_sL, hx_R_sL, hx_nx_sR, hx_ce_sR, hx_sl_sR, hx_kd_sR, hx_ln_sR, hx_I_sR, hx_L_sR, hx_R_sR, hx_nx_al, hx_ce_al, hx_sl_al, hx_kd_al, hx_ln_al, hx_I_al, hx_L_al, hx_R_al, hx_nx_row, hx_ce_row, hx_sl_row, hx_kd_row, hx_ln_row, hx_I_row, hx_L_row, hx_R_row, hx_nx_mk, hx_kd_mk, hx_ln_mk, hx_I_mk, hx_L_mk, hx_R_mk, am_wp, am_stp, am_en, am_as, am_pad, am_nth, am_set, am_st1, am_st2, am_kl, am_kill, am_mem, am_fv, am_tk, am_wt, am_bk, Option.toList, List.cons_append, List.nil_append, Nat.reduceAdd, Nat.reduceEqDiff, Nat.reduceLeDiff, reduceIte, Nat.reduceLT, or_self, true_or, or_true, if_true, if_false, and_self, and_true, true_and, not_false_eq_true, not_true_eq_false]; rw [if_neg (by omega)]
            · simp only [hx_nx_sI, hx_ce_sI, hx_sl_sI, hx_kd_sI, hx_ln_sI, hx_I_sI, hx_L_sI, hx_R_sI, hx_nx_sL, hx_ce_sL, hx_sl_sL, hx_kd_sL, hx_ln_sL, hx_I_sL, hx_L_sL, hx_R_sL, hx_nx_sR, hx_ce_sR, hx_sl_sR, hx_kd_sR, hx_ln_sR, hx_I_sR, hx_L_sR, hx_R_sR, hx_nx_al, hx_ce_al, hx_sl_al, hx_kd_al, hx_ln_al, hx_I_al, hx_L_al, hx_R_al, hx_nx_row, hx_ce_row, hx_sl_row, hx_kd_row, hx_ln_row, hx_I_row, hx_L_row, hx_R_row, hx_nx_mk, hx_kd_mk, hx_ln_mk, hx_I_mk, hx_L_mk, hx_R_mk, am_wp, am_stp, am_en, am_as, am_pad, am_nth, am_set, am_st1, am_st2, am_kl, am_kill, am_mem, am_fv, am_tk, am_wt, am_bk, Option.toList, List.cons_append, List.nil_append, Nat.reduceAdd, Nat.reduceEqDiff, Nat.reduceLeDiff, reduceIte, Nat.reduceLT, or_self, true_or, or_true, if_true, if_false, and_self, and_true, true_and, not_false_eq_true, not_true_eq_false]
            · simp only [hx_nx_sI, hx_ce_sI, hx_sl_sI, hx_kd_sI, hx_ln_sI, hx_I_sI, hx_L_sI, hx_R_sI, hx_nx_sL, hx_ce_sL, hx_sl_sL, hx_kd_sL, hx_ln_sL, hx_I_sL, hx_L_sL, hx_R_sL, hx_nx_sR, hx_ce_sR, hx_sl_sR, hx_kd_sR, hx_ln_sR, hx_I_sR, hx_L_sR, hx_R_sR, hx_nx_al, hx_ce_al, hx_sl_al, hx_kd_al, hx_ln_al, hx_I_al, hx_L_al, hx_R_al, hx_nx_row, hx_ce_row, hx_sl_row, hx_kd_row, hx_ln_row, hx_I_row, hx_L_row, hx_R_row, hx_nx_mk, hx_kd_mk, hx_ln_mk, hx_I_mk, hx_L_mk, hx_R_mk, am_wp, am_stp, am_en, am_as, am_pad, am_nth, am_set, am_st1, am_st2, am_kl, am_kill, am_mem, am_fv, am_tk, am_wt, am_bk, Option.toList, List.cons_append, List.nil_append, Nat.reduceAdd, Nat.reduceEqDiff, Nat.reduceLeDiff, reduceIte, Nat.reduceLT, or_self, true_or, or_true, if_true, if_false, and_self, and_true, true_and, not_false_eq_true, not_true_eq_false]
            · simp only [hx_nx_sI, hx_ce_sI, hx_sl_sI, hx_kd_sI, hx_ln_sI, hx_I_sI, hx_L_sI, hx_R_sI, hx_nx_sL, hx_ce_sL, hx_sl_sL, hx_kd_sL, hx_ln_sL, hx_I_sL, hx_L_sL, hx_R_sL, hx_nx_sR, hx_ce_sR, hx_sl_sR, hx_kd_sR, hx_ln_sR, hx_I_sR, hx_L_sR, hx_R_sR, hx_nx_al, hx_ce_al, hx_sl_al, hx_kd_al, hx_ln_al, hx_I_al, hx_L_al, hx_R_al, hx_nx_row, hx_ce_row, hx_sl_row, hx_kd_row, hx_ln_row, hx_I_row, hx_L_row, hx_R_row, hx_nx_mk, hx_kd_mk, hx_ln_mk, hx_I_mk, hx_L_mk, hx_R_mk, am_wp, am_stp, am_en, am_as, am_pad, am_nth, am_set, am_st1, am_st2, am_kl, am_kill, am_mem, am_fv, am_tk, am_wt, am_bk, Option.toList, List.cons_append, List.nil_append, Nat.reduceAdd, Nat.reduceEqDiff, Nat.reduceLeDiff, reduceIte, Nat.reduceLT, or_self, true_or, or_true, if_true, if_false, and_self, and_true, true_and, not_false_eq_true, not_true_eq_false]
          have := l2_see_loop (d := d) hS hp hC hO hu rest (pre ++ [e]) (a + es s e) (some e.1) e.1 (.int (nI s)) (.int e.2.1) (.long z) (.retAddr 0) x10 x11 _ (by rw [← hL]; simp) hEr (fun q hq => Option.some.inj hq) I'
          have el' : (pre ++ [e]).length = pre.length + 1 := by simp
          rw [el', ← hb] at this
          exact this
        refine am_go [244, 251] 9 ?_
        simp only [am_wp, am_stp, am_en, am_as, am_pad, am_nth, am_set, am_st1, am_st2, am_kl, am_kill, am_mem, am_fv, am_tk, am_wt, am_bk, Option.toList, List.cons_append, List.nil_append, Nat.reduceAdd, Nat.reduceEqDiff, Nat.reduceLeDiff, reduceIte, Nat.reduceLT, or_self, true_or, or_true, if_true, if_false, and_self, and_true, true_and, not_false_eq_true, not_true_eq_false, fd_Mo_see_229, fd_Mo_see_230, fd_Mo_see_233, fd_Mo_see_235, fd_Mo_see_237, fd_Mo_see_238, fd_Mo_see_239, fd_Mo_see_240, fd_Mo_see_241, hx_kd_sI, hx_R_sI, hx_kd_sL, hx_R_sL, k72, r38]
        simp only [lc_eq]
        have hzb := zb_ref z
        by_cases q : z &&& 1 = 0
        · rw [if_pos q] at hzb
          simp only [q, am_wp, am_stp, am_en, am_as, am_pad, am_nth, am_set, am_st1, am_st2, am_kl, am_kill, am_mem, am_fv, am_tk, am_wt, am_bk, Option.toList, List.cons_append, List.nil_append, Nat.reduceAdd, Nat.reduceEqDiff, Nat.reduceLeDiff, reduceIte, Nat.reduceLT, or_self, true_or, or_true, if_true, if_false, and_self, and_true, true_and, not_false_eq_true, not_true_eq_false]
          refine am_go [259] 4 ?_
          simp only [am_wp, am_stp, am_en, am_as, am_pad, am_nth, am_set, am_st1, am_st2, am_kl, am_kill, am_mem, am_fv, am_tk, am_wt, am_bk, Option.toList, List.cons_append, List.nil_append, Nat.reduceAdd, Nat.reduceEqDiff, Nat.reduceLeDiff, reduceIte, Nat.reduceLT, or_self, true_or, or_true, if_true, if_false, and_self, and_true, true_and, not_false_eq_true, not_true_eq_false, fd_Mo_see_244, fd_Mo_see_246, fd_Mo_see_247, fd_Mo_see_248]
          exact last _ (hzb.trans hz)
        · rw [if_neg q] at hzb
          simp only [q, am_wp, am_stp, am_en, am_as, am_pad, am_nth, am_set, am_st1, am_st2, am_kl, am_kill, am_mem, am_fv, am_tk, am_wt, am_bk, Option.toList, List.cons_append, List.nil_append, Nat.reduceAdd, Nat.reduceEqDiff, Nat.reduceLeDiff, reduceIte, Nat.reduceLT, or_self, true_or, or_true, if_true, if_false, and_self, and_true, true_and, not_false_eq_true, not_true_eq_false]
          refine am_go [259] 5 ?_
          simp only [am_wp, am_stp, am_en, am_as, am_pad, am_nth, am_set, am_st1, am_st2, am_kl, am_kill, am_mem, am_fv, am_tk, am_wt, am_bk, Option.toList, List.cons_append, List.nil_append, Nat.reduceAdd, Nat.reduceEqDiff, Nat.reduceLeDiff, reduceIte, Nat.reduceLT, or_self, true_or, or_true, if_true, if_false, and_self, and_true, true_and, not_false_eq_true, not_true_eq_false, fd_Mo_see_251, fd_Mo_see_253, fd_Mo_see_254, fd_Mo_see_255, fd_Mo_see_258]
          exact last _ (hzb.trans hz)
      refine am_go [] 8 ?_
      simp only [am_wp, am_stp, am_en, am_as, am_pad, am_nth, am_set, am_st1, am_st2, am_kl, am_kill, am_mem, am_fv, am_tk, am_wt, am_bk, Option.toList, List.cons_append, List.nil_append, Nat.reduceAdd, Nat.reduceEqDiff, Nat.reduceLeDiff, reduceIte, Nat.reduceLT, or_self, true_or, or_true, if_true, if_false, and_self, and_true, true_and, not_false_eq_true, not_true_eq_false, fd_Mo_see_137, fd_Mo_see_138, fd_Mo_see_141, fd_Mo_see_142, fd_Mo_see_143, fd_Mo_see_145, fd_Mo_see_148, fd_Mo_see_149, k72, r2, k73, n73, i2, q2, ek, nI_1]
      rw [e10]
      refine am_go [157, 212] 3 ?_
      simp only [am_wp, am_stp, am_en, am_as, am_pad, am_nth, am_set, am_st1, am_st2, am_kl, am_kill, am_mem, am_fv, am_tk, am_wt, am_bk, Option.toList, List.cons_append, List.nil_append, Nat.reduceAdd, Nat.reduceEqDiff, Nat.reduceLeDiff, reduceIte, Nat.reduceLT, or_self, true_or, or_true, if_true, if_false, and_self, and_true, true_and, not_false_eq_true, not_true_eq_false, fd_Mo_see_151, fd_Mo_see_153, fd_Mo_see_154]
      by_cases q : e.2.1 = 2
      · have ee : es s e = 10 - s := by unfold es; rw [if_pos q]; rfl
        have hfin := fin (a + (10 - s)) 0 v10 w11 (by omega) (by rw [he.2 q]; decide)
        simp only [q, am_wp, am_stp, am_en, am_as, am_pad, am_nth, am_set, am_st1, am_st2, am_kl, am_kill, am_mem, am_fv, am_tk, am_wt, am_bk, Option.toList, List.cons_append, List.nil_append, Nat.reduceAdd, Nat.reduceEqDiff, Nat.reduceLeDiff, reduceIte, Nat.reduceLT, or_self, true_or, or_true, if_true, if_false, and_self, and_true, true_and, not_false_eq_true, not_true_eq_false] at hfin ⊢
        exact hfin
      · have ee : es s e = 10 - s + vs (zf e.2.2) := by unfold es; rw [if_neg q]
        simp only [q, am_wp, am_stp, am_en, am_as, am_pad, am_nth, am_set, am_st1, am_st2, am_kl, am_kill, am_mem, am_fv, am_tk, am_wt, am_bk, Option.toList, List.cons_append, List.nil_append, Nat.reduceAdd, Nat.reduceEqDiff, Nat.reduceLeDiff, reduceIte, Nat.reduceLT, or_self, true_or, or_true, if_true, if_false, and_self, and_true, true_and, not_false_eq_true, not_true_eq_false]
        refine am_go [163] 4 ?_
        simp only [am_wp, am_stp, am_en, am_as, am_pad, am_nth, am_set, am_st1, am_st2, am_kl, am_kill, am_mem, am_fv, am_tk, am_wt, am_bk, Option.toList, List.cons_append, List.nil_append, Nat.reduceAdd, Nat.reduceEqDiff, Nat.reduceLeDiff, reduceIte, Nat.reduceLT, or_self, true_or, or_true, if_true, if_false, and_self, and_true, true_and, not_false_eq_true, not_true_eq_false, fd_Mo_see_157, fd_Mo_see_158, fd_Mo_see_160, fd_Mo_see_161]
        have hv := vs_le (zf e.2.2)
        have val := l2_see_val (d := d) (p := p) (a := a + (10 - s)) (i := pre.length) (s := nI s) (t := e.2.1) (kk := e.1) (z := zf e.2.2) (Q := fun o h' => o = .inl none ∧ se_I h h' C C) G hp rfl (fun k hk => ?_) (by omega) (fun y10 y11 => fin _ _ y10 y11 (by omega) (zb_zf _)) (vs (zf e.2.2)) 0 (by omega)
        · rw [if_pos (by omega)] at val
          have e0' : Int64.ofNat (zN (zf e.2.2) % 128 ^ 0) = 0 := by rw [Nat.pow_zero, Nat.mod_one]; rfl
          rw [e0'] at val
          exact val
        · have := hEa'.2.2.2 q k hk
          rw [← this]
          show am_I g 73 _ = am_I g 73 _
          congr 1
          omega
theorem l2_see {d P p : Nat} {C : List ent} {h : am_H} (hS : mo_Sk h) (hP : P ≤ 1024) (M : pg_M P h p C) : am_Rt nm_pr (d + 1) mi_Mo_see [.ref 72, .int (nI p)] h (fun o h' => o = .inl none ∧ se_I h h' C C) := by
  obtain ⟨m1, m2, m3, m4, m5, m6, m7, u, m8, m9⟩ := M
  obtain ⟨k72, ⟨r2, k73, n73⟩, -⟩ := mo_se hS
  have e1 : 128 * nI p = nI (128 * p) := (Int32.ofNat_mul 128 p).symm
  have e5 : nI (128 * p) + 5 = nI (128 * p + 5) := nI_add (128 * p) 5
  have e4 : nI (128 * p) + 4 = nI (128 * p + 4) := nI_add (128 * p) 4
  have i4b : (nI (128 * p + 4) < 0 ∨ 131068 ≤ 128 * p) = False := eq_false (fun q => by rcases q with q | q; exact nI_pos (by omega) q; omega)
  have q1 : (nI (128 * p + 4)).toNatClampNeg = 128 * p + 4 := nI_clamp (by omega)
  rw [Nat.mul_comm p 128] at m6
  refine am_in' mt_Mo_see 12 rfl rfl rfl ?_
  refine am_go [] 6 ?_
  simp only [am_wp, am_stp, am_en, am_as, am_pad, am_nth, am_set, am_st1, am_st2, am_kl, am_kill, am_mem, am_fv, am_tk, am_wt, am_bk, Option.toList, List.cons_append, List.nil_append, Nat.reduceAdd, Nat.reduceEqDiff, Nat.reduceLeDiff, reduceIte, Nat.reduceLT, or_self, true_or, or_true, if_true, if_false, and_self, and_true, true_and, not_false_eq_true, not_true_eq_false, fd_Mo_see_0, fd_Mo_see_3, fd_Mo_see_4, fd_Mo_see_5, fd_Mo_see_6, fd_Mo_see_7, e1, e5]
  refine am_go [33] 16 ?_
  simp only [am_wp, am_stp, am_en, am_as, am_pad, am_nth, am_set, am_st1, am_st2, am_kl, am_kill, am_mem, am_fv, am_tk, am_wt, am_bk, Option.toList, List.cons_append, List.nil_append, Nat.reduceAdd, Nat.reduceEqDiff, Nat.reduceLeDiff, reduceIte, Nat.reduceLT, or_self, true_or, or_true, if_true, if_false, and_self, and_true, true_and, not_false_eq_true, not_true_eq_false, fd_Mo_see_8, fd_Mo_see_9, fd_Mo_see_10, fd_Mo_see_13, fd_Mo_see_16, fd_Mo_see_17, fd_Mo_see_18, fd_Mo_see_19, fd_Mo_see_20, fd_Mo_see_21, fd_Mo_see_24, fd_Mo_see_25, fd_Mo_see_28, fd_Mo_see_29, fd_Mo_see_30, fd_Mo_see_31, k72, r2, k73, n73, e1, e4, i4b, q1, m6]
  exact l2_see_loop hS (by omega) m4 m5 m8 C [] 5 none 0 _ _ _ _ _ _ _ (by simp) m9 (fun q hq => by cases hq) ⟨am_fi.refl.sI (by simp), fun j hj => by simp only [hx_nx_sI, hx_ce_sI, hx_sl_sI, hx_kd_sI, hx_ln_sI, hx_I_sI, hx_L_sI, hx_R_sI, hx_nx_sL, hx_ce_sL, hx_sl_sL, hx_kd_sL, hx_ln_sL, hx_I_sL, hx_L_sL, hx_R_sL, hx_nx_sR, hx_ce_sR, hx_sl_sR, hx_kd_sR, hx_ln_sR, hx_I_sR, hx_L_sR, hx_R_sR, hx_nx_al, hx_ce_al, hx_sl_al, hx_kd_al, hx_ln_al, hx_I_al, hx_L_al, hx_R_al, hx_nx_row, hx_ce_row, hx_sl_row, hx_kd_row, hx_ln_row, hx_I_row, hx_L_row, hx_R_row, hx_nx_mk, hx_kd_mk, hx_ln_mk, hx_I_mk, hx_L_mk, hx_R_mk, am_wp, am_stp, am_en, am_as, am_pad, am_nth, am_set, am_st1, am_st2, am_kl, am_kill, am_mem, am_fv, am_tk, am_wt, am_bk, Option.toList, List.cons_append, List.nil_append, Nat.reduceAdd, Nat.reduceEqDiff, Nat.reduceLeDiff, reduceIte, Nat.reduceLT, or_self, true_or, or_true, if_true, if_false, and_self, and_true, true_and, not_false_eq_true, not_true_eq_false, hj], by simp only [hx_nx_sI, hx_ce_sI, hx_sl_sI, hx_kd_sI, hx_ln_sI, hx_I_sI, hx_L_sI, hx_R_sI, hx_nx_sL, hx_ce_sL, hx_sl_sL, hx_kd_sL, hx_ln_sL, hx_I_sL, hx_L_sL, hx_R_sL, hx_nx_sR, hx_ce_sR, hx_sl_sR, hx_kd_sR, hx_ln_sR, hx_I_sR, hx_L_sR, hx_R_sR, hx_nx_al, hx_ce_al, hx_sl_al, hx_kd_al, hx_ln_al, hx_I_al, hx_L_al, hx_R_al, hx_nx_row, hx_ce_row, hx_sl_row, hx_kd_row, hx_ln_row, hx_I_row, hx_L_row, hx_R_row, hx_nx_mk, hx_kd_mk, hx_ln_mk, hx_I_mk, hx_L_mk, hx_R_mk, am_wp, am_stp, am_en, am_as, am_pad, am_nth, am_set, am_st1, am_st2, am_kl, am_kill, am_mem, am_fv, am_tk, am_wt, am_bk, Option.toList, List.cons_append, List.nil_append, Nat.reduceAdd, Nat.reduceEqDiff, Nat.reduceLeDiff, reduceIte, Nat.reduceLT, or_self, true_or, or_true, if_true, if_false, and_self, and_true, true_and, not_false_eq_true, not_true_eq_false], fun i e he => by simp at he⟩
