/-! THE REFERENCE LAYS AN ENTRY -/
def ly_I (h g : am_H) (u k : Nat) (W : Nat → Int32) : Prop := am_fi [91] h g ∧ am_L g = am_L h ∧ (∀ j, j < u → am_I g 91 j = am_I h 91 j) ∧ ∀ i, i < k → am_I g 91 (u + i) = W i
theorem ly_I.put {h g : am_H} {u k : Nat} {W : Nat → Int32} {x : Int32} (A : ly_I h g u k W) (hx : x = W k) : ly_I h (am_sI g 91 (u + k) x) u (k + 1) W := by
  obtain ⟨a1, a2, a3, a4⟩ := A
  refine ⟨a1.sI (by simp), a2, fun j hj => ?_, fun i hi => ?_⟩
  · simp only [hx_nx_sI, hx_ce_sI, hx_sl_sI, hx_kd_sI, hx_ln_sI, hx_I_sI, hx_L_sI, hx_R_sI, hx_nx_sL, hx_ce_sL, hx_sl_sL, hx_kd_sL, hx_ln_sL, hx_I_sL, hx_L_sL, hx_R_sL, hx_nx_sR, hx_ce_sR, hx_sl_sR, hx_kd_sR, hx_ln_sR, hx_I_sR, hx_L_sR, hx_R_sR, hx_nx_al, hx_ce_al, hx_sl_al, hx_kd_al, hx_ln_al, hx_I_al, hx_L_al, hx_R_al, hx_nx_row, hx_ce_row, hx_sl_row, hx_kd_row, hx_ln_row, hx_I_row, hx_L_row, hx_R_row, hx_nx_mk, hx_kd_mk, hx_ln_mk, hx_I_mk, hx_L_mk, hx_R_mk, am_wp, am_stp, am_en, am_as, am_pad, am_nth, am_set, am_st1, am_st2, am_kl, am_kill, am_mem, am_fv, am_tk, am_wt, am_bk, Option.toList, List.cons_append, List.nil_append, Nat.reduceAdd, Nat.reduceEqDiff, Nat.reduceLeDiff, reduceIte, Nat.reduceLT, or_self, true_or, or_true, if_true, if_false, and_self, and_true, true_and, not_false_eq_true, not_true_eq_false]
    rw [if_neg (by omega)]
    exact a3 j hj
  · simp only [hx_nx_sI, hx_ce_sI, hx_sl_sI, hx_kd_sI, hx_ln_sI, hx_I_sI, hx_L_sI, hx_R_sI, hx_nx_sL, hx_ce_sL, hx_sl_sL, hx_kd_sL, hx_ln_sL, hx_I_sL, hx_L_sL, hx_R_sL, hx_nx_sR, hx_ce_sR, hx_sl_sR, hx_kd_sR, hx_ln_sR, hx_I_sR, hx_L_sR, hx_R_sR, hx_nx_al, hx_ce_al, hx_sl_al, hx_kd_al, hx_ln_al, hx_I_al, hx_L_al, hx_R_al, hx_nx_row, hx_ce_row, hx_sl_row, hx_kd_row, hx_ln_row, hx_I_row, hx_L_row, hx_R_row, hx_nx_mk, hx_kd_mk, hx_ln_mk, hx_I_mk, hx_L_mk, hx_R_mk, am_wp, am_stp, am_en, am_as, am_pad, am_nth, am_set, am_st1, am_st2, am_kl, am_kill, am_mem, am_fv, am_tk, am_wt, am_bk, Option.toList, List.cons_append, List.nil_append, Nat.reduceAdd, Nat.reduceEqDiff, Nat.reduceLeDiff, reduceIte, Nat.reduceLT, or_self, true_or, or_true, if_true, if_false, and_self, and_true, true_and, not_false_eq_true, not_true_eq_false]
    by_cases e : i = k
    · subst e; rw [if_pos rfl]; exact hx
    · rw [if_neg (by omega)]; exact a4 i (by omega)
theorem mo_dr {h : am_H} (c : mo_Sk h) : am_kd h 72 = 12 ∧ am_R h 72 30 = 91 ∧ am_kd h 91 = 102 ∧ am_ln h 91 = 128 := by
  obtain ⟨c1, rr, aa⟩ := c
  exact ⟨c1, (rr 30).trans rfl, (aa 18 _ rfl).1, (aa 18 _ rfl).2⟩
theorem l2_lay_key {d u i s : Nat} {f : Int32} {e : ent} {w7 w8 w9 w10 w11 : Value} {h : am_H} {Q : am_O → am_H → Prop} (hS : mo_Sk h) (hi : i < 45000) (h1 : am_L h 92 i = e.1) (hs : s ≤ 8) (hu : u + es s e ≤ 120)
    (hx : ∀ g, ly_I h g u (9 - s) (eW s e) → am_Ex nm_pr (d + 1) mt_Mo_layEntry (82, [.ref 72, .int (nI u), .int (nI i), .int f, .int (nI (u + (9 - s))), .int (nI s), .int (nI 8), w7, w8, w9, w10, w11], [], g) Q) : ∀ (r j : Nat) (g : am_H), r + j = 8 → s ≤ j → ly_I h g u (1 + (j - s)) (eW s e) →
    am_Ex nm_pr (d + 1) mt_Mo_layEntry (47, [.ref 72, .int (nI u), .int (nI i), .int f, .int (nI (u + (1 + (j - s)))), .int (nI s), .int (nI j), w7, w8, w9, w10, w11], [], g) Q
  | 0, j, g, hr, hj, A => by
    have ej : j = 8 := by omega
    subst ej
    have hlt : ¬ (nI 8 < 8) := by decide
    refine am_go [54, 82] 3 ?_
    simp only [am_wp, am_stp, am_en, am_as, am_pad, am_nth, am_set, am_st1, am_st2, am_kl, am_kill, am_mem, am_fv, am_tk, am_wt, am_bk, Option.toList, List.cons_append, List.nil_append, Nat.reduceAdd, Nat.reduceEqDiff, Nat.reduceLeDiff, reduceIte, Nat.reduceLT, or_self, true_or, or_true, if_true, if_false, and_self, and_true, true_and, not_false_eq_true, not_true_eq_false, fd_Mo_layEntry_47, fd_Mo_layEntry_49, fd_Mo_layEntry_51, hlt]
    have := hx g (by rw [show 9 - s = 1 + (8 - s) by omega]; exact A)
    rw [show 9 - s = 1 + (8 - s) by omega] at this
    exact this
  | r + 1, j, g, hr, hj, A => by
    have G := hS.fi A.1
    obtain ⟨k72, r32, r33, r34, k92, n92, k93, n93, k94, n94⟩ := mo_ky G
    obtain ⟨-, r30, k91, n91⟩ := mo_dr G
    have hlt : nI j < 8 := nI_lt (b := 8) (by omega) (by decide)
    have hu2 : u + (1 + (j - s)) < 120 := by unfold es at hu; omega
    have i1 := am_inb (c := i) (N := 45000) hi (by omega)
    have q1 : (nI i).toNatClampNeg = i := nI_clamp (by omega)
    have i2 := am_inb (c := u + (1 + (j - s))) (N := 128) (by omega) (by omega)
    have q2 : (nI (u + (1 + (j - s)))).toNatClampNeg = u + (1 + (j - s)) := nI_clamp (by omega)
    have h1' : am_L g 92 i = e.1 := by rw [A.2.1]; exact h1
    refine am_go [54, 82] 3 ?_
    simp only [am_wp, am_stp, am_en, am_as, am_pad, am_nth, am_set, am_st1, am_st2, am_kl, am_kill, am_mem, am_fv, am_tk, am_wt, am_bk, Option.toList, List.cons_append, List.nil_append, Nat.reduceAdd, Nat.reduceEqDiff, Nat.reduceLeDiff, reduceIte, Nat.reduceLT, or_self, true_or, or_true, if_true, if_false, and_self, and_true, true_and, not_false_eq_true, not_true_eq_false, fd_Mo_layEntry_47, fd_Mo_layEntry_49, fd_Mo_layEntry_51, hlt]
    refine am_go [] 9 ?_
    simp only [am_wp, am_stp, am_en, am_as, am_pad, am_nth, am_set, am_st1, am_st2, am_kl, am_kill, am_mem, am_fv, am_tk, am_wt, am_bk, Option.toList, List.cons_append, List.nil_append, Nat.reduceAdd, Nat.reduceEqDiff, Nat.reduceLeDiff, reduceIte, Nat.reduceLT, or_self, true_or, or_true, if_true, if_false, and_self, and_true, true_and, not_false_eq_true, not_true_eq_false, fd_Mo_layEntry_54, fd_Mo_layEntry_55, fd_Mo_layEntry_58, fd_Mo_layEntry_60, fd_Mo_layEntry_61, fd_Mo_layEntry_64, fd_Mo_layEntry_65, fd_Mo_layEntry_66, fd_Mo_layEntry_68, k72, r30, r32, k92, n92, i1, q1, h1']
    refine am_call (l2_keyOctet (d := d) (show j < 8 by omega)) (fun o g1 z => ?_)
    obtain ⟨rfl, rfl⟩ := z
    simp only [am_wp, am_stp, am_en, am_as, am_pad, am_nth, am_set, am_st1, am_st2, am_kl, am_kill, am_mem, am_fv, am_tk, am_wt, am_bk, Option.toList, List.cons_append, List.nil_append, Nat.reduceAdd, Nat.reduceEqDiff, Nat.reduceLeDiff, reduceIte, Nat.reduceLT, or_self, true_or, or_true, if_true, if_false, and_self, and_true, true_and, not_false_eq_true, not_true_eq_false]
    refine am_go [47] 5 ?_
    simp only [am_wp, am_stp, am_en, am_as, am_pad, am_nth, am_set, am_st1, am_st2, am_kl, am_kill, am_mem, am_fv, am_tk, am_wt, am_bk, Option.toList, List.cons_append, List.nil_append, Nat.reduceAdd, Nat.reduceEqDiff, Nat.reduceLeDiff, reduceIte, Nat.reduceLT, or_self, true_or, or_true, if_true, if_false, and_self, and_true, true_and, not_false_eq_true, not_true_eq_false, fd_Mo_layEntry_71, fd_Mo_layEntry_72, fd_Mo_layEntry_73, fd_Mo_layEntry_76, fd_Mo_layEntry_79, k91, n91, i2, q2, nI_1]
    have hw : am_b8 (am_b8 (mo_K e.1 j)) = eW s e (1 + (j - s)) := by
      rw [am_b8_b8, kb_eq (show j < 8 by omega), eW, if_neg (by omega), if_pos (by omega), show s + (1 + (j - s)) - 1 = j by omega]
    have A' := A.put hw
    have := l2_lay_key hS hi h1 hs hu hx r (j + 1) _ (by omega) (by omega) (by rw [show 1 + (j + 1 - s) = 1 + (j - s) + 1 by omega]; exact A')
    rw [show u + (1 + (j + 1 - s)) = u + (1 + (j - s)) + 1 by omega] at this
    exact this
theorem l2_lay_val {d u i s q m : Nat} {f : Int32} {v z : Int64} {h : am_H} {W : Nat → Int32} {Q : am_O → am_H → Prop} (hS : mo_Sk h) (hm : m = vs z) (hu : u + q + m ≤ 120) (hW : ∀ i, i < m → W (q + i) = am_b8 (nI (vb (zN z) m i)))
    (hx : ∀ g, ly_I h g u (q + m) W → Q (.inl (some (.int (nI (u + (q + m)))))) g) : ∀ (r k : Nat) (x : Int64) (g : am_H), r + k = m → zN x = zN z / 128 ^ k → ly_I h g u (q + k) W →
    am_Ex nm_pr d mt_Mo_layEntry (155, [.ref 72, .int (nI u), .int (nI i), .int f, .int (nI (u + (q + k))), .int (nI s), .long v, .retAddr 0, .long x, .retAddr 0, .int (nI m), .int (nI k)], [], g) Q
  | 0, k, x, g, hr, hz, A => by
    have e : k = m := by omega
    subst e
    have l1 : ¬ nI k < nI k := nI_nlt (Nat.le_refl _) (by omega)
    refine am_go [162] 6 ?_
    simp only [am_wp, am_stp, am_en, am_as, am_pad, am_nth, am_set, am_st1, am_st2, am_kl, am_kill, am_mem, am_fv, am_tk, am_wt, am_bk, Option.toList, List.cons_append, List.nil_append, Nat.reduceAdd, Nat.reduceEqDiff, Nat.reduceLeDiff, reduceIte, Nat.reduceLT, or_self, true_or, or_true, if_true, if_false, and_self, and_true, true_and, not_false_eq_true, not_true_eq_false, fd_Mo_layEntry_155, fd_Mo_layEntry_157, fd_Mo_layEntry_159, fd_Mo_layEntry_210, fd_Mo_layEntry_212, l1]
    exact hx g A
  | r + 1, k, x, g, hr, hz, A => by
    have G := hS.fi A.1
    obtain ⟨k72, r30, k91, n91⟩ := mo_dr G
    have l1 : nI k < nI m := nI_lt (by omega) (by omega)
    have i2 := am_inb (c := u + (q + k)) (N := 128) (by omega) (by omega)
    have q2 : (nI (u + (q + k))).toNatClampNeg = u + (q + k) := nI_clamp (by omega)
    have hw := vb_ref (z := z) (x := x) (m := m) (i := k) hz
    have fin : ∀ y : Int64, y = (if k + 1 < m then 128 else 0) → am_Ex nm_pr d mt_Mo_layEntry (190, [.ref 72, .int (nI u), .int (nI i), .int f, .int (nI (u + (q + k))), .int (nI s), .long v, .retAddr 0, .long x, .retAddr 0, .int (nI m), .int (nI k)], [.long y, .long (x &&& 127), .int (nI (u + (q + k))), .ref 91], g) Q := by
      intro y hy
      refine am_go [] 4 ?_
      simp only [am_wp, am_stp, am_en, am_as, am_pad, am_nth, am_set, am_st1, am_st2, am_kl, am_kill, am_mem, am_fv, am_tk, am_wt, am_bk, Option.toList, List.cons_append, List.nil_append, Nat.reduceAdd, Nat.reduceEqDiff, Nat.reduceLeDiff, reduceIte, Nat.reduceLT, or_self, true_or, or_true, if_true, if_false, and_self, and_true, true_and, not_false_eq_true, not_true_eq_false, fd_Mo_layEntry_190, fd_Mo_layEntry_191, fd_Mo_layEntry_192, fd_Mo_layEntry_193, k91, n91, i2, q2]
      rw [hy, am_b8_b8, hw]
      refine am_go [155] 7 ?_
      simp only [am_wp, am_stp, am_en, am_as, am_pad, am_nth, am_set, am_st1, am_st2, am_kl, am_kill, am_mem, am_fv, am_tk, am_wt, am_bk, Option.toList, List.cons_append, List.nil_append, Nat.reduceAdd, Nat.reduceEqDiff, Nat.reduceLeDiff, reduceIte, Nat.reduceLT, or_self, true_or, or_true, if_true, if_false, and_self, and_true, true_and, not_false_eq_true, not_true_eq_false, fd_Mo_layEntry_194, fd_Mo_layEntry_196, fd_Mo_layEntry_198, fd_Mo_layEntry_199, fd_Mo_layEntry_201, fd_Mo_layEntry_204, fd_Mo_layEntry_207, nI_1]
      have A' := A.put (hW k (by omega)).symm
      have := l2_lay_val (d := d) (v := v) (f := f) (s := s) (i := i) hS hm hu hW hx r (k + 1) _ _ (by omega) (vs_next hz) (by rw [show q + (k + 1) = q + k + 1 by omega]; exact A')
      rw [show u + (q + (k + 1)) = u + (q + k) + 1 by omega] at this
      exact this
    refine am_go [162, 210] 3 ?_
    simp only [am_wp, am_stp, am_en, am_as, am_pad, am_nth, am_set, am_st1, am_st2, am_kl, am_kill, am_mem, am_fv, am_tk, am_wt, am_bk, Option.toList, List.cons_append, List.nil_append, Nat.reduceAdd, Nat.reduceEqDiff, Nat.reduceLeDiff, reduceIte, Nat.reduceLT, or_self, true_or, or_true, if_true, if_false, and_self, and_true, true_and, not_false_eq_true, not_true_eq_false, fd_Mo_layEntry_155, fd_Mo_layEntry_157, fd_Mo_layEntry_159, l1]
    refine am_go [183, 189] 11 ?_
    simp only [am_wp, am_stp, am_en, am_as, am_pad, am_nth, am_set, am_st1, am_st2, am_kl, am_kill, am_mem, am_fv, am_tk, am_wt, am_bk, Option.toList, List.cons_append, List.nil_append, Nat.reduceAdd, Nat.reduceEqDiff, Nat.reduceLeDiff, reduceIte, Nat.reduceLT, or_self, true_or, or_true, if_true, if_false, and_self, and_true, true_and, not_false_eq_true, not_true_eq_false, fd_Mo_layEntry_162, fd_Mo_layEntry_163, fd_Mo_layEntry_166, fd_Mo_layEntry_168, fd_Mo_layEntry_170, fd_Mo_layEntry_173, fd_Mo_layEntry_174, fd_Mo_layEntry_176, fd_Mo_layEntry_177, fd_Mo_layEntry_178, fd_Mo_layEntry_180, k72, r30, nI_1]
    by_cases e : k + 1 < m
    · have l2 : nI (k + 1) < nI m := nI_lt e (by omega)
      simp only [l2, am_wp, am_stp, am_en, am_as, am_pad, am_nth, am_set, am_st1, am_st2, am_kl, am_kill, am_mem, am_fv, am_tk, am_wt, am_bk, Option.toList, List.cons_append, List.nil_append, Nat.reduceAdd, Nat.reduceEqDiff, Nat.reduceLeDiff, reduceIte, Nat.reduceLT, or_self, true_or, or_true, if_true, if_false, and_self, and_true, true_and, not_false_eq_true, not_true_eq_false]
      refine am_go [190] 2 ?_
      simp only [am_wp, am_stp, am_en, am_as, am_pad, am_nth, am_set, am_st1, am_st2, am_kl, am_kill, am_mem, am_fv, am_tk, am_wt, am_bk, Option.toList, List.cons_append, List.nil_append, Nat.reduceAdd, Nat.reduceEqDiff, Nat.reduceLeDiff, reduceIte, Nat.reduceLT, or_self, true_or, or_true, if_true, if_false, and_self, and_true, true_and, not_false_eq_true, not_true_eq_false, fd_Mo_layEntry_183, fd_Mo_layEntry_186]
      exact fin 128 (by rw [if_pos e])
    · have l2 : ¬ nI (k + 1) < nI m := nI_nlt (by omega) (by omega)
      simp only [l2, am_wp, am_stp, am_en, am_as, am_pad, am_nth, am_set, am_st1, am_st2, am_kl, am_kill, am_mem, am_fv, am_tk, am_wt, am_bk, Option.toList, List.cons_append, List.nil_append, Nat.reduceAdd, Nat.reduceEqDiff, Nat.reduceLeDiff, reduceIte, Nat.reduceLT, or_self, true_or, or_true, if_true, if_false, and_self, and_true, true_and, not_false_eq_true, not_true_eq_false]
      refine am_go [190] 1 ?_
      simp only [am_wp, am_stp, am_en, am_as, am_pad, am_nth, am_set, am_st1, am_st2, am_kl, am_kill, am_mem, am_fv, am_tk, am_wt, am_bk, Option.toList, List.cons_append, List.nil_append, Nat.reduceAdd, Nat.reduceEqDiff, Nat.reduceLeDiff, reduceIte, Nat.reduceLT, or_self, true_or, or_true, if_true, if_false, and_self, and_true, true_and, not_false_eq_true, not_true_eq_false, fd_Mo_layEntry_189]
      exact fin 0 (by rw [if_neg e])
theorem l2_layEntry {d u i s : Nat} {f : Int32} {e : ent} {h : am_H} (hS : mo_Sk h) (hi : i < 45000) (h1 : am_L h 92 i = e.1) (h2 : am_I h 93 i = e.2.1) (h3 : am_L h 94 i = e.2.2) (hs : sp_s h i f e s) (he : eo e) (hu : u + es s e ≤ 120) : am_Rt nm_pr (d + 3) mi_Mo_layEntry [.ref 72, .int (nI u), .int (nI i), .int f] h (fun o h' => o = .inl (some (.int (nI (u + es s e)))) ∧ am_fi [91] h h' ∧ am_L h' = am_L h ∧ ea (am_I h' 91) u s e ∧ ∀ j, j < u → am_I h' 91 j = am_I h 91 j) := by
  obtain ⟨k72, r32, r33, r34, k92, n92, k93, n93, k94, n94⟩ := mo_ky hS
  obtain ⟨-, r30, k91, n91⟩ := mo_dr hS
  have i1 := am_inb (c := i) (N := 45000) hi (by omega)
  have q1 : (nI i).toNatClampNeg = i := nI_clamp (by omega)
  have hs8 := hs.le
  have h5 := es_ge hs8 e
  have done : ∀ g, ly_I h g u (es s e) (eW s e) → am_fi [91] h g ∧ am_L g = am_L h ∧ ea (am_I g 91) u s e ∧ ∀ j, j < u → am_I g 91 j = am_I h 91 j := fun g A => ⟨A.1, A.2.1, eW_ea hs8 A.2.2.2, A.2.2.1⟩
  refine am_in' (d := d + 2) mt_Mo_layEntry 12 rfl rfl rfl ?_
  have rest : am_Ex nm_pr (d + 2) mt_Mo_layEntry (28, [.ref 72, .int (nI u), .int (nI i), .int f, .int (nI u), .retAddr 0, .retAddr 0, .retAddr 0, .retAddr 0, .retAddr 0, .retAddr 0, .retAddr 0], [.int (nI s)], h) (fun o h' => o = .inl (some (.int (nI (u + es s e)))) ∧ am_fi [91] h h' ∧ am_L h' = am_L h ∧ ea (am_I h' 91) u s e ∧ ∀ j, j < u → am_I h' 91 j = am_I h 91 j) := by
    have i2 := am_inb (c := u) (N := 128) (by omega) (by omega)
    have q2 : (nI u).toNatClampNeg = u := nI_clamp (by omega)
    refine am_go [47] 10 ?_
    simp only [am_wp, am_stp, am_en, am_as, am_pad, am_nth, am_set, am_st1, am_st2, am_kl, am_kill, am_mem, am_fv, am_tk, am_wt, am_bk, Option.toList, List.cons_append, List.nil_append, Nat.reduceAdd, Nat.reduceEqDiff, Nat.reduceLeDiff, reduceIte, Nat.reduceLT, or_self, true_or, or_true, if_true, if_false, and_self, and_true, true_and, not_false_eq_true, not_true_eq_false, fd_Mo_layEntry_28, fd_Mo_layEntry_30, fd_Mo_layEntry_31, fd_Mo_layEntry_34, fd_Mo_layEntry_36, fd_Mo_layEntry_38, fd_Mo_layEntry_39, fd_Mo_layEntry_40, fd_Mo_layEntry_43, fd_Mo_layEntry_45, k72, r30, k91, n91, i2, q2, nI_1]
    have A0 : ly_I h h u 0 (eW s e) := ⟨am_fi.refl, rfl, fun _ _ => rfl, fun i hi => by omega⟩
    have hz : am_b8 (am_b8 (nI s)) = eW s e 0 := by
      rw [eW, if_pos rfl, am_b8_b8]
      have : ∀ s : Fin 9, am_b8 (nI s.1) = nI s.1 := by decide
      exact this ⟨s, by omega⟩
    have A1 := A0.put hz
    have key := l2_lay_key (d := d + 1) (f := f) (w7 := .retAddr 0) (w8 := .retAddr 0) (w9 := .retAddr 0) (w10 := .retAddr 0) (w11 := .retAddr 0) (Q := fun o h' => o = .inl (some (.int (nI (u + es s e)))) ∧ am_fi [91] h h' ∧ am_L h' = am_L h ∧ ea (am_I h' 91) u s e ∧ ∀ j, j < u → am_I h' 91 j = am_I h 91 j) hS hi h1 hs8 hu (fun g A => ?_) (8 - s) s _ (by omega) (Nat.le_refl _) (by rw [Nat.sub_self]; exact A1)
    · rw [Nat.sub_self] at key
      exact key
    · have G := hS.fi A.1
      obtain ⟨k72', r32', r33', r34', k92', n92', k93', n93', k94', n94'⟩ := mo_ky G
      obtain ⟨-, r30', k91', n91'⟩ := mo_dr G
      have v2 : am_I g 93 i = e.2.1 := by rw [A.1.2.2.2.2.2.2.1 93 (by simp)]; exact h2
      have v3 : am_L g 94 i = e.2.2 := by rw [A.2.1]; exact h3
      have hu9 : u + (9 - s) < 120 := by unfold es at hu; omega
      have i3 := am_inb (c := u + (9 - s)) (N := 128) (by omega) (by omega)
      have q3 : (nI (u + (9 - s))).toNatClampNeg = u + (9 - s) := nI_clamp (by omega)
      have hw : am_b8 (am_b8 e.2.1) = eW s e (9 - s) := by
        rw [am_b8_b8, eW, if_neg (by omega), if_neg (by omega), if_pos rfl]
        rcases he.1 with q | q | q <;> rw [q] <;> decide
      have A2 := A.put hw
      have e10 : 9 - s + 1 = 10 - s := by omega
      rw [e10] at A2
      refine am_go [] 9 ?_
      simp only [am_wp, am_stp, am_en, am_as, am_pad, am_nth, am_set, am_st1, am_st2, am_kl, am_kill, am_mem, am_fv, am_tk, am_wt, am_bk, Option.toList, List.cons_append, List.nil_append, Nat.reduceAdd, Nat.reduceEqDiff, Nat.reduceLeDiff, reduceIte, Nat.reduceLT, or_self, true_or, or_true, if_true, if_false, and_self, and_true, true_and, not_false_eq_true, not_true_eq_false, fd_Mo_layEntry_82, fd_Mo_layEntry_83, fd_Mo_layEntry_86, fd_Mo_layEntry_88, fd_Mo_layEntry_89, fd_Mo_layEntry_92, fd_Mo_layEntry_93, fd_Mo_layEntry_94, fd_Mo_layEntry_95, k72', r30', r33', k93', n93', i1, q1, v2, k91', n91', i3, q3]
      generalize hg2 : am_sI g 91 (u + (9 - s)) (am_b8 (am_b8 e.2.1)) = g2 at A2 ⊢
      clear hg2
      have G2 := hS.fi A2.1
      obtain ⟨k72s, r32s, r33s, r34s, k92s, n92s, k93s, n93s, k94s, n94s⟩ := mo_ky G2
      have w2 : am_I g2 93 i = e.2.1 := by rw [A2.1.2.2.2.2.2.2.1 93 (by simp)]; exact h2
      have w3 : am_L g2 94 i = e.2.2 := by rw [A2.2.1]; exact h3
      refine am_go [109, 210] 7 ?_
      simp only [am_wp, am_stp, am_en, am_as, am_pad, am_nth, am_set, am_st1, am_st2, am_kl, am_kill, am_mem, am_fv, am_tk, am_wt, am_bk, Option.toList, List.cons_append, List.nil_append, Nat.reduceAdd, Nat.reduceEqDiff, Nat.reduceLeDiff, reduceIte, Nat.reduceLT, or_self, true_or, or_true, if_true, if_false, and_self, and_true, true_and, not_false_eq_true, not_true_eq_false, fd_Mo_layEntry_96, fd_Mo_layEntry_99, fd_Mo_layEntry_100, fd_Mo_layEntry_103, fd_Mo_layEntry_104, fd_Mo_layEntry_105, fd_Mo_layEntry_106, k72s, r33s, k93s, n93s, i1, q1, w2, nI_1]
      have eu : u + (9 - s) + 1 = u + (10 - s) := by omega
      by_cases q : e.2.1 = 2
      · have eq2 : es s e = 10 - s := by unfold es; rw [if_pos q]; rfl
        simp only [q, am_wp, am_stp, am_en, am_as, am_pad, am_nth, am_set, am_st1, am_st2, am_kl, am_kill, am_mem, am_fv, am_tk, am_wt, am_bk, Option.toList, List.cons_append, List.nil_append, Nat.reduceAdd, Nat.reduceEqDiff, Nat.reduceLeDiff, reduceIte, Nat.reduceLT, or_self, true_or, or_true, if_true, if_false, and_self, and_true, true_and, not_false_eq_true, not_true_eq_false]
        refine am_go [] 2 ?_
        simp only [am_wp, am_stp, am_en, am_as, am_pad, am_nth, am_set, am_st1, am_st2, am_kl, am_kill, am_mem, am_fv, am_tk, am_wt, am_bk, Option.toList, List.cons_append, List.nil_append, Nat.reduceAdd, Nat.reduceEqDiff, Nat.reduceLeDiff, reduceIte, Nat.reduceLT, or_self, true_or, or_true, if_true, if_false, and_self, and_true, true_and, not_false_eq_true, not_true_eq_false, fd_Mo_layEntry_210, fd_Mo_layEntry_212]
        rw [eu, eq2]
        refine ⟨rfl, ?_⟩
        have := done g2 (by rw [eq2]; exact A2)
        exact this
      · have eq2 : es s e = 10 - s + vs (zf e.2.2) := by unfold es; rw [if_neg q]
        simp only [q, am_wp, am_stp, am_en, am_as, am_pad, am_nth, am_set, am_st1, am_st2, am_kl, am_kill, am_mem, am_fv, am_tk, am_wt, am_bk, Option.toList, List.cons_append, List.nil_append, Nat.reduceAdd, Nat.reduceEqDiff, Nat.reduceLeDiff, reduceIte, Nat.reduceLT, or_self, true_or, or_true, if_true, if_false, and_self, and_true, true_and, not_false_eq_true, not_true_eq_false]
        have fin : ∀ z : Int64, z = zf e.2.2 → am_Ex nm_pr (d + 2) mt_Mo_layEntry (143, [.ref 72, .int (nI u), .int (nI i), .int f, .int (nI (u + (10 - s))), .int (nI s), .long e.2.2, .retAddr 0, .retAddr 0, .retAddr 0, .retAddr 0, .retAddr 0], [.long z], g2) (fun o h' => o = .inl (some (.int (nI (u + es s e)))) ∧ am_fi [91] h h' ∧ am_L h' = am_L h ∧ ea (am_I h' 91) u s e ∧ ∀ j, j < u → am_I h' 91 j = am_I h 91 j) := by
          intro z hz
          subst hz
          refine am_go [] 3 ?_
          simp only [am_wp, am_stp, am_en, am_as, am_pad, am_nth, am_set, am_st1, am_st2, am_kl, am_kill, am_mem, am_fv, am_tk, am_wt, am_bk, Option.toList, List.cons_append, List.nil_append, Nat.reduceAdd, Nat.reduceEqDiff, Nat.reduceLeDiff, reduceIte, Nat.reduceLT, or_self, true_or, or_true, if_true, if_false, and_self, and_true, true_and, not_false_eq_true, not_true_eq_false, fd_Mo_layEntry_143, fd_Mo_layEntry_145, fd_Mo_layEntry_147]
          refine am_call (l2_vSize (d := d + 1)) (fun o g3 z => ?_)
          obtain ⟨rfl, rfl⟩ := z
          simp only [am_wp, am_stp, am_en, am_as, am_pad, am_nth, am_set, am_st1, am_st2, am_kl, am_kill, am_mem, am_fv, am_tk, am_wt, am_bk, Option.toList, List.cons_append, List.nil_append, Nat.reduceAdd, Nat.reduceEqDiff, Nat.reduceLeDiff, reduceIte, Nat.reduceLT, or_self, true_or, or_true, if_true, if_false, and_self, and_true, true_and, not_false_eq_true, not_true_eq_false]
          refine am_go [155] 3 ?_
          simp only [am_wp, am_stp, am_en, am_as, am_pad, am_nth, am_set, am_st1, am_st2, am_kl, am_kill, am_mem, am_fv, am_tk, am_wt, am_bk, Option.toList, List.cons_append, List.nil_append, Nat.reduceAdd, Nat.reduceEqDiff, Nat.reduceLeDiff, reduceIte, Nat.reduceLT, or_self, true_or, or_true, if_true, if_false, and_self, and_true, true_and, not_false_eq_true, not_true_eq_false, fd_Mo_layEntry_150, fd_Mo_layEntry_152, fd_Mo_layEntry_153]
          exact l2_lay_val (d := d + 2) (q := 10 - s) (z := zf e.2.2) (W := eW s e) hS rfl (by omega) (fun k hk => by rw [eW, if_neg (by omega), if_neg (by omega), if_neg (by omega), show 10 - s + k - (10 - s) = k by omega]) (fun g4 A4 => by
            rw [← eq2]
            exact ⟨rfl, done g4 (by rw [eq2]; exact A4)⟩) (vs (zf e.2.2)) 0 _ g3 (by omega) (by simp) A2
        rw [eu]
        refine am_go [] 5 ?_
        simp only [am_wp, am_stp, am_en, am_as, am_pad, am_nth, am_set, am_st1, am_st2, am_kl, am_kill, am_mem, am_fv, am_tk, am_wt, am_bk, Option.toList, List.cons_append, List.nil_append, Nat.reduceAdd, Nat.reduceEqDiff, Nat.reduceLeDiff, reduceIte, Nat.reduceLT, or_self, true_or, or_true, if_true, if_false, and_self, and_true, true_and, not_false_eq_true, not_true_eq_false, fd_Mo_layEntry_109, fd_Mo_layEntry_110, fd_Mo_layEntry_113, fd_Mo_layEntry_114, fd_Mo_layEntry_115, k72s, r34s, k94s, n94s, i1, q1, w3]
        refine am_go [124, 133] 4 ?_
        simp only [am_wp, am_stp, am_en, am_as, am_pad, am_nth, am_set, am_st1, am_st2, am_kl, am_kill, am_mem, am_fv, am_tk, am_wt, am_bk, Option.toList, List.cons_append, List.nil_append, Nat.reduceAdd, Nat.reduceEqDiff, Nat.reduceLeDiff, reduceIte, Nat.reduceLT, or_self, true_or, or_true, if_true, if_false, and_self, and_true, true_and, not_false_eq_true, not_true_eq_false, fd_Mo_layEntry_117, fd_Mo_layEntry_119, fd_Mo_layEntry_120, fd_Mo_layEntry_121]
        simp only [lc_lt]
        by_cases ev : e.2.2 < 0
        · have ez : zf e.2.2 = -1 - e.2.2 * 2 := by unfold zf; rw [if_pos ev]
          simp only [ev, am_wp, am_stp, am_en, am_as, am_pad, am_nth, am_set, am_st1, am_st2, am_kl, am_kill, am_mem, am_fv, am_tk, am_wt, am_bk, Option.toList, List.cons_append, List.nil_append, Nat.reduceAdd, Nat.reduceEqDiff, Nat.reduceLeDiff, reduceIte, Nat.reduceLT, or_self, true_or, or_true, if_true, if_false, and_self, and_true, true_and, not_false_eq_true, not_true_eq_false]
          refine am_go [143] 5 ?_
          simp only [am_wp, am_stp, am_en, am_as, am_pad, am_nth, am_set, am_st1, am_st2, am_kl, am_kill, am_mem, am_fv, am_tk, am_wt, am_bk, Option.toList, List.cons_append, List.nil_append, Nat.reduceAdd, Nat.reduceEqDiff, Nat.reduceLeDiff, reduceIte, Nat.reduceLT, or_self, true_or, or_true, if_true, if_false, and_self, and_true, true_and, not_false_eq_true, not_true_eq_false, fd_Mo_layEntry_133, fd_Mo_layEntry_136, fd_Mo_layEntry_138, fd_Mo_layEntry_141, fd_Mo_layEntry_142]
          exact fin _ ez.symm
        · have ez : zf e.2.2 = e.2.2 * 2 := by unfold zf; rw [if_neg ev]
          simp only [ev, am_wp, am_stp, am_en, am_as, am_pad, am_nth, am_set, am_st1, am_st2, am_kl, am_kill, am_mem, am_fv, am_tk, am_wt, am_bk, Option.toList, List.cons_append, List.nil_append, Nat.reduceAdd, Nat.reduceEqDiff, Nat.reduceLeDiff, reduceIte, Nat.reduceLT, or_self, true_or, or_true, if_true, if_false, and_self, and_true, true_and, not_false_eq_true, not_true_eq_false]
          refine am_go [143] 4 ?_
          simp only [am_wp, am_stp, am_en, am_as, am_pad, am_nth, am_set, am_st1, am_st2, am_kl, am_kill, am_mem, am_fv, am_tk, am_wt, am_bk, Option.toList, List.cons_append, List.nil_append, Nat.reduceAdd, Nat.reduceEqDiff, Nat.reduceLeDiff, reduceIte, Nat.reduceLT, or_self, true_or, or_true, if_true, if_false, and_self, and_true, true_and, not_false_eq_true, not_true_eq_false, fd_Mo_layEntry_124, fd_Mo_layEntry_126, fd_Mo_layEntry_129, fd_Mo_layEntry_130]
          exact fin _ ez.symm
  refine am_go [7, 11] 4 ?_
  simp only [am_wp, am_stp, am_en, am_as, am_pad, am_nth, am_set, am_st1, am_st2, am_kl, am_kill, am_mem, am_fv, am_tk, am_wt, am_bk, Option.toList, List.cons_append, List.nil_append, Nat.reduceAdd, Nat.reduceEqDiff, Nat.reduceLeDiff, reduceIte, Nat.reduceLT, or_self, true_or, or_true, if_true, if_false, and_self, and_true, true_and, not_false_eq_true, not_true_eq_false, fd_Mo_layEntry_0, fd_Mo_layEntry_1, fd_Mo_layEntry_3, fd_Mo_layEntry_4]
  rcases id hs with ⟨rfl, rfl⟩ | ⟨rfl, h0, hsk⟩
  · have one0 : ¬ (1 : Int32) = 0 := by decide
    simp only [one0, am_wp, am_stp, am_en, am_as, am_pad, am_nth, am_set, am_st1, am_st2, am_kl, am_kill, am_mem, am_fv, am_tk, am_wt, am_bk, Option.toList, List.cons_append, List.nil_append, Nat.reduceAdd, Nat.reduceEqDiff, Nat.reduceLeDiff, reduceIte, Nat.reduceLT, or_self, true_or, or_true, if_true, if_false, and_self, and_true, true_and, not_false_eq_true, not_true_eq_false]
    refine am_go [28] 2 ?_
    simp only [am_wp, am_stp, am_en, am_as, am_pad, am_nth, am_set, am_st1, am_st2, am_kl, am_kill, am_mem, am_fv, am_tk, am_wt, am_bk, Option.toList, List.cons_append, List.nil_append, Nat.reduceAdd, Nat.reduceEqDiff, Nat.reduceLeDiff, reduceIte, Nat.reduceLT, or_self, true_or, or_true, if_true, if_false, and_self, and_true, true_and, not_false_eq_true, not_true_eq_false, fd_Mo_layEntry_7, fd_Mo_layEntry_8]
    exact rest
  · obtain ⟨j, rfl⟩ : ∃ j, i = j + 1 := ⟨i - 1, by omega⟩
    have em : nI (j + 1) - 1 = nI j := nI_pred j
    have i2 := am_inb (c := j) (N := 45000) (by omega) (by omega)
    have q2 : (nI j).toNatClampNeg = j := nI_clamp (by omega)
    have i3 : (nI (j + 1) < 0 ∨ 44999 ≤ j) = False := eq_false (fun q => by rcases q with q | q; exact nI_pos (by omega) q; omega)
    rw [Nat.add_sub_cancel] at hsk
    simp only [am_wp, am_stp, am_en, am_as, am_pad, am_nth, am_set, am_st1, am_st2, am_kl, am_kill, am_mem, am_fv, am_tk, am_wt, am_bk, Option.toList, List.cons_append, List.nil_append, Nat.reduceAdd, Nat.reduceEqDiff, Nat.reduceLeDiff, reduceIte, Nat.reduceLT, or_self, true_or, or_true, if_true, if_false, and_self, and_true, true_and, not_false_eq_true, not_true_eq_false]
    refine am_go [] 6 ?_
    simp only [am_wp, am_stp, am_en, am_as, am_pad, am_nth, am_set, am_st1, am_st2, am_kl, am_kill, am_mem, am_fv, am_tk, am_wt, am_bk, Option.toList, List.cons_append, List.nil_append, Nat.reduceAdd, Nat.reduceEqDiff, Nat.reduceLeDiff, reduceIte, Nat.reduceLT, or_self, true_or, or_true, if_true, if_false, and_self, and_true, true_and, not_false_eq_true, not_true_eq_false, fd_Mo_layEntry_11, fd_Mo_layEntry_12, fd_Mo_layEntry_15, fd_Mo_layEntry_16, fd_Mo_layEntry_17, fd_Mo_layEntry_18, k72, r32, k92, n92, em, i2, q2]
    refine am_go [] 5 ?_
    simp only [am_wp, am_stp, am_en, am_as, am_pad, am_nth, am_set, am_st1, am_st2, am_kl, am_kill, am_mem, am_fv, am_tk, am_wt, am_bk, Option.toList, List.cons_append, List.nil_append, Nat.reduceAdd, Nat.reduceEqDiff, Nat.reduceLeDiff, reduceIte, Nat.reduceLT, or_self, true_or, or_true, if_true, if_false, and_self, and_true, true_and, not_false_eq_true, not_true_eq_false, fd_Mo_layEntry_19, fd_Mo_layEntry_20, fd_Mo_layEntry_23, fd_Mo_layEntry_24, fd_Mo_layEntry_25, k72, r32, k92, n92, q1, i3, h1]
    refine am_call (l2_Mo_shared (d := d)) (fun o h4 z => ?_)
    obtain ⟨rfl, rfl⟩ := z
    rw [← hsk]
    simp only [am_wp, am_stp, am_en, am_as, am_pad, am_nth, am_set, am_st1, am_st2, am_kl, am_kill, am_mem, am_fv, am_tk, am_wt, am_bk, Option.toList, List.cons_append, List.nil_append, Nat.reduceAdd, Nat.reduceEqDiff, Nat.reduceLeDiff, reduceIte, Nat.reduceLT, or_self, true_or, or_true, if_true, if_false, and_self, and_true, true_and, not_false_eq_true, not_true_eq_false]
    exact rest
