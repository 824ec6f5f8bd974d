/-! A RUN COMES BELOW -/
theorem l2_be_page {d s p x5 : Nat} {M0 C G : List ent} {R : List ent} {h : am_H} {Q : am_O → am_H → Prop} (hM : M0.length ≤ 40000) (hMo : ∀ x ∈ M0, eo x) (hCo : ∀ x ∈ C, eo x) (hC : C.length < 60) (hG : G.length < 40000)
    (hx : ∀ g i Out, be_I h g M0 Out C → i ≤ M0.length → Out ++ mg (M0.drop i) R = G → am_Ex nm_pr (d + 1) mt_Mo_below (372, [.ref 72, .int (nI s), .int (nI M0.length), .int (nI i), .int (nI p), .int (nI x5), .int (nI C.length)], [], g) Q) : ∀ (rest pre : List ent) (i : Nat) (Out : List ent) (g : am_H), pre ++ rest = C → be_I h g M0 Out C → i ≤ M0.length → Out ++ mg (M0.drop i) (rest ++ R) = G →
    am_Ex nm_pr (d + 1) mt_Mo_below (121, [.ref 72, .int (nI s), .int (nI M0.length), .int (nI i), .int (nI p), .int (nI x5), .int (nI pre.length)], [], g) Q
  | [], pre, i, Out, g, hL, I, hi, hE => by
    have e : pre = C := by simpa using hL
    subst e
    have k72 := I.2.2.1.1.1
    have i35 := I.2.2.2.2.2
    have l1 : ¬ nI pre.length < nI pre.length := nI_nlt (Nat.le_refl _) (by omega)
    refine am_go [130, 372] 4 ?_
    simp only [am_wp, am_stp, am_en, am_as, am_pad, am_nth, am_set, am_st1, am_st2, am_kl, am_kill, am_mem, am_fv, am_tk, am_wt, am_bk, Option.toList, List.cons_append, List.nil_append, Nat.reduceAdd, Nat.reduceEqDiff, Nat.reduceLeDiff, reduceIte, Nat.reduceLT, or_self, true_or, or_true, if_true, if_false, and_self, and_true, true_and, not_false_eq_true, not_true_eq_false, fd_Mo_below_121, fd_Mo_below_123, fd_Mo_below_124, fd_Mo_below_127, k72, i35, l1]
    exact hx g i Out I hi hE
  | b :: rest, pre, i, Out, g, hL, I, hi, hE => by
    have k72 := I.2.2.1.1.1
    have i35 := I.2.2.2.2.2
    have hlen : pre.length < C.length := by rw [← hL]; simp
    have hget : C[pre.length]? = some b := by rw [← hL]; simp
    have l1 : nI pre.length < nI C.length := nI_lt hlen (by omega)
    refine am_go [130, 372] 4 ?_
    simp only [am_wp, am_stp, am_en, am_as, am_pad, am_nth, am_set, am_st1, am_st2, am_kl, am_kill, am_mem, am_fv, am_tk, am_wt, am_bk, Option.toList, List.cons_append, List.nil_append, Nat.reduceAdd, Nat.reduceEqDiff, Nat.reduceLeDiff, reduceIte, Nat.reduceLT, or_self, true_or, or_true, if_true, if_false, and_self, and_true, true_and, not_false_eq_true, not_true_eq_false, fd_Mo_below_121, fd_Mo_below_123, fd_Mo_below_124, fd_Mo_below_127, k72, i35, l1]
    refine l2_be_one hM hMo (hCo b (by rw [← hL]; simp)) hget hC hG I hi hE (fun g1 i1 Out1 I1 hi1 hE1 => ?_)
    refine am_go [121] 2 ?_
    simp only [am_wp, am_stp, am_en, am_as, am_pad, am_nth, am_set, am_st1, am_st2, am_kl, am_kill, am_mem, am_fv, am_tk, am_wt, am_bk, Option.toList, List.cons_append, List.nil_append, Nat.reduceAdd, Nat.reduceEqDiff, Nat.reduceLeDiff, reduceIte, Nat.reduceLT, or_self, true_or, or_true, if_true, if_false, and_self, and_true, true_and, not_false_eq_true, not_true_eq_false, fd_Mo_below_366, fd_Mo_below_369, nI_1]
    have := l2_be_page hM hMo hCo hC hG hx rest (pre ++ [b]) i1 Out1 g1 (by rw [← hL]; simp) I1 hi1 hE1
    have el' : (pre ++ [b]).length = pre.length + 1 := by simp
    rw [el'] at this
    exact this
/-- .. whatever was seen last -/
def be_0 (h g : am_H) (M0 Out : List ent) : Prop := am_fi [72, 92, 93, 94, 95, 96, 97, 98, 99, 100] h g ∧ (∀ j, j ≠ 6 → j ≠ 31 → j ≠ 35 → am_I g 72 j = am_I h 72 j) ∧ ky_S g Out ∧ tr_S g 98 99 100 M0
theorem be_I.z {h g : am_H} {M0 Out C : List ent} (I : be_I h g M0 Out C) : be_0 h g M0 Out := ⟨I.1, I.2.1, I.2.2.1, I.2.2.2.1⟩
theorem be_0.ky {h g g' : am_H} {M0 Out M : List ent} (I : be_0 h g M0 Out) (q : ky_P g g' M) : be_0 h g' M0 M := by
  obtain ⟨F, a1, a2, a3⟩ := I
  obtain ⟨F1, b1, b2⟩ := q
  exact ⟨F.trans (F1.sub (by simp)), fun j h1 h2 h3 => by rw [b1 j h2]; exact a1 j h1 h2 h3, b2, a3.fi F1 (by simp)⟩
/-- a run that can be read, in slot s -/
def rs_M (P : Nat) (h : am_H) (s : Nat) (ps : List (Nat × List ent)) : Prop := s < 100 ∧ am_I h 80 s = nI ps.length ∧ ps.length ≤ 1024 ∧ ∀ k q, ps[k]? = some q → am_I h 82 (1024 * s + k) = nI q.1 ∧ pg_M P h q.1 q.2
theorem l2_be_pages {d P s : Nat} {M0 G : List ent} {ps : List (Nat × List ent)} {h : am_H} {Q : am_O → am_H → Prop} (hP : P ≤ 1024) (hM : M0.length ≤ 40000) (hMo : ∀ x ∈ M0, eo x) (hR : rs_M P h s ps) (hG : G.length < 40000)
    (hx : ∀ g i Out w5 w6, be_0 h g M0 Out → i ≤ M0.length → Out ++ M0.drop i = G → am_Ex nm_pr (d + 2) mt_Mo_below (378, [.ref 72, .int (nI s), .int (nI M0.length), .int (nI i), .int (nI ps.length), w5, w6], [], g) Q) : ∀ (rest pre : List (Nat × List ent)) (i : Nat) (Out : List ent) (w5 w6 : Value) (g : am_H), pre ++ rest = ps → be_0 h g M0 Out → i ≤ M0.length → Out ++ mg (M0.drop i) (ch_E rest) = G →
    am_Ex nm_pr (d + 2) mt_Mo_below (64, [.ref 72, .int (nI s), .int (nI M0.length), .int (nI i), .int (nI pre.length), w5, w6], [], g) Q
  | [], pre, i, Out, w5, w6, g, hL, I, hi, hE => by
    obtain ⟨h1, h2, h3, h4⟩ := id hR
    have e : pre = ps := by simpa using hL
    subst e
    obtain ⟨k72, -, -, -, ⟨r18, k80, n80⟩, -⟩ := mo_sl_ I.2.2.1.1
    have i80 : am_I g 80 s = nI pre.length := by rw [I.1.2.2.2.2.2.2.1 80 (by simp)]; exact h2
    have iS := am_inb (c := s) (N := 100) (by omega) (by omega)
    have qS : (nI s).toNatClampNeg = s := nI_clamp (by omega)
    have l1 : ¬ nI pre.length < nI pre.length := nI_nlt (Nat.le_refl _) (by omega)
    refine am_go [75, 378] 6 ?_
    simp only [am_wp, am_stp, am_en, am_as, am_pad, am_nth, am_set, am_st1, am_st2, am_kl, am_kill, am_mem, am_fv, am_tk, am_wt, am_bk, Option.toList, List.cons_append, List.nil_append, Nat.reduceAdd, Nat.reduceEqDiff, Nat.reduceLeDiff, reduceIte, Nat.reduceLT, or_self, true_or, or_true, if_true, if_false, and_self, and_true, true_and, not_false_eq_true, not_true_eq_false, fd_Mo_below_64, fd_Mo_below_66, fd_Mo_below_67, fd_Mo_below_70, fd_Mo_below_71, fd_Mo_below_72, k72, r18, k80, n80, iS, qS, i80, l1]
    refine hx g i Out w5 w6 I hi ?_
    rw [← hE]
    show _ = Out ++ mg (M0.drop i) []
    rw [mg_nil]
  | q :: rest, pre, i, Out, w5, w6, g, hL, I, hi, hE => by
    obtain ⟨h1, h2, h3, h4⟩ := id hR
    obtain ⟨F, a1, a2, a3⟩ := id I
    obtain ⟨k72, -, -, -, ⟨r18, k80, n80⟩, -, ⟨r20, k82, n82⟩, -⟩ := mo_sl_ a2.1
    have hlen : pre.length < ps.length := by rw [← hL]; simp
    have hget : ps[pre.length]? = some q := by rw [← hL]; simp
    obtain ⟨p1, p2⟩ := h4 _ _ hget
    have i80 : am_I g 80 s = nI ps.length := by rw [F.2.2.2.2.2.2.1 80 (by simp)]; exact h2
    have i82 : am_I g 82 (1024 * s + pre.length) = nI q.1 := by rw [F.2.2.2.2.2.2.1 82 (by simp)]; exact p1
    have iS := am_inb (c := s) (N := 100) (by omega) (by omega)
    have qS : (nI s).toNatClampNeg = s := nI_clamp (by omega)
    have e1 : 1024 * nI s = nI (1024 * s) := (Int32.ofNat_mul 1024 s).symm
    have iB := am_inb (c := 1024 * s + pre.length) (N := 102400) (by omega) (by omega)
    have qB : (nI (1024 * s + pre.length)).toNatClampNeg = 1024 * s + pre.length := nI_clamp (by omega)
    have l1 : nI pre.length < nI ps.length := nI_lt hlen (by omega)
    have one0 : ¬ (1 : Int32) = 0 := by decide
    refine am_go [75, 378] 6 ?_
    simp only [am_wp, am_stp, am_en, am_as, am_pad, am_nth, am_set, am_st1, am_st2, am_kl, am_kill, am_mem, am_fv, am_tk, am_wt, am_bk, Option.toList, List.cons_append, List.nil_append, Nat.reduceAdd, Nat.reduceEqDiff, Nat.reduceLeDiff, reduceIte, Nat.reduceLT, or_self, true_or, or_true, if_true, if_false, and_self, and_true, true_and, not_false_eq_true, not_true_eq_false, fd_Mo_below_64, fd_Mo_below_66, fd_Mo_below_67, fd_Mo_below_70, fd_Mo_below_71, fd_Mo_below_72, k72, r18, k80, n80, iS, qS, i80, l1]
    refine am_go [] 9 ?_
    simp only [am_wp, am_stp, am_en, am_as, am_pad, am_nth, am_set, am_st1, am_st2, am_kl, am_kill, am_mem, am_fv, am_tk, am_wt, am_bk, Option.toList, List.cons_append, List.nil_append, Nat.reduceAdd, Nat.reduceEqDiff, Nat.reduceLeDiff, reduceIte, Nat.reduceLT, or_self, true_or, or_true, if_true, if_false, and_self, and_true, true_and, not_false_eq_true, not_true_eq_false, fd_Mo_below_75, fd_Mo_below_76, fd_Mo_below_79, fd_Mo_below_82, fd_Mo_below_83, fd_Mo_below_84, fd_Mo_below_86, fd_Mo_below_87, fd_Mo_below_88, k72, r20, e1, nI_add, k82, n82, iB, qB, i82]
    refine am_go [] 6 ?_
    simp only [am_wp, am_stp, am_en, am_as, am_pad, am_nth, am_set, am_st1, am_st2, am_kl, am_kill, am_mem, am_fv, am_tk, am_wt, am_bk, Option.toList, List.cons_append, List.nil_append, Nat.reduceAdd, Nat.reduceEqDiff, Nat.reduceLeDiff, reduceIte, Nat.reduceLT, or_self, true_or, or_true, if_true, if_false, and_self, and_true, true_and, not_false_eq_true, not_true_eq_false, fd_Mo_below_90, fd_Mo_below_91, fd_Mo_below_92, fd_Mo_below_95, fd_Mo_below_96, fd_Mo_below_97, k72]
    have F1 : am_fi [72] g (am_sI g 72 6 (am_I g 72 6 + 1)) := am_fi.refl.sI (by simp)
    have v1 : ∀ j, j ≠ 6 → am_I (am_sI g 72 6 (am_I g 72 6 + 1)) 72 j = am_I g 72 j := fun j hj => by simp only [hx_nx_sI, hx_ce_sI, hx_sl_sI, hx_kd_sI, hx_ln_sI, hx_I_sI, hx_L_sI, hx_R_sI, hx_nx_sL, hx_ce_sL, hx_sl_sL, hx_kd_sL, hx_ln_sL, hx_I_sL, hx_L_sL, hx_R_sL, hx_nx_sR, hx_ce_sR, hx_sl_sR, hx_kd_sR, hx_ln_sR, hx_I_sR, hx_L_sR, hx_R_sR, hx_nx_al, hx_ce_al, hx_sl_al, hx_kd_al, hx_ln_al, hx_I_al, hx_L_al, hx_R_al, hx_nx_row, hx_ce_row, hx_sl_row, hx_kd_row, hx_ln_row, hx_I_row, hx_L_row, hx_R_row, hx_nx_mk, hx_kd_mk, hx_ln_mk, hx_I_mk, hx_L_mk, hx_R_mk, am_wp, am_stp, am_en, am_as, am_pad, am_nth, am_set, am_st1, am_st2, am_kl, am_kill, am_mem, am_fv, am_tk, am_wt, am_bk, Option.toList, List.cons_append, List.nil_append, Nat.reduceAdd, Nat.reduceEqDiff, Nat.reduceLeDiff, reduceIte, Nat.reduceLT, or_self, true_or, or_true, if_true, if_false, and_self, and_true, true_and, not_false_eq_true, not_true_eq_false, hj]
    generalize am_sI g 72 6 (am_I g 72 6 + 1) = g1 at F1 v1 ⊢
    have I1 : be_0 h g1 M0 Out := ⟨F.trans (F1.sub (by simp)), fun j h1 h2 h3 => by rw [v1 j h1]; exact a1 j h1 h2 h3, ⟨a2.1.fi F1, by rw [v1 31 (by decide)]; exact a2.2.1, a2.2.2.1, a2.2.2.2.fi F1 (by simp)⟩, a3.fi F1 (by simp)⟩
    have hM1 : pg_M P g1 q.1 q.2 := p2.mono (fun j _ => congrFun (I1.1.2.2.2.2.2.2.1 73 (by simp)) _)
    have S1 := I1.2.2.1.1
    refine am_go [] 3 ?_
    simp only [am_wp, am_stp, am_en, am_as, am_pad, am_nth, am_set, am_st1, am_st2, am_kl, am_kill, am_mem, am_fv, am_tk, am_wt, am_bk, Option.toList, List.cons_append, List.nil_append, Nat.reduceAdd, Nat.reduceEqDiff, Nat.reduceLeDiff, reduceIte, Nat.reduceLT, or_self, true_or, or_true, if_true, if_false, and_self, and_true, true_and, not_false_eq_true, not_true_eq_false, fd_Mo_below_100, fd_Mo_below_101, fd_Mo_below_103, S1.1]
    have hq1024 : q.1 < 1024 := by have := p2.2.1; omega
    refine am_call (l2_Mo_isRight (d := d) S1.Pg hq1024) (fun o g2 z => ?_)
    obtain ⟨rfl, z⟩ := z
    rcases z with ⟨rfl, z⟩ | ⟨rfl, z⟩
    · simp only [am_wp, am_stp, am_en, am_as, am_pad, am_nth, am_set, am_st1, am_st2, am_kl, am_kill, am_mem, am_fv, am_tk, am_wt, am_bk, Option.toList, List.cons_append, List.nil_append, Nat.reduceAdd, Nat.reduceEqDiff, Nat.reduceLeDiff, reduceIte, Nat.reduceLT, or_self, true_or, or_true, if_true, if_false, and_self, and_true, true_and, not_false_eq_true, not_true_eq_false]
      refine am_go [109, 112] 1 ?_
      simp only [am_wp, am_stp, am_en, am_as, am_pad, am_nth, am_set, am_st1, am_st2, am_kl, am_kill, am_mem, am_fv, am_tk, am_wt, am_bk, Option.toList, List.cons_append, List.nil_append, Nat.reduceAdd, Nat.reduceEqDiff, Nat.reduceLeDiff, reduceIte, Nat.reduceLT, or_self, true_or, or_true, if_true, if_false, and_self, and_true, true_and, not_false_eq_true, not_true_eq_false, fd_Mo_below_106, one0]
      refine am_go [] 3 ?_
      simp only [am_wp, am_stp, am_en, am_as, am_pad, am_nth, am_set, am_st1, am_st2, am_kl, am_kill, am_mem, am_fv, am_tk, am_wt, am_bk, Option.toList, List.cons_append, List.nil_append, Nat.reduceAdd, Nat.reduceEqDiff, Nat.reduceLeDiff, reduceIte, Nat.reduceLT, or_self, true_or, or_true, if_true, if_false, and_self, and_true, true_and, not_false_eq_true, not_true_eq_false, fd_Mo_below_112, fd_Mo_below_113, fd_Mo_below_115, S1.1]
      refine am_call (l2_see (d := d + 1) S1 hP hM1) (fun o g3 z => ?_)
      obtain ⟨rfl, F3, b1, b2, b3⟩ := z
      simp only [am_wp, am_stp, am_en, am_as, am_pad, am_nth, am_set, am_st1, am_st2, am_kl, am_kill, am_mem, am_fv, am_tk, am_wt, am_bk, Option.toList, List.cons_append, List.nil_append, Nat.reduceAdd, Nat.reduceEqDiff, Nat.reduceLeDiff, reduceIte, Nat.reduceLT, or_self, true_or, or_true, if_true, if_false, and_self, and_true, true_and, not_false_eq_true, not_true_eq_false]
      refine am_go [121] 2 ?_
      simp only [am_wp, am_stp, am_en, am_as, am_pad, am_nth, am_set, am_st1, am_st2, am_kl, am_kill, am_mem, am_fv, am_tk, am_wt, am_bk, Option.toList, List.cons_append, List.nil_append, Nat.reduceAdd, Nat.reduceEqDiff, Nat.reduceLeDiff, reduceIte, Nat.reduceLT, or_self, true_or, or_true, if_true, if_false, and_self, and_true, true_and, not_false_eq_true, not_true_eq_false, fd_Mo_below_118, fd_Mo_below_119]
      obtain ⟨F2, c1, c2, c3⟩ := I1
      have I3 : be_I h g3 M0 Out q.2 := ⟨F2.trans (F3.sub (by simp)), fun j h1 h2 h3 => by rw [b1 j h3]; exact c1 j h1 h2 h3, ⟨c2.1.fi F3, by rw [b1 31 (by decide)]; exact c2.2.1, c2.2.2.1, c2.2.2.2.fi F3 (by simp)⟩, c3.fi F3 (by simp), b3, b2⟩
      refine l2_be_page (d := d + 1) (C := q.2) (R := ch_E rest) hM hMo p2.2.2.2.2.1 p2.2.2.2.1 hG (fun g4 i4 Out4 I4 hi4 hE4 => ?_) q.2 [] i Out g3 (by simp) I3 hi hE
      refine am_go [64] 2 ?_
      simp only [am_wp, am_stp, am_en, am_as, am_pad, am_nth, am_set, am_st1, am_st2, am_kl, am_kill, am_mem, am_fv, am_tk, am_wt, am_bk, Option.toList, List.cons_append, List.nil_append, Nat.reduceAdd, Nat.reduceEqDiff, Nat.reduceLeDiff, reduceIte, Nat.reduceLT, or_self, true_or, or_true, if_true, if_false, and_self, and_true, true_and, not_false_eq_true, not_true_eq_false, fd_Mo_below_372, fd_Mo_below_375, nI_1]
      have := l2_be_pages hP hM hMo hR hG hx rest (pre ++ [q]) i4 Out4 (.int (nI q.1)) (.int (nI q.2.length)) g4 (by rw [← hL]; simp) I4.z hi4 hE4
      have el' : (pre ++ [q]).length = pre.length + 1 := by simp
      rw [el'] at this
      exact this
    · exact absurd hM1.2.2.2.2.2.2.1 z
theorem l2_be_end {d s k : Nat} {M0 G : List ent} {w5 w6 : Value} {h : am_H} {Q : am_O → am_H → Prop} (hM : M0.length ≤ 40000) (hG : G.length < 40000) (hx : ∀ g, be_0 h g M0 G → Q (.inl (some (.int (-1)))) g) : ∀ (m i : Nat) (Out : List ent) (g : am_H), m + i = M0.length → be_0 h g M0 Out → Out ++ M0.drop i = G →
    am_Ex nm_pr (d + 1) mt_Mo_below (378, [.ref 72, .int (nI s), .int (nI M0.length), .int (nI i), .int (nI k), w5, w6], [], g) Q
  | 0, i, Out, g, hm, I, hE => by
    have e : i = M0.length := by omega
    subst e
    have l1 : ¬ nI M0.length < nI M0.length := nI_nlt (Nat.le_refl _) (by omega)
    have eO : Out = G := by simpa using hE
    subst eO
    refine am_go [383] 6 ?_
    simp only [am_wp, am_stp, am_en, am_as, am_pad, am_nth, am_set, am_st1, am_st2, am_kl, am_kill, am_mem, am_fv, am_tk, am_wt, am_bk, Option.toList, List.cons_append, List.nil_append, Nat.reduceAdd, Nat.reduceEqDiff, Nat.reduceLeDiff, reduceIte, Nat.reduceLT, or_self, true_or, or_true, if_true, if_false, and_self, and_true, true_and, not_false_eq_true, not_true_eq_false, fd_Mo_below_378, fd_Mo_below_379, fd_Mo_below_380, fd_Mo_below_394, fd_Mo_below_395, l1]
    exact hx g I
  | m + 1, i, Out, g, hm, I, hE => by
    obtain ⟨F, a1, a2, a3⟩ := id I
    have hi : i < M0.length := by omega
    have hd : M0.drop i = M0[i] :: M0.drop (i + 1) := List.drop_eq_getElem_cons hi
    rw [hd] at hE
    have hlo : Out.length < 40000 := by
      have := congrArg List.length hE
      simp only [List.length_append, List.length_cons] at this
      omega
    have l1 : nI i < nI M0.length := nI_lt hi (by omega)
    refine am_go [383, 394] 3 ?_
    simp only [am_wp, am_stp, am_en, am_as, am_pad, am_nth, am_set, am_st1, am_st2, am_kl, am_kill, am_mem, am_fv, am_tk, am_wt, am_bk, Option.toList, List.cons_append, List.nil_append, Nat.reduceAdd, Nat.reduceEqDiff, Nat.reduceLeDiff, reduceIte, Nat.reduceLT, or_self, true_or, or_true, if_true, if_false, and_self, and_true, true_and, not_false_eq_true, not_true_eq_false, fd_Mo_below_378, fd_Mo_below_379, fd_Mo_below_380, l1]
    refine am_go [] 3 ?_
    simp only [am_wp, am_stp, am_en, am_as, am_pad, am_nth, am_set, am_st1, am_st2, am_kl, am_kill, am_mem, am_fv, am_tk, am_wt, am_bk, Option.toList, List.cons_append, List.nil_append, Nat.reduceAdd, Nat.reduceEqDiff, Nat.reduceLeDiff, reduceIte, Nat.reduceLT, or_self, true_or, or_true, if_true, if_false, and_self, and_true, true_and, not_false_eq_true, not_true_eq_false, fd_Mo_below_383, fd_Mo_below_384, fd_Mo_below_385, a2.1.1]
    refine am_call (l2_copy (d := d) a2 hlo a3 (List.getElem?_eq_getElem hi) (by omega)) (fun o g1 z => ?_)
    obtain ⟨rfl, Q1⟩ := z
    simp only [am_wp, am_stp, am_en, am_as, am_pad, am_nth, am_set, am_st1, am_st2, am_kl, am_kill, am_mem, am_fv, am_tk, am_wt, am_bk, Option.toList, List.cons_append, List.nil_append, Nat.reduceAdd, Nat.reduceEqDiff, Nat.reduceLeDiff, reduceIte, Nat.reduceLT, or_self, true_or, or_true, if_true, if_false, and_self, and_true, true_and, not_false_eq_true, not_true_eq_false]
    refine am_go [378] 2 ?_
    simp only [am_wp, am_stp, am_en, am_as, am_pad, am_nth, am_set, am_st1, am_st2, am_kl, am_kill, am_mem, am_fv, am_tk, am_wt, am_bk, Option.toList, List.cons_append, List.nil_append, Nat.reduceAdd, Nat.reduceEqDiff, Nat.reduceLeDiff, reduceIte, Nat.reduceLT, or_self, true_or, or_true, if_true, if_false, and_self, and_true, true_and, not_false_eq_true, not_true_eq_false, fd_Mo_below_388, fd_Mo_below_391, nI_1]
    exact l2_be_end hM hG hx m (i + 1) _ g1 (by omega) (I.ky Q1) (by rw [← hE]; simp)
theorem take_snoc {α : Type} {l : List α} {i : Nat} {a : α} (h : l[i]? = some a) : l.take (i + 1) = l.take i ++ [a] := by
  rw [List.take_add_one, h]
  rfl
/-- the list is kept aside -/
theorem l2_be_copy {d s : Nat} {M : List ent} {w4 w5 w6 : Value} {h : am_H} {Q : am_O → am_H → Prop} (K : ky_S h M) (hx : ∀ g, am_fi [98, 99, 100] h g → tr_S g 98 99 100 M → am_Ex nm_pr d mt_Mo_below (54, [.ref 72, .int (nI s), .int (nI M.length), .int (nI M.length), w4, w5, w6], [], g) Q) : ∀ (m i : Nat) (g : am_H), m + i = M.length → am_fi [98, 99, 100] h g → tr_S g 98 99 100 (M.take i) →
    am_Ex nm_pr d mt_Mo_below (7, [.ref 72, .int (nI s), .int (nI M.length), .int (nI i), w4, w5, w6], [], g) Q
  | 0, i, g, hm, F, T => by
    have e : i = M.length := by omega
    subst e
    have hl := K.2.2.1
    have l1 : ¬ nI M.length < nI M.length := nI_nlt (Nat.le_refl _) (by omega)
    rw [List.take_length] at T
    refine am_go [12, 54] 3 ?_
    simp only [am_wp, am_stp, am_en, am_as, am_pad, am_nth, am_set, am_st1, am_st2, am_kl, am_kill, am_mem, am_fv, am_tk, am_wt, am_bk, Option.toList, List.cons_append, List.nil_append, Nat.reduceAdd, Nat.reduceEqDiff, Nat.reduceLeDiff, reduceIte, Nat.reduceLT, or_self, true_or, or_true, if_true, if_false, and_self, and_true, true_and, not_false_eq_true, not_true_eq_false, fd_Mo_below_7, fd_Mo_below_8, fd_Mo_below_9, l1]
    exact hx g F T
  | m + 1, i, g, hm, F, T => by
    obtain ⟨hS, i31, hl, T0⟩ := id K
    have G := hS.fi F
    obtain ⟨k72, r32, r33, r34, k92, n92, k93, n93, k94, n94⟩ := mo_ky G
    obtain ⟨⟨r39, k98, n98⟩, ⟨r40, k99, n99⟩, ⟨r41, k100, n100⟩, -⟩ := mo_ol G
    have hi : i < M.length := by omega
    have hget := List.getElem?_eq_getElem hi
    obtain ⟨t1, t2, t3⟩ := (T0.fi F (by simp)) i _ hget
    have l1 : nI i < nI M.length := nI_lt hi (by omega)
    have i1 := am_inb (c := i) (N := 45000) (by omega) (by omega)
    have q1 : (nI i).toNatClampNeg = i := nI_clamp (by omega)
    refine am_go [12, 54] 3 ?_
    simp only [am_wp, am_stp, am_en, am_as, am_pad, am_nth, am_set, am_st1, am_st2, am_kl, am_kill, am_mem, am_fv, am_tk, am_wt, am_bk, Option.toList, List.cons_append, List.nil_append, Nat.reduceAdd, Nat.reduceEqDiff, Nat.reduceLeDiff, reduceIte, Nat.reduceLT, or_self, true_or, or_true, if_true, if_false, and_self, and_true, true_and, not_false_eq_true, not_true_eq_false, fd_Mo_below_7, fd_Mo_below_8, fd_Mo_below_9, l1]
    refine am_go [] 8 ?_
    simp only [am_wp, am_stp, am_en, am_as, am_pad, am_nth, am_set, am_st1, am_st2, am_kl, am_kill, am_mem, am_fv, am_tk, am_wt, am_bk, Option.toList, List.cons_append, List.nil_append, Nat.reduceAdd, Nat.reduceEqDiff, Nat.reduceLeDiff, reduceIte, Nat.reduceLT, or_self, true_or, or_true, if_true, if_false, and_self, and_true, true_and, not_false_eq_true, not_true_eq_false, fd_Mo_below_12, fd_Mo_below_13, fd_Mo_below_16, fd_Mo_below_17, fd_Mo_below_18, fd_Mo_below_21, fd_Mo_below_22, fd_Mo_below_23, k72, r39, r32, k92, n92, i1, q1, t1, k98, n98]
    refine am_go [] 8 ?_
    simp only [am_wp, am_stp, am_en, am_as, am_pad, am_nth, am_set, am_st1, am_st2, am_kl, am_kill, am_mem, am_fv, am_tk, am_wt, am_bk, Option.toList, List.cons_append, List.nil_append, Nat.reduceAdd, Nat.reduceEqDiff, Nat.reduceLeDiff, reduceIte, Nat.reduceLT, or_self, true_or, or_true, if_true, if_false, and_self, and_true, true_and, not_false_eq_true, not_true_eq_false, fd_Mo_below_24, fd_Mo_below_25, fd_Mo_below_28, fd_Mo_below_29, fd_Mo_below_30, fd_Mo_below_33, fd_Mo_below_34, fd_Mo_below_35, hx_nx_sI, hx_ce_sI, hx_sl_sI, hx_kd_sI, hx_ln_sI, hx_I_sI, hx_L_sI, hx_R_sI, hx_nx_sL, hx_ce_sL, hx_sl_sL, hx_kd_sL, hx_ln_sL, hx_I_sL, hx_L_sL, hx_R_sL, hx_nx_sR, hx_ce_sR, hx_sl_sR, hx_kd_sR, hx_ln_sR, hx_I_sR, hx_L_sR, hx_R_sR, hx_nx_al, hx_ce_al, hx_sl_al, hx_kd_al, hx_ln_al, hx_I_al, hx_L_al, hx_R_al, hx_nx_row, hx_ce_row, hx_sl_row, hx_kd_row, hx_ln_row, hx_I_row, hx_L_row, hx_R_row, hx_nx_mk, hx_kd_mk, hx_ln_mk, hx_I_mk, hx_L_mk, hx_R_mk, k72, r40, r33, k93, n93, i1, q1, t2, k99, n99]
    refine am_go [7] 10 ?_
    simp only [am_wp, am_stp, am_en, am_as, am_pad, am_nth, am_set, am_st1, am_st2, am_kl, am_kill, am_mem, am_fv, am_tk, am_wt, am_bk, Option.toList, List.cons_append, List.nil_append, Nat.reduceAdd, Nat.reduceEqDiff, Nat.reduceLeDiff, reduceIte, Nat.reduceLT, or_self, true_or, or_true, if_true, if_false, and_self, and_true, true_and, not_false_eq_true, not_true_eq_false, fd_Mo_below_36, fd_Mo_below_37, fd_Mo_below_40, fd_Mo_below_41, fd_Mo_below_42, fd_Mo_below_45, fd_Mo_below_46, fd_Mo_below_47, fd_Mo_below_48, fd_Mo_below_51, hx_nx_sI, hx_ce_sI, hx_sl_sI, hx_kd_sI, hx_ln_sI, hx_I_sI, hx_L_sI, hx_R_sI, hx_nx_sL, hx_ce_sL, hx_sl_sL, hx_kd_sL, hx_ln_sL, hx_I_sL, hx_L_sL, hx_R_sL, hx_nx_sR, hx_ce_sR, hx_sl_sR, hx_kd_sR, hx_ln_sR, hx_I_sR, hx_L_sR, hx_R_sR, hx_nx_al, hx_ce_al, hx_sl_al, hx_kd_al, hx_ln_al, hx_I_al, hx_L_al, hx_R_al, hx_nx_row, hx_ce_row, hx_sl_row, hx_kd_row, hx_ln_row, hx_I_row, hx_L_row, hx_R_row, hx_nx_mk, hx_kd_mk, hx_ln_mk, hx_I_mk, hx_L_mk, hx_R_mk, k72, r41, r34, k94, n94, i1, q1, t3, k100, n100, nI_1]
    have hlt : (M.take i).length = i := by rw [List.length_take]; omega
    refine l2_be_copy K hx m (i + 1) _ (by omega) (((F.sL (by simp)).sI (by simp)).sL (by simp)) ?_
    rw [take_snoc hget]
    refine T.snoc (fun j hj => ?_) ?_ ?_ ?_
    · rw [hlt] at hj
      refine ⟨?_, ?_, ?_⟩
      · simp only [hx_nx_sI, hx_ce_sI, hx_sl_sI, hx_kd_sI, hx_ln_sI, hx_I_sI, hx_L_sI, hx_R_sI, hx_nx_sL, hx_ce_sL, hx_sl_sL, hx_kd_sL, hx_ln_sL, hx_I_sL, hx_L_sL, hx_R_sL, hx_nx_sR, hx_ce_sR, hx_sl_sR, hx_kd_sR, hx_ln_sR, hx_I_sR, hx_L_sR, hx_R_sR, hx_nx_al, hx_ce_al, hx_sl_al, hx_kd_al, hx_ln_al, hx_I_al, hx_L_al, hx_R_al, hx_nx_row, hx_ce_row, hx_sl_row, hx_kd_row, hx_ln_row, hx_I_row, hx_L_row, hx_R_row, hx_nx_mk, hx_kd_mk, hx_ln_mk, hx_I_mk, hx_L_mk, hx_R_mk, am_wp, am_stp, am_en, am_as, am_pad, am_nth, am_set, am_st1, am_st2, am_kl, am_kill, am_mem, am_fv, am_tk, am_wt, am_bk, Option.toList, List.cons_append, List.nil_append, Nat.reduceAdd, Nat.reduceEqDiff, Nat.reduceLeDiff, reduceIte, Nat.reduceLT, or_self, true_or, or_true, if_true, if_false, and_self, and_true, true_and, not_false_eq_true, not_true_eq_false]; rw [if_neg (by omega)]
      · simp only [hx_nx_sI, hx_ce_sI, hx_sl_sI, hx_kd_sI, hx_ln_sI, hx_I_sI, hx_L_sI, hx_R_sI, hx_nx_sL, hx_ce_sL, hx_sl_sL, hx_kd_sL, hx_ln_sL, hx_I_sL, hx_L_sL, hx_R_sL, hx_nx_sR, hx_ce_sR, hx_sl_sR, hx_kd_sR, hx_ln_sR, hx_I_sR, hx_L_sR, hx_R_sR, hx_nx_al, hx_ce_al, hx_sl_al, hx_kd_al, hx_ln_al, hx_I_al, hx_L_al, hx_R_al, hx_nx_row, hx_ce_row, hx_sl_row, hx_kd_row, hx_ln_row, hx_I_row, hx_L_row, hx_R_row, hx_nx_mk, hx_kd_mk, hx_ln_mk, hx_I_mk, hx_L_mk, hx_R_mk, am_wp, am_stp, am_en, am_as, am_pad, am_nth, am_set, am_st1, am_st2, am_kl, am_kill, am_mem, am_fv, am_tk, am_wt, am_bk, Option.toList, List.cons_append, List.nil_append, Nat.reduceAdd, Nat.reduceEqDiff, Nat.reduceLeDiff, reduceIte, Nat.reduceLT, or_self, true_or, or_true, if_true, if_false, and_self, and_true, true_and, not_false_eq_true, not_true_eq_false]; rw [if_neg (by omega)]
      · simp only [hx_nx_sI, hx_ce_sI, hx_sl_sI, hx_kd_sI, hx_ln_sI, hx_I_sI, hx_L_sI, hx_R_sI, hx_nx_sL, hx_ce_sL, hx_sl_sL, hx_kd_sL, hx_ln_sL, hx_I_sL, hx_L_sL, hx_R_sL, hx_nx_sR, hx_ce_sR, hx_sl_sR, hx_kd_sR, hx_ln_sR, hx_I_sR, hx_L_sR, hx_R_sR, hx_nx_al, hx_ce_al, hx_sl_al, hx_kd_al, hx_ln_al, hx_I_al, hx_L_al, hx_R_al, hx_nx_row, hx_ce_row, hx_sl_row, hx_kd_row, hx_ln_row, hx_I_row, hx_L_row, hx_R_row, hx_nx_mk, hx_kd_mk, hx_ln_mk, hx_I_mk, hx_L_mk, hx_R_mk, am_wp, am_stp, am_en, am_as, am_pad, am_nth, am_set, am_st1, am_st2, am_kl, am_kill, am_mem, am_fv, am_tk, am_wt, am_bk, Option.toList, List.cons_append, List.nil_append, Nat.reduceAdd, Nat.reduceEqDiff, Nat.reduceLeDiff, reduceIte, Nat.reduceLT, or_self, true_or, or_true, if_true, if_false, and_self, and_true, true_and, not_false_eq_true, not_true_eq_false]; rw [if_neg (by omega)]
    · rw [hlt]; simp only [hx_nx_sI, hx_ce_sI, hx_sl_sI, hx_kd_sI, hx_ln_sI, hx_I_sI, hx_L_sI, hx_R_sI, hx_nx_sL, hx_ce_sL, hx_sl_sL, hx_kd_sL, hx_ln_sL, hx_I_sL, hx_L_sL, hx_R_sL, hx_nx_sR, hx_ce_sR, hx_sl_sR, hx_kd_sR, hx_ln_sR, hx_I_sR, hx_L_sR, hx_R_sR, hx_nx_al, hx_ce_al, hx_sl_al, hx_kd_al, hx_ln_al, hx_I_al, hx_L_al, hx_R_al, hx_nx_row, hx_ce_row, hx_sl_row, hx_kd_row, hx_ln_row, hx_I_row, hx_L_row, hx_R_row, hx_nx_mk, hx_kd_mk, hx_ln_mk, hx_I_mk, hx_L_mk, hx_R_mk, am_wp, am_stp, am_en, am_as, am_pad, am_nth, am_set, am_st1, am_st2, am_kl, am_kill, am_mem, am_fv, am_tk, am_wt, am_bk, Option.toList, List.cons_append, List.nil_append, Nat.reduceAdd, Nat.reduceEqDiff, Nat.reduceLeDiff, reduceIte, Nat.reduceLT, or_self, true_or, or_true, if_true, if_false, and_self, and_true, true_and, not_false_eq_true, not_true_eq_false]
    · rw [hlt]; simp only [hx_nx_sI, hx_ce_sI, hx_sl_sI, hx_kd_sI, hx_ln_sI, hx_I_sI, hx_L_sI, hx_R_sI, hx_nx_sL, hx_ce_sL, hx_sl_sL, hx_kd_sL, hx_ln_sL, hx_I_sL, hx_L_sL, hx_R_sL, hx_nx_sR, hx_ce_sR, hx_sl_sR, hx_kd_sR, hx_ln_sR, hx_I_sR, hx_L_sR, hx_R_sR, hx_nx_al, hx_ce_al, hx_sl_al, hx_kd_al, hx_ln_al, hx_I_al, hx_L_al, hx_R_al, hx_nx_row, hx_ce_row, hx_sl_row, hx_kd_row, hx_ln_row, hx_I_row, hx_L_row, hx_R_row, hx_nx_mk, hx_kd_mk, hx_ln_mk, hx_I_mk, hx_L_mk, hx_R_mk, am_wp, am_stp, am_en, am_as, am_pad, am_nth, am_set, am_st1, am_st2, am_kl, am_kill, am_mem, am_fv, am_tk, am_wt, am_bk, Option.toList, List.cons_append, List.nil_append, Nat.reduceAdd, Nat.reduceEqDiff, Nat.reduceLeDiff, reduceIte, Nat.reduceLT, or_self, true_or, or_true, if_true, if_false, and_self, and_true, true_and, not_false_eq_true, not_true_eq_false]
    · rw [hlt]; simp only [hx_nx_sI, hx_ce_sI, hx_sl_sI, hx_kd_sI, hx_ln_sI, hx_I_sI, hx_L_sI, hx_R_sI, hx_nx_sL, hx_ce_sL, hx_sl_sL, hx_kd_sL, hx_ln_sL, hx_I_sL, hx_L_sL, hx_R_sL, hx_nx_sR, hx_ce_sR, hx_sl_sR, hx_kd_sR, hx_ln_sR, hx_I_sR, hx_L_sR, hx_R_sR, hx_nx_al, hx_ce_al, hx_sl_al, hx_kd_al, hx_ln_al, hx_I_al, hx_L_al, hx_R_al, hx_nx_row, hx_ce_row, hx_sl_row, hx_kd_row, hx_ln_row, hx_I_row, hx_L_row, hx_R_row, hx_nx_mk, hx_kd_mk, hx_ln_mk, hx_I_mk, hx_L_mk, hx_R_mk, am_wp, am_stp, am_en, am_as, am_pad, am_nth, am_set, am_st1, am_st2, am_kl, am_kill, am_mem, am_fv, am_tk, am_wt, am_bk, Option.toList, List.cons_append, List.nil_append, Nat.reduceAdd, Nat.reduceEqDiff, Nat.reduceLeDiff, reduceIte, Nat.reduceLT, or_self, true_or, or_true, if_true, if_false, and_self, and_true, true_and, not_false_eq_true, not_true_eq_false]
theorem l2_below {d P s : Nat} {M0 : List ent} {ps : List (Nat × List ent)} {h : am_H} (hP : P ≤ 1024) (K : ky_S h M0) (hMo : ∀ x ∈ M0, eo x) (hR : rs_M P h s ps) (hG : (mg M0 (ch_E ps)).length < 40000) : am_Rt nm_pr (d + 3) mi_Mo_below [.ref 72, .int (nI s)] h (fun o h' => o = .inl (some (.int (-1))) ∧ am_fi [72, 92, 93, 94, 95, 96, 97, 98, 99, 100] h h' ∧ (∀ j, j ≠ 6 → j ≠ 31 → j ≠ 35 → am_I h' 72 j = am_I h 72 j) ∧ ky_S h' (mg M0 (ch_E ps))) := by
  obtain ⟨hS, i31, hl, T⟩ := id K
  refine am_in' (d := d + 2) mt_Mo_below 7 rfl rfl rfl ?_
  refine am_go [7] 5 ?_
  simp only [am_wp, am_stp, am_en, am_as, am_pad, am_nth, am_set, am_st1, am_st2, am_kl, am_kill, am_mem, am_fv, am_tk, am_wt, am_bk, Option.toList, List.cons_append, List.nil_append, Nat.reduceAdd, Nat.reduceEqDiff, Nat.reduceLeDiff, reduceIte, Nat.reduceLT, or_self, true_or, or_true, if_true, if_false, and_self, and_true, true_and, not_false_eq_true, not_true_eq_false, fd_Mo_below_0, fd_Mo_below_1, fd_Mo_below_4, fd_Mo_below_5, fd_Mo_below_6, hS.1, i31]
  refine l2_be_copy K (fun g F T1 => ?_) M0.length 0 h (by omega) am_fi.refl (fun i e he => by simp at he)
  have G := hS.fi F
  refine am_go [64] 7 ?_
  simp only [am_wp, am_stp, am_en, am_as, am_pad, am_nth, am_set, am_st1, am_st2, am_kl, am_kill, am_mem, am_fv, am_tk, am_wt, am_bk, Option.toList, List.cons_append, List.nil_append, Nat.reduceAdd, Nat.reduceEqDiff, Nat.reduceLeDiff, reduceIte, Nat.reduceLT, or_self, true_or, or_true, if_true, if_false, and_self, and_true, true_and, not_false_eq_true, not_true_eq_false, fd_Mo_below_54, fd_Mo_below_55, fd_Mo_below_56, fd_Mo_below_59, fd_Mo_below_60, fd_Mo_below_61, fd_Mo_below_62, G.1]
  have F1 : am_fi [72] g (am_sI g 72 31 0) := am_fi.refl.sI (by simp)
  have v31 : am_I (am_sI g 72 31 0) 72 31 = nI 0 := by simp only [hx_nx_sI, hx_ce_sI, hx_sl_sI, hx_kd_sI, hx_ln_sI, hx_I_sI, hx_L_sI, hx_R_sI, hx_nx_sL, hx_ce_sL, hx_sl_sL, hx_kd_sL, hx_ln_sL, hx_I_sL, hx_L_sL, hx_R_sL, hx_nx_sR, hx_ce_sR, hx_sl_sR, hx_kd_sR, hx_ln_sR, hx_I_sR, hx_L_sR, hx_R_sR, hx_nx_al, hx_ce_al, hx_sl_al, hx_kd_al, hx_ln_al, hx_I_al, hx_L_al, hx_R_al, hx_nx_row, hx_ce_row, hx_sl_row, hx_kd_row, hx_ln_row, hx_I_row, hx_L_row, hx_R_row, hx_nx_mk, hx_kd_mk, hx_ln_mk, hx_I_mk, hx_L_mk, hx_R_mk, am_wp, am_stp, am_en, am_as, am_pad, am_nth, am_set, am_st1, am_st2, am_kl, am_kill, am_mem, am_fv, am_tk, am_wt, am_bk, Option.toList, List.cons_append, List.nil_append, Nat.reduceAdd, Nat.reduceEqDiff, Nat.reduceLeDiff, reduceIte, Nat.reduceLT, or_self, true_or, or_true, if_true, if_false, and_self, and_true, true_and, not_false_eq_true, not_true_eq_false]; rfl
  have vj : ∀ j, j ≠ 31 → am_I (am_sI g 72 31 0) 72 j = am_I g 72 j := fun j hj => by simp only [hx_nx_sI, hx_ce_sI, hx_sl_sI, hx_kd_sI, hx_ln_sI, hx_I_sI, hx_L_sI, hx_R_sI, hx_nx_sL, hx_ce_sL, hx_sl_sL, hx_kd_sL, hx_ln_sL, hx_I_sL, hx_L_sL, hx_R_sL, hx_nx_sR, hx_ce_sR, hx_sl_sR, hx_kd_sR, hx_ln_sR, hx_I_sR, hx_L_sR, hx_R_sR, hx_nx_al, hx_ce_al, hx_sl_al, hx_kd_al, hx_ln_al, hx_I_al, hx_L_al, hx_R_al, hx_nx_row, hx_ce_row, hx_sl_row, hx_kd_row, hx_ln_row, hx_I_row, hx_L_row, hx_R_row, hx_nx_mk, hx_kd_mk, hx_ln_mk, hx_I_mk, hx_L_mk, hx_R_mk, am_wp, am_stp, am_en, am_as, am_pad, am_nth, am_set, am_st1, am_st2, am_kl, am_kill, am_mem, am_fv, am_tk, am_wt, am_bk, Option.toList, List.cons_append, List.nil_append, Nat.reduceAdd, Nat.reduceEqDiff, Nat.reduceLeDiff, reduceIte, Nat.reduceLT, or_self, true_or, or_true, if_true, if_false, and_self, and_true, true_and, not_false_eq_true, not_true_eq_false, hj]
  generalize am_sI g 72 31 0 = g1 at F1 v31 vj ⊢
  have i72 : am_I g 72 = am_I h 72 := F.2.2.2.2.2.2.1 72 (by simp)
  have I1 : be_0 h g1 M0 [] := ⟨(F.sub (by simp)).trans (F1.sub (by simp)), fun j _ h2 _ => by rw [vj j h2, i72], ⟨G.fi F1, v31, by simp, fun i e he => by simp at he⟩, T1.fi F1 (by simp)⟩
  refine l2_be_pages (d := d) (G := mg M0 (ch_E ps)) hP hl hMo hR hG (fun g2 i Out w5 w6 I2 hi hE => ?_) ps [] 0 [] _ _ g1 (by simp) I1 (Nat.zero_le _) (by simp)
  refine l2_be_end (d := d + 1) hl hG (fun g3 I3 => ?_) (M0.length - i) i Out g2 (by omega) I2 hE
  exact ⟨rfl, I3.1, I3.2.1, I3.2.2.1⟩
/-! RIPE -/
theorem l2_ri_copy {d : Nat} {f : Int32} {M : List ent} {h : am_H} {Q : am_O → am_H → Prop} (K : ky_S h M) (hx : ∀ g, am_fi [101, 102, 103] h g → tr_S g 101 102 103 M → am_Ex nm_pr d mt_Mo_ripe (54, [.ref 72, .int f, .int (nI M.length), .int (nI M.length)], [], g) Q) : ∀ (m i : Nat) (g : am_H), m + i = M.length → am_fi [101, 102, 103] h g → tr_S g 101 102 103 (M.take i) →
    am_Ex nm_pr d mt_Mo_ripe (7, [.ref 72, .int f, .int (nI M.length), .int (nI i)], [], g) Q
  | 0, i, g, hm, F, T => by
    have e : i = M.length := by omega
    subst e
    have hl := K.2.2.1
    have l1 : ¬ nI M.length < nI M.length := nI_nlt (Nat.le_refl _) (by omega)
    rw [List.take_length] at T
    refine am_go [12, 54] 3 ?_
    simp only [am_wp, am_stp, am_en, am_as, am_pad, am_nth, am_set, am_st1, am_st2, am_kl, am_kill, am_mem, am_fv, am_tk, am_wt, am_bk, Option.toList, List.cons_append, List.nil_append, Nat.reduceAdd, Nat.reduceEqDiff, Nat.reduceLeDiff, reduceIte, Nat.reduceLT, or_self, true_or, or_true, if_true, if_false, and_self, and_true, true_and, not_false_eq_true, not_true_eq_false, fd_Mo_ripe_7, fd_Mo_ripe_8, fd_Mo_ripe_9, l1]
    exact hx g F T
  | m + 1, i, g, hm, F, T => by
    obtain ⟨hS, i31, hl, T0⟩ := id K
    have G := hS.fi F
    obtain ⟨k72, r32, r33, r34, k92, n92, k93, n93, k94, n94⟩ := mo_ky G
    obtain ⟨-, -, -, ⟨r42, k101, n101⟩, ⟨r43, k102, n102⟩, ⟨r44, k103, n103⟩⟩ := mo_ol G
    have hi : i < M.length := by omega
    have hget := List.getElem?_eq_getElem hi
    obtain ⟨t1, t2, t3⟩ := (T0.fi F (by simp)) i _ hget
    have l1 : nI i < nI M.length := nI_lt hi (by omega)
    have i1 := am_inb (c := i) (N := 45000) (by omega) (by omega)
    have q1 : (nI i).toNatClampNeg = i := nI_clamp (by omega)
    refine am_go [12, 54] 3 ?_
    simp only [am_wp, am_stp, am_en, am_as, am_pad, am_nth, am_set, am_st1, am_st2, am_kl, am_kill, am_mem, am_fv, am_tk, am_wt, am_bk, Option.toList, List.cons_append, List.nil_append, Nat.reduceAdd, Nat.reduceEqDiff, Nat.reduceLeDiff, reduceIte, Nat.reduceLT, or_self, true_or, or_true, if_true, if_false, and_self, and_true, true_and, not_false_eq_true, not_true_eq_false, fd_Mo_ripe_7, fd_Mo_ripe_8, fd_Mo_ripe_9, l1]
    refine am_go [] 8 ?_
    simp only [am_wp, am_stp, am_en, am_as, am_pad, am_nth, am_set, am_st1, am_st2, am_kl, am_kill, am_mem, am_fv, am_tk, am_wt, am_bk, Option.toList, List.cons_append, List.nil_append, Nat.reduceAdd, Nat.reduceEqDiff, Nat.reduceLeDiff, reduceIte, Nat.reduceLT, or_self, true_or, or_true, if_true, if_false, and_self, and_true, true_and, not_false_eq_true, not_true_eq_false, fd_Mo_ripe_12, fd_Mo_ripe_13, fd_Mo_ripe_16, fd_Mo_ripe_17, fd_Mo_ripe_18, fd_Mo_ripe_21, fd_Mo_ripe_22, fd_Mo_ripe_23, k72, r42, r32, k92, n92, i1, q1, t1, k101, n101]
    refine am_go [] 8 ?_
    simp only [am_wp, am_stp, am_en, am_as, am_pad, am_nth, am_set, am_st1, am_st2, am_kl, am_kill, am_mem, am_fv, am_tk, am_wt, am_bk, Option.toList, List.cons_append, List.nil_append, Nat.reduceAdd, Nat.reduceEqDiff, Nat.reduceLeDiff, reduceIte, Nat.reduceLT, or_self, true_or, or_true, if_true, if_false, and_self, and_true, true_and, not_false_eq_true, not_true_eq_false, fd_Mo_ripe_24, fd_Mo_ripe_25, fd_Mo_ripe_28, fd_Mo_ripe_29, fd_Mo_ripe_30, fd_Mo_ripe_33, fd_Mo_ripe_34, fd_Mo_ripe_35, hx_nx_sI, hx_ce_sI, hx_sl_sI, hx_kd_sI, hx_ln_sI, hx_I_sI, hx_L_sI, hx_R_sI, hx_nx_sL, hx_ce_sL, hx_sl_sL, hx_kd_sL, hx_ln_sL, hx_I_sL, hx_L_sL, hx_R_sL, hx_nx_sR, hx_ce_sR, hx_sl_sR, hx_kd_sR, hx_ln_sR, hx_I_sR, hx_L_sR, hx_R_sR, hx_nx_al, hx_ce_al, hx_sl_al, hx_kd_al, hx_ln_al, hx_I_al, hx_L_al, hx_R_al, hx_nx_row, hx_ce_row, hx_sl_row, hx_kd_row, hx_ln_row, hx_I_row, hx_L_row, hx_R_row, hx_nx_mk, hx_kd_mk, hx_ln_mk, hx_I_mk, hx_L_mk, hx_R_mk, k72, r43, r33, k93, n93, i1, q1, t2, k102, n102]
    refine am_go [7] 10 ?_
    simp only [am_wp, am_stp, am_en, am_as, am_pad, am_nth, am_set, am_st1, am_st2, am_kl, am_kill, am_mem, am_fv, am_tk, am_wt, am_bk, Option.toList, List.cons_append, List.nil_append, Nat.reduceAdd, Nat.reduceEqDiff, Nat.reduceLeDiff, reduceIte, Nat.reduceLT, or_self, true_or, or_true, if_true, if_false, and_self, and_true, true_and, not_false_eq_true, not_true_eq_false, fd_Mo_ripe_36, fd_Mo_ripe_37, fd_Mo_ripe_40, fd_Mo_ripe_41, fd_Mo_ripe_42, fd_Mo_ripe_45, fd_Mo_ripe_46, fd_Mo_ripe_47, fd_Mo_ripe_48, fd_Mo_ripe_51, hx_nx_sI, hx_ce_sI, hx_sl_sI, hx_kd_sI, hx_ln_sI, hx_I_sI, hx_L_sI, hx_R_sI, hx_nx_sL, hx_ce_sL, hx_sl_sL, hx_kd_sL, hx_ln_sL, hx_I_sL, hx_L_sL, hx_R_sL, hx_nx_sR, hx_ce_sR, hx_sl_sR, hx_kd_sR, hx_ln_sR, hx_I_sR, hx_L_sR, hx_R_sR, hx_nx_al, hx_ce_al, hx_sl_al, hx_kd_al, hx_ln_al, hx_I_al, hx_L_al, hx_R_al, hx_nx_row, hx_ce_row, hx_sl_row, hx_kd_row, hx_ln_row, hx_I_row, hx_L_row, hx_R_row, hx_nx_mk, hx_kd_mk, hx_ln_mk, hx_I_mk, hx_L_mk, hx_R_mk, k72, r44, r34, k94, n94, i1, q1, t3, k103, n103, nI_1]
    have hlt : (M.take i).length = i := by rw [List.length_take]; omega
    refine l2_ri_copy K hx m (i + 1) _ (by omega) (((F.sL (by simp)).sI (by simp)).sL (by simp)) ?_
    rw [take_snoc hget]
    refine T.snoc (fun j hj => ?_) ?_ ?_ ?_
    · rw [hlt] at hj
      refine ⟨?_, ?_, ?_⟩
      · simp only [hx_nx_sI, hx_ce_sI, hx_sl_sI, hx_kd_sI, hx_ln_sI, hx_I_sI, hx_L_sI, hx_R_sI, hx_nx_sL, hx_ce_sL, hx_sl_sL, hx_kd_sL, hx_ln_sL, hx_I_sL, hx_L_sL, hx_R_sL, hx_nx_sR, hx_ce_sR, hx_sl_sR, hx_kd_sR, hx_ln_sR, hx_I_sR, hx_L_sR, hx_R_sR, hx_nx_al, hx_ce_al, hx_sl_al, hx_kd_al, hx_ln_al, hx_I_al, hx_L_al, hx_R_al, hx_nx_row, hx_ce_row, hx_sl_row, hx_kd_row, hx_ln_row, hx_I_row, hx_L_row, hx_R_row, hx_nx_mk, hx_kd_mk, hx_ln_mk, hx_I_mk, hx_L_mk, hx_R_mk, am_wp, am_stp, am_en, am_as, am_pad, am_nth, am_set, am_st1, am_st2, am_kl, am_kill, am_mem, am_fv, am_tk, am_wt, am_bk, Option.toList, List.cons_append, List.nil_append, Nat.reduceAdd, Nat.reduceEqDiff, Nat.reduceLeDiff, reduceIte, Nat.reduceLT, or_self, true_or, or_true, if_true, if_false, and_self, and_true, true_and, not_false_eq_true, not_true_eq_false]; rw [if_neg (by omega)]
      · simp only [hx_nx_sI, hx_ce_sI, hx_sl_sI, hx_kd_sI, hx_ln_sI, hx_I_sI, hx_L_sI, hx_R_sI, hx_nx_sL, hx_ce_sL, hx_sl_sL, hx_kd_sL, hx_ln_sL, hx_I_sL, hx_L_sL, hx_R_sL, hx_nx_sR, hx_ce_sR, hx_sl_sR, hx_kd_sR, hx_ln_sR, hx_I_sR, hx_L_sR, hx_R_sR, hx_nx_al, hx_ce_al, hx_sl_al, hx_kd_al, hx_ln_al, hx_I_al, hx_L_al, hx_R_al, hx_nx_row, hx_ce_row, hx_sl_row, hx_kd_row, hx_ln_row, hx_I_row, hx_L_row, hx_R_row, hx_nx_mk, hx_kd_mk, hx_ln_mk, hx_I_mk, hx_L_mk, hx_R_mk, am_wp, am_stp, am_en, am_as, am_pad, am_nth, am_set, am_st1, am_st2, am_kl, am_kill, am_mem, am_fv, am_tk, am_wt, am_bk, Option.toList, List.cons_append, List.nil_append, Nat.reduceAdd, Nat.reduceEqDiff, Nat.reduceLeDiff, reduceIte, Nat.reduceLT, or_self, true_or, or_true, if_true, if_false, and_self, and_true, true_and, not_false_eq_true, not_true_eq_false]; rw [if_neg (by omega)]
      · simp only [hx_nx_sI, hx_ce_sI, hx_sl_sI, hx_kd_sI, hx_ln_sI, hx_I_sI, hx_L_sI, hx_R_sI, hx_nx_sL, hx_ce_sL, hx_sl_sL, hx_kd_sL, hx_ln_sL, hx_I_sL, hx_L_sL, hx_R_sL, hx_nx_sR, hx_ce_sR, hx_sl_sR, hx_kd_sR, hx_ln_sR, hx_I_sR, hx_L_sR, hx_R_sR, hx_nx_al, hx_ce_al, hx_sl_al, hx_kd_al, hx_ln_al, hx_I_al, hx_L_al, hx_R_al, hx_nx_row, hx_ce_row, hx_sl_row, hx_kd_row, hx_ln_row, hx_I_row, hx_L_row, hx_R_row, hx_nx_mk, hx_kd_mk, hx_ln_mk, hx_I_mk, hx_L_mk, hx_R_mk, am_wp, am_stp, am_en, am_as, am_pad, am_nth, am_set, am_st1, am_st2, am_kl, am_kill, am_mem, am_fv, am_tk, am_wt, am_bk, Option.toList, List.cons_append, List.nil_append, Nat.reduceAdd, Nat.reduceEqDiff, Nat.reduceLeDiff, reduceIte, Nat.reduceLT, or_self, true_or, or_true, if_true, if_false, and_self, and_true, true_and, not_false_eq_true, not_true_eq_false]; rw [if_neg (by omega)]
    · rw [hlt]; simp only [hx_nx_sI, hx_ce_sI, hx_sl_sI, hx_kd_sI, hx_ln_sI, hx_I_sI, hx_L_sI, hx_R_sI, hx_nx_sL, hx_ce_sL, hx_sl_sL, hx_kd_sL, hx_ln_sL, hx_I_sL, hx_L_sL, hx_R_sL, hx_nx_sR, hx_ce_sR, hx_sl_sR, hx_kd_sR, hx_ln_sR, hx_I_sR, hx_L_sR, hx_R_sR, hx_nx_al, hx_ce_al, hx_sl_al, hx_kd_al, hx_ln_al, hx_I_al, hx_L_al, hx_R_al, hx_nx_row, hx_ce_row, hx_sl_row, hx_kd_row, hx_ln_row, hx_I_row, hx_L_row, hx_R_row, hx_nx_mk, hx_kd_mk, hx_ln_mk, hx_I_mk, hx_L_mk, hx_R_mk, am_wp, am_stp, am_en, am_as, am_pad, am_nth, am_set, am_st1, am_st2, am_kl, am_kill, am_mem, am_fv, am_tk, am_wt, am_bk, Option.toList, List.cons_append, List.nil_append, Nat.reduceAdd, Nat.reduceEqDiff, Nat.reduceLeDiff, reduceIte, Nat.reduceLT, or_self, true_or, or_true, if_true, if_false, and_self, and_true, true_and, not_false_eq_true, not_true_eq_false]
    · rw [hlt]; simp only [hx_nx_sI, hx_ce_sI, hx_sl_sI, hx_kd_sI, hx_ln_sI, hx_I_sI, hx_L_sI, hx_R_sI, hx_nx_sL, hx_ce_sL, hx_sl_sL, hx_kd_sL, hx_ln_sL, hx_I_sL, hx_L_sL, hx_R_sL, hx_nx_sR, hx_ce_sR, hx_sl_sR, hx_kd_sR, hx_ln_sR, hx_I_sR, hx_L_sR, hx_R_sR, hx_nx_al, hx_ce_al, hx_sl_al, hx_kd_al, hx_ln_al, hx_I_al, hx_L_al, hx_R_al, hx_nx_row, hx_ce_row, hx_sl_row, hx_kd_row, hx_ln_row, hx_I_row, hx_L_row, hx_R_row, hx_nx_mk, hx_kd_mk, hx_ln_mk, hx_I_mk, hx_L_mk, hx_R_mk, am_wp, am_stp, am_en, am_as, am_pad, am_nth, am_set, am_st1, am_st2, am_kl, am_kill, am_mem, am_fv, am_tk, am_wt, am_bk, Option.toList, List.cons_append, List.nil_append, Nat.reduceAdd, Nat.reduceEqDiff, Nat.reduceLeDiff, reduceIte, Nat.reduceLT, or_self, true_or, or_true, if_true, if_false, and_self, and_true, true_and, not_false_eq_true, not_true_eq_false]
    · rw [hlt]; simp only [hx_nx_sI, hx_ce_sI, hx_sl_sI, hx_kd_sI, hx_ln_sI, hx_I_sI, hx_L_sI, hx_R_sI, hx_nx_sL, hx_ce_sL, hx_sl_sL, hx_kd_sL, hx_ln_sL, hx_I_sL, hx_L_sL, hx_R_sL, hx_nx_sR, hx_ce_sR, hx_sl_sR, hx_kd_sR, hx_ln_sR, hx_I_sR, hx_L_sR, hx_R_sR, hx_nx_al, hx_ce_al, hx_sl_al, hx_kd_al, hx_ln_al, hx_I_al, hx_L_al, hx_R_al, hx_nx_row, hx_ce_row, hx_sl_row, hx_kd_row, hx_ln_row, hx_I_row, hx_L_row, hx_R_row, hx_nx_mk, hx_kd_mk, hx_ln_mk, hx_I_mk, hx_L_mk, hx_R_mk, am_wp, am_stp, am_en, am_as, am_pad, am_nth, am_set, am_st1, am_st2, am_kl, am_kill, am_mem, am_fv, am_tk, am_wt, am_bk, Option.toList, List.cons_append, List.nil_append, Nat.reduceAdd, Nat.reduceEqDiff, Nat.reduceLeDiff, reduceIte, Nat.reduceLT, or_self, true_or, or_true, if_true, if_false, and_self, and_true, true_and, not_false_eq_true, not_true_eq_false]
theorem rp_snoc (L : List ent) (e : ent) : rp (L ++ [e]) = rp L ++ (if e.2.1 = 2 then [] else [(e.1, 1, e.2.2)]) := by
  unfold rp
  rw [List.filter_append, List.map_append]
  congr 1
  by_cases q : e.2.1 = 2
  · simp [q]
  · simp [q]
theorem rp_len (L : List ent) : (rp L).length ≤ L.length := by
  unfold rp
  rw [List.length_map]
  exact List.length_filter_le _ _
/-- while the list is made ripe -/
theorem l2_ri_loop {d : Nat} {f : Int32} {M : List ent} {h : am_H} {Q : am_O → am_H → Prop} (hM : M.length < 40000) (hx : ∀ g, ky_P h g (rp M) → tr_S g 101 102 103 M → Q (.inl (some (.int (nI M.length)))) g) : ∀ (m i : Nat) (g : am_H), m + i = M.length → ky_P h g (rp (M.take i)) → tr_S g 101 102 103 M →
    am_Ex nm_pr d mt_Mo_ripe (65, [.ref 72, .int f, .int (nI M.length), .int (nI i)], [], g) Q
  | 0, i, g, hm, K, T => by
    have e : i = M.length := by omega
    subst e
    have l1 : ¬ nI M.length < nI M.length := nI_nlt (Nat.le_refl _) (by omega)
    rw [List.take_length] at K
    refine am_go [70] 6 ?_
    simp only [am_wp, am_stp, am_en, am_as, am_pad, am_nth, am_set, am_st1, am_st2, am_kl, am_kill, am_mem, am_fv, am_tk, am_wt, am_bk, Option.toList, List.cons_append, List.nil_append, Nat.reduceAdd, Nat.reduceEqDiff, Nat.reduceLeDiff, reduceIte, Nat.reduceLT, or_self, true_or, or_true, if_true, if_false, and_self, and_true, true_and, not_false_eq_true, not_true_eq_false, fd_Mo_ripe_65, fd_Mo_ripe_66, fd_Mo_ripe_67, fd_Mo_ripe_136, fd_Mo_ripe_137, l1]
    exact hx g K T
  | m + 1, i, g, hm, K, T => by
    obtain ⟨F, a1, a2⟩ := id K
    have hS := a2.1
    have c31 := a2.2.1
    obtain ⟨k72, r32, r33, r34, k92, n92, k93, n93, k94, n94⟩ := mo_ky hS
    obtain ⟨-, -, -, ⟨r42, k101, n101⟩, ⟨r43, k102, n102⟩, ⟨r44, k103, n103⟩⟩ := mo_ol hS
    have hi : i < M.length := by omega
    have hget := List.getElem?_eq_getElem hi
    obtain ⟨t1, t2, t3⟩ := T i _ hget
    have l1 : nI i < nI M.length := nI_lt hi (by omega)
    have i1 := am_inb (c := i) (N := 45000) (by omega) (by omega)
    have q1 : (nI i).toNatClampNeg = i := nI_clamp (by omega)
    have hrl := rp_len (M.take i)
    have hlt : (M.take i).length = i := by rw [List.length_take]; omega
    have iO := am_inb (c := (rp (M.take i)).length) (N := 45000) (by omega) (by omega)
    have qO : (nI (rp (M.take i)).length).toNatClampNeg = (rp (M.take i)).length := nI_clamp (by omega)
    have next : ∀ g', ky_P h g' (rp (M.take (i + 1))) → tr_S g' 101 102 103 M → am_Ex nm_pr d mt_Mo_ripe (130, [.ref 72, .int f, .int (nI M.length), .int (nI i)], [], g') Q := by
      intro g' K' T'
      refine am_go [65] 2 ?_
      simp only [am_wp, am_stp, am_en, am_as, am_pad, am_nth, am_set, am_st1, am_st2, am_kl, am_kill, am_mem, am_fv, am_tk, am_wt, am_bk, Option.toList, List.cons_append, List.nil_append, Nat.reduceAdd, Nat.reduceEqDiff, Nat.reduceLeDiff, reduceIte, Nat.reduceLT, or_self, true_or, or_true, if_true, if_false, and_self, and_true, true_and, not_false_eq_true, not_true_eq_false, fd_Mo_ripe_130, fd_Mo_ripe_133, nI_1]
      exact l2_ri_loop hM hx m (i + 1) g' (by omega) K' T'
    refine am_go [70, 136] 3 ?_
    simp only [am_wp, am_stp, am_en, am_as, am_pad, am_nth, am_set, am_st1, am_st2, am_kl, am_kill, am_mem, am_fv, am_tk, am_wt, am_bk, Option.toList, List.cons_append, List.nil_append, Nat.reduceAdd, Nat.reduceEqDiff, Nat.reduceLeDiff, reduceIte, Nat.reduceLT, or_self, true_or, or_true, if_true, if_false, and_self, and_true, true_and, not_false_eq_true, not_true_eq_false, fd_Mo_ripe_65, fd_Mo_ripe_66, fd_Mo_ripe_67, l1]
    refine am_go [80, 130] 6 ?_
    simp only [am_wp, am_stp, am_en, am_as, am_pad, am_nth, am_set, am_st1, am_st2, am_kl, am_kill, am_mem, am_fv, am_tk, am_wt, am_bk, Option.toList, List.cons_append, List.nil_append, Nat.reduceAdd, Nat.reduceEqDiff, Nat.reduceLeDiff, reduceIte, Nat.reduceLT, or_self, true_or, or_true, if_true, if_false, and_self, and_true, true_and, not_false_eq_true, not_true_eq_false, fd_Mo_ripe_70, fd_Mo_ripe_71, fd_Mo_ripe_74, fd_Mo_ripe_75, fd_Mo_ripe_76, fd_Mo_ripe_77, k72, r43, k102, n102, i1, q1, t2]
    by_cases q : M[i].2.1 = 2
    · simp only [q, am_wp, am_stp, am_en, am_as, am_pad, am_nth, am_set, am_st1, am_st2, am_kl, am_kill, am_mem, am_fv, am_tk, am_wt, am_bk, Option.toList, List.cons_append, List.nil_append, Nat.reduceAdd, Nat.reduceEqDiff, Nat.reduceLeDiff, reduceIte, Nat.reduceLT, or_self, true_or, or_true, if_true, if_false, and_self, and_true, true_and, not_false_eq_true, not_true_eq_false]
      refine next g ?_ T
      rw [take_snoc hget, rp_snoc, if_pos q, List.append_nil]
      exact K
    · simp only [q, am_wp, am_stp, am_en, am_as, am_pad, am_nth, am_set, am_st1, am_st2, am_kl, am_kill, am_mem, am_fv, am_tk, am_wt, am_bk, Option.toList, List.cons_append, List.nil_append, Nat.reduceAdd, Nat.reduceEqDiff, Nat.reduceLeDiff, reduceIte, Nat.reduceLT, or_self, true_or, or_true, if_true, if_false, and_self, and_true, true_and, not_false_eq_true, not_true_eq_false]
      refine am_go [] 9 ?_
      simp only [am_wp, am_stp, am_en, am_as, am_pad, am_nth, am_set, am_st1, am_st2, am_kl, am_kill, am_mem, am_fv, am_tk, am_wt, am_bk, Option.toList, List.cons_append, List.nil_append, Nat.reduceAdd, Nat.reduceEqDiff, Nat.reduceLeDiff, reduceIte, Nat.reduceLT, or_self, true_or, or_true, if_true, if_false, and_self, and_true, true_and, not_false_eq_true, not_true_eq_false, fd_Mo_ripe_80, fd_Mo_ripe_81, fd_Mo_ripe_84, fd_Mo_ripe_85, fd_Mo_ripe_88, fd_Mo_ripe_89, fd_Mo_ripe_92, fd_Mo_ripe_93, fd_Mo_ripe_94, k72, r32, c31, r42, k101, n101, i1, q1, t1, k92, n92, iO, qO]
      refine am_go [] 6 ?_
      simp only [am_wp, am_stp, am_en, am_as, am_pad, am_nth, am_set, am_st1, am_st2, am_kl, am_kill, am_mem, am_fv, am_tk, am_wt, am_bk, Option.toList, List.cons_append, List.nil_append, Nat.reduceAdd, Nat.reduceEqDiff, Nat.reduceLeDiff, reduceIte, Nat.reduceLT, or_self, true_or, or_true, if_true, if_false, and_self, and_true, true_and, not_false_eq_true, not_true_eq_false, fd_Mo_ripe_95, fd_Mo_ripe_96, fd_Mo_ripe_99, fd_Mo_ripe_100, fd_Mo_ripe_103, fd_Mo_ripe_104, hx_nx_sI, hx_ce_sI, hx_sl_sI, hx_kd_sI, hx_ln_sI, hx_I_sI, hx_L_sI, hx_R_sI, hx_nx_sL, hx_ce_sL, hx_sl_sL, hx_kd_sL, hx_ln_sL, hx_I_sL, hx_L_sL, hx_R_sL, hx_nx_sR, hx_ce_sR, hx_sl_sR, hx_kd_sR, hx_ln_sR, hx_I_sR, hx_L_sR, hx_R_sR, hx_nx_al, hx_ce_al, hx_sl_al, hx_kd_al, hx_ln_al, hx_I_al, hx_L_al, hx_R_al, hx_nx_row, hx_ce_row, hx_sl_row, hx_kd_row, hx_ln_row, hx_I_row, hx_L_row, hx_R_row, hx_nx_mk, hx_kd_mk, hx_ln_mk, hx_I_mk, hx_L_mk, hx_R_mk, k72, r33, c31, k93, n93, iO, qO]
      refine am_go [] 9 ?_
      simp only [am_wp, am_stp, am_en, am_as, am_pad, am_nth, am_set, am_st1, am_st2, am_kl, am_kill, am_mem, am_fv, am_tk, am_wt, am_bk, Option.toList, List.cons_append, List.nil_append, Nat.reduceAdd, Nat.reduceEqDiff, Nat.reduceLeDiff, reduceIte, Nat.reduceLT, or_self, true_or, or_true, if_true, if_false, and_self, and_true, true_and, not_false_eq_true, not_true_eq_false, fd_Mo_ripe_105, fd_Mo_ripe_106, fd_Mo_ripe_109, fd_Mo_ripe_110, fd_Mo_ripe_113, fd_Mo_ripe_114, fd_Mo_ripe_117, fd_Mo_ripe_118, fd_Mo_ripe_119, hx_nx_sI, hx_ce_sI, hx_sl_sI, hx_kd_sI, hx_ln_sI, hx_I_sI, hx_L_sI, hx_R_sI, hx_nx_sL, hx_ce_sL, hx_sl_sL, hx_kd_sL, hx_ln_sL, hx_I_sL, hx_L_sL, hx_R_sL, hx_nx_sR, hx_ce_sR, hx_sl_sR, hx_kd_sR, hx_ln_sR, hx_I_sR, hx_L_sR, hx_R_sR, hx_nx_al, hx_ce_al, hx_sl_al, hx_kd_al, hx_ln_al, hx_I_al, hx_L_al, hx_R_al, hx_nx_row, hx_ce_row, hx_sl_row, hx_kd_row, hx_ln_row, hx_I_row, hx_L_row, hx_R_row, hx_nx_mk, hx_kd_mk, hx_ln_mk, hx_I_mk, hx_L_mk, hx_R_mk, k72, r34, c31, r44, k103, n103, i1, q1, t3, k94, n94, iO, qO]
      refine am_go [130] 6 ?_
      simp only [am_wp, am_stp, am_en, am_as, am_pad, am_nth, am_set, am_st1, am_st2, am_kl, am_kill, am_mem, am_fv, am_tk, am_wt, am_bk, Option.toList, List.cons_append, List.nil_append, Nat.reduceAdd, Nat.reduceEqDiff, Nat.reduceLeDiff, reduceIte, Nat.reduceLT, or_self, true_or, or_true, if_true, if_false, and_self, and_true, true_and, not_false_eq_true, not_true_eq_false, fd_Mo_ripe_120, fd_Mo_ripe_121, fd_Mo_ripe_122, fd_Mo_ripe_125, fd_Mo_ripe_126, fd_Mo_ripe_127, hx_kd_sI, hx_I_sI, hx_kd_sL, hx_I_sL, k72, c31, nI_1]
      have A := a2.app (e := (M[i].1, 1, M[i].2.2)) (by omega)
      refine next _ ⟨F.trans A.1, fun j hj => by rw [A.2.1 j hj]; exact a1 j hj, ?_⟩ (T.fi A.1 (by simp))
      rw [take_snoc hget, rp_snoc, if_neg q]
      exact A.2.2
theorem l2_ripe {d : Nat} {b : Bool} {M : List ent} {h : am_H} (K : ky_S h M) (hM : M.length < 40000) : am_Rt nm_pr (d + 1) mi_Mo_ripe [.ref 72, .int (if b = true then 1 else 0)] h (fun o h' => o = .inl (some (.int (nI M.length))) ∧ am_fi [72, 92, 93, 94, 101, 102, 103] h h' ∧ (∀ j, j ≠ 31 → am_I h' 72 j = am_I h 72 j) ∧ ky_S h' (if b = true then rp M else M) ∧ tr_S h' 101 102 103 M) := by
  obtain ⟨hS, i31, hl, T⟩ := id K
  refine am_in' mt_Mo_ripe 4 rfl rfl rfl ?_
  refine am_go [7] 5 ?_
  simp only [am_wp, am_stp, am_en, am_as, am_pad, am_nth, am_set, am_st1, am_st2, am_kl, am_kill, am_mem, am_fv, am_tk, am_wt, am_bk, Option.toList, List.cons_append, List.nil_append, Nat.reduceAdd, Nat.reduceEqDiff, Nat.reduceLeDiff, reduceIte, Nat.reduceLT, or_self, true_or, or_true, if_true, if_false, and_self, and_true, true_and, not_false_eq_true, not_true_eq_false, fd_Mo_ripe_0, fd_Mo_ripe_1, fd_Mo_ripe_4, fd_Mo_ripe_5, fd_Mo_ripe_6, hS.1, i31]
  refine l2_ri_copy K (fun g F T1 => ?_) M.length 0 h (by omega) am_fi.refl (fun i e he => by simp at he)
  have G := hS.fi F
  have i72 : am_I g 72 = am_I h 72 := F.2.2.2.2.2.2.1 72 (by simp)
  cases b with
  | false =>
    refine am_go [58] 4 ?_
    simp only [am_wp, am_stp, am_en, am_as, am_pad, am_nth, am_set, am_st1, am_st2, am_kl, am_kill, am_mem, am_fv, am_tk, am_wt, am_bk, Option.toList, List.cons_append, List.nil_append, Nat.reduceAdd, Nat.reduceEqDiff, Nat.reduceLeDiff, reduceIte, Nat.reduceLT, or_self, true_or, or_true, if_true, if_false, and_self, and_true, true_and, not_false_eq_true, not_true_eq_false, fd_Mo_ripe_54, fd_Mo_ripe_55, fd_Mo_ripe_136, fd_Mo_ripe_137, Bool.false_eq_true]
    exact ⟨F.sub (by simp), fun j _ => by rw [i72], ⟨G, by rw [i72]; exact i31, hl, T.fi F (by simp)⟩, T1⟩
  | true =>
    have one0 : ¬ (1 : Int32) = 0 := by decide
    refine am_go [65, 136] 7 ?_
    simp only [am_wp, am_stp, am_en, am_as, am_pad, am_nth, am_set, am_st1, am_st2, am_kl, am_kill, am_mem, am_fv, am_tk, am_wt, am_bk, Option.toList, List.cons_append, List.nil_append, Nat.reduceAdd, Nat.reduceEqDiff, Nat.reduceLeDiff, reduceIte, Nat.reduceLT, or_self, true_or, or_true, if_true, if_false, and_self, and_true, true_and, not_false_eq_true, not_true_eq_false, fd_Mo_ripe_54, fd_Mo_ripe_55, fd_Mo_ripe_58, fd_Mo_ripe_59, fd_Mo_ripe_60, fd_Mo_ripe_63, fd_Mo_ripe_64, one0, G.1]
    have F1 : am_fi [72, 92, 93, 94] g (am_sI g 72 31 0) := am_fi.refl.sI (by simp)
    refine l2_ri_loop (h := g) hM (fun g2 K2 T2 => ?_) M.length 0 _ (by omega) ⟨F1, fun j hj => by simp only [hx_nx_sI, hx_ce_sI, hx_sl_sI, hx_kd_sI, hx_ln_sI, hx_I_sI, hx_L_sI, hx_R_sI, hx_nx_sL, hx_ce_sL, hx_sl_sL, hx_kd_sL, hx_ln_sL, hx_I_sL, hx_L_sL, hx_R_sL, hx_nx_sR, hx_ce_sR, hx_sl_sR, hx_kd_sR, hx_ln_sR, hx_I_sR, hx_L_sR, hx_R_sR, hx_nx_al, hx_ce_al, hx_sl_al, hx_kd_al, hx_ln_al, hx_I_al, hx_L_al, hx_R_al, hx_nx_row, hx_ce_row, hx_sl_row, hx_kd_row, hx_ln_row, hx_I_row, hx_L_row, hx_R_row, hx_nx_mk, hx_kd_mk, hx_ln_mk, hx_I_mk, hx_L_mk, hx_R_mk, am_wp, am_stp, am_en, am_as, am_pad, am_nth, am_set, am_st1, am_st2, am_kl, am_kill, am_mem, am_fv, am_tk, am_wt, am_bk, Option.toList, List.cons_append, List.nil_append, Nat.reduceAdd, Nat.reduceEqDiff, Nat.reduceLeDiff, reduceIte, Nat.reduceLT, or_self, true_or, or_true, if_true, if_false, and_self, and_true, true_and, not_false_eq_true, not_true_eq_false, hj], G.fi F1, by simp only [hx_nx_sI, hx_ce_sI, hx_sl_sI, hx_kd_sI, hx_ln_sI, hx_I_sI, hx_L_sI, hx_R_sI, hx_nx_sL, hx_ce_sL, hx_sl_sL, hx_kd_sL, hx_ln_sL, hx_I_sL, hx_L_sL, hx_R_sL, hx_nx_sR, hx_ce_sR, hx_sl_sR, hx_kd_sR, hx_ln_sR, hx_I_sR, hx_L_sR, hx_R_sR, hx_nx_al, hx_ce_al, hx_sl_al, hx_kd_al, hx_ln_al, hx_I_al, hx_L_al, hx_R_al, hx_nx_row, hx_ce_row, hx_sl_row, hx_kd_row, hx_ln_row, hx_I_row, hx_L_row, hx_R_row, hx_nx_mk, hx_kd_mk, hx_ln_mk, hx_I_mk, hx_L_mk, hx_R_mk, am_wp, am_stp, am_en, am_as, am_pad, am_nth, am_set, am_st1, am_st2, am_kl, am_kill, am_mem, am_fv, am_tk, am_wt, am_bk, Option.toList, List.cons_append, List.nil_append, Nat.reduceAdd, Nat.reduceEqDiff, Nat.reduceLeDiff, reduceIte, Nat.reduceLT, or_self, true_or, or_true, if_true, if_false, and_self, and_true, true_and, not_false_eq_true, not_true_eq_false]; rfl, by simp [rp], fun i e he => by simp [rp] at he⟩ (T1.fi F1 (by simp))
    exact ⟨rfl, (F.sub (by simp)).trans (K2.1.sub (by simp)), fun j hj => by rw [K2.2.1 j hj, i72], K2.2.2, T2⟩
