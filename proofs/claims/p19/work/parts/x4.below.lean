/-! THE REFERENCE'S below, WITH PAGES THAT MAY BE WRONG -/
def rs_V (P : Nat) (h : am_H) (s : Nat) (ps : List (Nat × List ent)) : Prop := s < 100 ∧ am_I h 80 s = nI ps.length ∧ ps.length ≤ 1024 ∧ ∀ k q, ps[k]? = some q → am_I h 82 (1024 * s + k) = nI q.1 ∧ q.1 < P ∧ q.2.length < 60 ∧ (∀ x ∈ q.2, eo x) ∧ (mo_Rt h q.1 → pg_M P h q.1 q.2)
theorem rx_be_pages {d P s : Nat} {M0 G : List ent} {ps : List (Nat × List ent)} {h : am_H} {Q : am_O → am_H → Prop} (hP : P ≤ 1024) (hM : M0.length ≤ 40000) (hMo : ∀ x ∈ M0, eo x) (hR : rs_V P h s ps) (hG : G.length < 40000) (hb : ∀ g p, p < 1024 → am_fi [72, 92, 93, 94, 95, 96, 97, 98, 99, 100] h g → (∀ j, j ≠ 6 → j ≠ 31 → j ≠ 35 → am_I g 72 j = am_I h 72 j) → Q (.inl (some (.int (nI p)))) g)
    (hx : ∀ g i Out w5 w6, be_0 h g M0 Out → i ≤ M0.length → Out ++ M0.drop i = G → am_Ex nm_pr (d + 2) mt_Mo_below (378, [.ref 72, .int (nI s), .int (nI M0.length), .int (nI i), .int (nI ps.length), w5, w6], [], g) Q) : ∀ (rest pre : List (Nat × List ent)) (i : Nat) (Out : List ent) (w5 w6 : Value) (g : am_H), pre ++ rest = ps → be_0 h g M0 Out → i ≤ M0.length → Out ++ mg (M0.drop i) (ch_E rest) = G →
    am_Ex nm_pr (d + 2) mt_Mo_below (64, [.ref 72, .int (nI s), .int (nI M0.length), .int (nI i), .int (nI pre.length), w5, w6], [], g) Q
  | [], pre, i, Out, w5, w6, g, hL, I, hi, hE => by
    obtain ⟨h1, h2, h3, h4⟩ := id hR
    have e : pre = ps := by simpa using hL
    subst e
    obtain ⟨k72, -, -, -, ⟨r18, k80, n80⟩, -⟩ := mo_sl_ I.2.2.1.1
    have i80 : am_I g 80 s = nI pre.length := by rw [I.1.2.2.2.2.2.2.1 80 (by simp)]; exact h2
    have iS := am_inb (c := s) (N := 100) (by omega) (by omega)
    have qS : (nI s).toNatClampNeg = s := nI_clamp (by omega)
    have l1 : ¬ nI pre.length < nI pre.length := nI_nlt (Nat.le_refl _) (by omega)
    refine am_go [75, 378] 6 ?_
    simp only [am_wp, am_stp, am_en, am_as, am_pad, am_nth, am_set, am_st1, am_st2, am_kl, am_kill, am_mem, am_fv, am_tk, am_wt, am_bk, Option.toList, List.cons_append, List.nil_append, Nat.reduceAdd, Nat.reduceEqDiff, Nat.reduceLeDiff, reduceIte, Nat.reduceLT, or_self, true_or, or_true, if_true, if_false, and_self, and_true, true_and, not_false_eq_true, not_true_eq_false, fd_Mo_below_64, fd_Mo_below_66, fd_Mo_below_67, fd_Mo_below_70, fd_Mo_below_71, fd_Mo_below_72, k72, r18, k80, n80, iS, qS, i80, l1]
    refine hx g i Out w5 w6 I hi ?_
    rw [← hE]
    show _ = Out ++ mg (M0.drop i) []
    rw [mg_nil]
  | q :: rest, pre, i, Out, w5, w6, g, hL, I, hi, hE => by
    obtain ⟨h1, h2, h3, h4⟩ := id hR
    obtain ⟨F, a1, a2, a3⟩ := id I
    obtain ⟨k72, -, -, -, ⟨r18, k80, n80⟩, -, ⟨r20, k82, n82⟩, -⟩ := mo_sl_ a2.1
    have hlen : pre.length < ps.length := by rw [← hL]; simp
    have hget : ps[pre.length]? = some q := by rw [← hL]; simp
    obtain ⟨p1, p3, p4, p5, p2⟩ := h4 _ _ hget
    have i80 : am_I g 80 s = nI ps.length := by rw [F.2.2.2.2.2.2.1 80 (by simp)]; exact h2
    have i82 : am_I g 82 (1024 * s + pre.length) = nI q.1 := by rw [F.2.2.2.2.2.2.1 82 (by simp)]; exact p1
    have iS := am_inb (c := s) (N := 100) (by omega) (by omega)
    have qS : (nI s).toNatClampNeg = s := nI_clamp (by omega)
    have e1 : 1024 * nI s = nI (1024 * s) := (Int32.ofNat_mul 1024 s).symm
    have iB := am_inb (c := 1024 * s + pre.length) (N := 102400) (by omega) (by omega)
    have qB : (nI (1024 * s + pre.length)).toNatClampNeg = 1024 * s + pre.length := nI_clamp (by omega)
    have l1 : nI pre.length < nI ps.length := nI_lt hlen (by omega)
    have one0 : ¬ (1 : Int32) = 0 := by decide
    refine am_go [75, 378] 6 ?_
    simp only [am_wp, am_stp, am_en, am_as, am_pad, am_nth, am_set, am_st1, am_st2, am_kl, am_kill, am_mem, am_fv, am_tk, am_wt, am_bk, Option.toList, List.cons_append, List.nil_append, Nat.reduceAdd, Nat.reduceEqDiff, Nat.reduceLeDiff, reduceIte, Nat.reduceLT, or_self, true_or, or_true, if_true, if_false, and_self, and_true, true_and, not_false_eq_true, not_true_eq_false, fd_Mo_below_64, fd_Mo_below_66, fd_Mo_below_67, fd_Mo_below_70, fd_Mo_below_71, fd_Mo_below_72, k72, r18, k80, n80, iS, qS, i80, l1]
    refine am_go [] 9 ?_
    simp only [am_wp, am_stp, am_en, am_as, am_pad, am_nth, am_set, am_st1, am_st2, am_kl, am_kill, am_mem, am_fv, am_tk, am_wt, am_bk, Option.toList, List.cons_append, List.nil_append, Nat.reduceAdd, Nat.reduceEqDiff, Nat.reduceLeDiff, reduceIte, Nat.reduceLT, or_self, true_or, or_true, if_true, if_false, and_self, and_true, true_and, not_false_eq_true, not_true_eq_false, fd_Mo_below_75, fd_Mo_below_76, fd_Mo_below_79, fd_Mo_below_82, fd_Mo_below_83, fd_Mo_below_84, fd_Mo_below_86, fd_Mo_below_87, fd_Mo_below_88, k72, r20, e1, nI_add, k82, n82, iB, qB, i82]
    refine am_go [] 6 ?_
    simp only [am_wp, am_stp, am_en, am_as, am_pad, am_nth, am_set, am_st1, am_st2, am_kl, am_kill, am_mem, am_fv, am_tk, am_wt, am_bk, Option.toList, List.cons_append, List.nil_append, Nat.reduceAdd, Nat.reduceEqDiff, Nat.reduceLeDiff, reduceIte, Nat.reduceLT, or_self, true_or, or_true, if_true, if_false, and_self, and_true, true_and, not_false_eq_true, not_true_eq_false, fd_Mo_below_90, fd_Mo_below_91, fd_Mo_below_92, fd_Mo_below_95, fd_Mo_below_96, fd_Mo_below_97, k72]
    have F1 : am_fi [72] g (am_sI g 72 6 (am_I g 72 6 + 1)) := am_fi.refl.sI (by simp)
    have v1 : ∀ j, j ≠ 6 → am_I (am_sI g 72 6 (am_I g 72 6 + 1)) 72 j = am_I g 72 j := fun j hj => by simp only [hx_nx_sI, hx_ce_sI, hx_sl_sI, hx_kd_sI, hx_ln_sI, hx_I_sI, hx_L_sI, hx_R_sI, hx_nx_sL, hx_ce_sL, hx_sl_sL, hx_kd_sL, hx_ln_sL, hx_I_sL, hx_L_sL, hx_R_sL, hx_nx_sR, hx_ce_sR, hx_sl_sR, hx_kd_sR, hx_ln_sR, hx_I_sR, hx_L_sR, hx_R_sR, hx_nx_al, hx_ce_al, hx_sl_al, hx_kd_al, hx_ln_al, hx_I_al, hx_L_al, hx_R_al, hx_nx_row, hx_ce_row, hx_sl_row, hx_kd_row, hx_ln_row, hx_I_row, hx_L_row, hx_R_row, hx_nx_mk, hx_kd_mk, hx_ln_mk, hx_I_mk, hx_L_mk, hx_R_mk, am_wp, am_stp, am_en, am_as, am_pad, am_nth, am_set, am_st1, am_st2, am_kl, am_kill, am_mem, am_fv, am_tk, am_wt, am_bk, Option.toList, List.cons_append, List.nil_append, Nat.reduceAdd, Nat.reduceEqDiff, Nat.reduceLeDiff, reduceIte, Nat.reduceLT, or_self, true_or, or_true, if_true, if_false, and_self, and_true, true_and, not_false_eq_true, not_true_eq_false, hj]
    generalize am_sI g 72 6 (am_I g 72 6 + 1) = g1 at F1 v1 ⊢
    have I1 : be_0 h g1 M0 Out := ⟨F.trans (F1.sub (by simp)), fun j h1 h2 h3 => by rw [v1 j h1]; exact a1 j h1 h2 h3, ⟨a2.1.fi F1, by rw [v1 31 (by decide)]; exact a2.2.1, a2.2.2.1, a2.2.2.2.fi F1 (by simp)⟩, a3.fi F1 (by simp)⟩
    have e73 : am_I g1 73 = am_I h 73 := I1.1.2.2.2.2.2.2.1 73 (by simp)
    have S1 := I1.2.2.1.1
    refine am_go [] 3 ?_
    simp only [am_wp, am_stp, am_en, am_as, am_pad, am_nth, am_set, am_st1, am_st2, am_kl, am_kill, am_mem, am_fv, am_tk, am_wt, am_bk, Option.toList, List.cons_append, List.nil_append, Nat.reduceAdd, Nat.reduceEqDiff, Nat.reduceLeDiff, reduceIte, Nat.reduceLT, or_self, true_or, or_true, if_true, if_false, and_self, and_true, true_and, not_false_eq_true, not_true_eq_false, fd_Mo_below_100, fd_Mo_below_101, fd_Mo_below_103, S1.1]
    have hq1024 : q.1 < 1024 := by omega
    refine am_call (l2_Mo_isRight (d := d) S1.Pg hq1024) (fun o g2 z => ?_)
    obtain ⟨rfl, z⟩ := z
    rcases z with ⟨rfl, z⟩ | ⟨rfl, z⟩
    · have hM1 : pg_M P g2 q.1 q.2 := (p2 ((mo_Rt.eq (fun j _ => by rw [e73])).mp z)).mono (fun j _ => by rw [e73])
      simp only [am_wp, am_stp, am_en, am_as, am_pad, am_nth, am_set, am_st1, am_st2, am_kl, am_kill, am_mem, am_fv, am_tk, am_wt, am_bk, Option.toList, List.cons_append, List.nil_append, Nat.reduceAdd, Nat.reduceEqDiff, Nat.reduceLeDiff, reduceIte, Nat.reduceLT, or_self, true_or, or_true, if_true, if_false, and_self, and_true, true_and, not_false_eq_true, not_true_eq_false]
      refine am_go [109, 112] 1 ?_
      simp only [am_wp, am_stp, am_en, am_as, am_pad, am_nth, am_set, am_st1, am_st2, am_kl, am_kill, am_mem, am_fv, am_tk, am_wt, am_bk, Option.toList, List.cons_append, List.nil_append, Nat.reduceAdd, Nat.reduceEqDiff, Nat.reduceLeDiff, reduceIte, Nat.reduceLT, or_self, true_or, or_true, if_true, if_false, and_self, and_true, true_and, not_false_eq_true, not_true_eq_false, fd_Mo_below_106, one0]
      refine am_go [] 3 ?_
      simp only [am_wp, am_stp, am_en, am_as, am_pad, am_nth, am_set, am_st1, am_st2, am_kl, am_kill, am_mem, am_fv, am_tk, am_wt, am_bk, Option.toList, List.cons_append, List.nil_append, Nat.reduceAdd, Nat.reduceEqDiff, Nat.reduceLeDiff, reduceIte, Nat.reduceLT, or_self, true_or, or_true, if_true, if_false, and_self, and_true, true_and, not_false_eq_true, not_true_eq_false, fd_Mo_below_112, fd_Mo_below_113, fd_Mo_below_115, S1.1]
      refine am_call (l2_see (d := d + 1) S1 hP hM1) (fun o g3 z => ?_)
      obtain ⟨rfl, F3, b1, b2, b3⟩ := z
      simp only [am_wp, am_stp, am_en, am_as, am_pad, am_nth, am_set, am_st1, am_st2, am_kl, am_kill, am_mem, am_fv, am_tk, am_wt, am_bk, Option.toList, List.cons_append, List.nil_append, Nat.reduceAdd, Nat.reduceEqDiff, Nat.reduceLeDiff, reduceIte, Nat.reduceLT, or_self, true_or, or_true, if_true, if_false, and_self, and_true, true_and, not_false_eq_true, not_true_eq_false]
      refine am_go [121] 2 ?_
      simp only [am_wp, am_stp, am_en, am_as, am_pad, am_nth, am_set, am_st1, am_st2, am_kl, am_kill, am_mem, am_fv, am_tk, am_wt, am_bk, Option.toList, List.cons_append, List.nil_append, Nat.reduceAdd, Nat.reduceEqDiff, Nat.reduceLeDiff, reduceIte, Nat.reduceLT, or_self, true_or, or_true, if_true, if_false, and_self, and_true, true_and, not_false_eq_true, not_true_eq_false, fd_Mo_below_118, fd_Mo_below_119]
      obtain ⟨F2, c1, c2, c3⟩ := I1
      have I3 : be_I h g3 M0 Out q.2 := ⟨F2.trans (F3.sub (by simp)), fun j h1 h2 h3 => by rw [b1 j h3]; exact c1 j h1 h2 h3, ⟨c2.1.fi F3, by rw [b1 31 (by decide)]; exact c2.2.1, c2.2.2.1, c2.2.2.2.fi F3 (by simp)⟩, c3.fi F3 (by simp), b3, b2⟩
      refine l2_be_page (d := d + 1) (C := q.2) (R := ch_E rest) hM hMo p5 p4 hG (fun g4 i4 Out4 I4 hi4 hE4 => ?_) q.2 [] i Out g3 (by simp) I3 hi hE
      refine am_go [64] 2 ?_
      simp only [am_wp, am_stp, am_en, am_as, am_pad, am_nth, am_set, am_st1, am_st2, am_kl, am_kill, am_mem, am_fv, am_tk, am_wt, am_bk, Option.toList, List.cons_append, List.nil_append, Nat.reduceAdd, Nat.reduceEqDiff, Nat.reduceLeDiff, reduceIte, Nat.reduceLT, or_self, true_or, or_true, if_true, if_false, and_self, and_true, true_and, not_false_eq_true, not_true_eq_false, fd_Mo_below_372, fd_Mo_below_375, nI_1]
      have := rx_be_pages hP hM hMo hR hG hb hx rest (pre ++ [q]) i4 Out4 (.int (nI q.1)) (.int (nI q.2.length)) g4 (by rw [← hL]; simp) I4.z hi4 hE4
      have el' : (pre ++ [q]).length = pre.length + 1 := by simp
      rw [el'] at this
      exact this
    · simp only [am_wp, am_stp, am_en, am_as, am_pad, am_nth, am_set, am_st1, am_st2, am_kl, am_kill, am_mem, am_fv, am_tk, am_wt, am_bk, Option.toList, List.cons_append, List.nil_append, Nat.reduceAdd, Nat.reduceEqDiff, Nat.reduceLeDiff, reduceIte, Nat.reduceLT, or_self, true_or, or_true, if_true, if_false, and_self, and_true, true_and, not_false_eq_true, not_true_eq_false]
      refine am_go [109, 112] 1 ?_
      simp only [am_wp, am_stp, am_en, am_as, am_pad, am_nth, am_set, am_st1, am_st2, am_kl, am_kill, am_mem, am_fv, am_tk, am_wt, am_bk, Option.toList, List.cons_append, List.nil_append, Nat.reduceAdd, Nat.reduceEqDiff, Nat.reduceLeDiff, reduceIte, Nat.reduceLT, or_self, true_or, or_true, if_true, if_false, and_self, and_true, true_and, not_false_eq_true, not_true_eq_false, fd_Mo_below_106]
      refine am_go [] 2 ?_
      simp only [am_wp, am_stp, am_en, am_as, am_pad, am_nth, am_set, am_st1, am_st2, am_kl, am_kill, am_mem, am_fv, am_tk, am_wt, am_bk, Option.toList, List.cons_append, List.nil_append, Nat.reduceAdd, Nat.reduceEqDiff, Nat.reduceLeDiff, reduceIte, Nat.reduceLT, or_self, true_or, or_true, if_true, if_false, and_self, and_true, true_and, not_false_eq_true, not_true_eq_false, fd_Mo_below_109, fd_Mo_below_111]
      exact hb g2 q.1 hq1024 I1.1 I1.2.1
theorem rx_below {d P s : Nat} {M0 : List ent} {ps : List (Nat × List ent)} {h : am_H} (hP : P ≤ 1024) (K : ky_S h M0) (hMo : ∀ x ∈ M0, eo x) (hR : rs_V P h s ps) (hG : (mg M0 (ch_E ps)).length < 40000) : am_Rt nm_pr (d + 3) mi_Mo_below [.ref 72, .int (nI s)] h (fun o h' => am_fi [72, 92, 93, 94, 95, 96, 97, 98, 99, 100] h h' ∧ (∀ j, j ≠ 6 → j ≠ 31 → j ≠ 35 → am_I h' 72 j = am_I h 72 j) ∧ ((o = .inl (some (.int (-1))) ∧ ky_S h' (mg M0 (ch_E ps))) ∨ ∃ p, p < 1024 ∧ o = .inl (some (.int (nI p))))) := by
  obtain ⟨hS, i31, hl, T⟩ := id K
  refine am_in' (d := d + 2) mt_Mo_below 7 rfl rfl rfl ?_
  refine am_go [7] 5 ?_
  simp only [am_wp, am_stp, am_en, am_as, am_pad, am_nth, am_set, am_st1, am_st2, am_kl, am_kill, am_mem, am_fv, am_tk, am_wt, am_bk, Option.toList, List.cons_append, List.nil_append, Nat.reduceAdd, Nat.reduceEqDiff, Nat.reduceLeDiff, reduceIte, Nat.reduceLT, or_self, true_or, or_true, if_true, if_false, and_self, and_true, true_and, not_false_eq_true, not_true_eq_false, fd_Mo_below_0, fd_Mo_below_1, fd_Mo_below_4, fd_Mo_below_5, fd_Mo_below_6, hS.1, i31]
  refine l2_be_copy K (fun g F T1 => ?_) M0.length 0 h (by omega) am_fi.refl (fun i e he => by simp at he)
  have G := hS.fi F
  refine am_go [64] 7 ?_
  simp only [am_wp, am_stp, am_en, am_as, am_pad, am_nth, am_set, am_st1, am_st2, am_kl, am_kill, am_mem, am_fv, am_tk, am_wt, am_bk, Option.toList, List.cons_append, List.nil_append, Nat.reduceAdd, Nat.reduceEqDiff, Nat.reduceLeDiff, reduceIte, Nat.reduceLT, or_self, true_or, or_true, if_true, if_false, and_self, and_true, true_and, not_false_eq_true, not_true_eq_false, fd_Mo_below_54, fd_Mo_below_55, fd_Mo_below_56, fd_Mo_below_59, fd_Mo_below_60, fd_Mo_below_61, fd_Mo_below_62, G.1]
  have F1 : am_fi [72] g (am_sI g 72 31 0) := am_fi.refl.sI (by simp)
  have v31 : am_I (am_sI g 72 31 0) 72 31 = nI 0 := by simp only [hx_nx_sI, hx_ce_sI, hx_sl_sI, hx_kd_sI, hx_ln_sI, hx_I_sI, hx_L_sI, hx_R_sI, hx_nx_sL, hx_ce_sL, hx_sl_sL, hx_kd_sL, hx_ln_sL, hx_I_sL, hx_L_sL, hx_R_sL, hx_nx_sR, hx_ce_sR, hx_sl_sR, hx_kd_sR, hx_ln_sR, hx_I_sR, hx_L_sR, hx_R_sR, hx_nx_al, hx_ce_al, hx_sl_al, hx_kd_al, hx_ln_al, hx_I_al, hx_L_al, hx_R_al, hx_nx_row, hx_ce_row, hx_sl_row, hx_kd_row, hx_ln_row, hx_I_row, hx_L_row, hx_R_row, hx_nx_mk, hx_kd_mk, hx_ln_mk, hx_I_mk, hx_L_mk, hx_R_mk, am_wp, am_stp, am_en, am_as, am_pad, am_nth, am_set, am_st1, am_st2, am_kl, am_kill, am_mem, am_fv, am_tk, am_wt, am_bk, Option.toList, List.cons_append, List.nil_append, Nat.reduceAdd, Nat.reduceEqDiff, Nat.reduceLeDiff, reduceIte, Nat.reduceLT, or_self, true_or, or_true, if_true, if_false, and_self, and_true, true_and, not_false_eq_true, not_true_eq_false]; rfl
  have vj : ∀ j, j ≠ 31 → am_I (am_sI g 72 31 0) 72 j = am_I g 72 j := fun j hj => by simp only [hx_nx_sI, hx_ce_sI, hx_sl_sI, hx_kd_sI, hx_ln_sI, hx_I_sI, hx_L_sI, hx_R_sI, hx_nx_sL, hx_ce_sL, hx_sl_sL, hx_kd_sL, hx_ln_sL, hx_I_sL, hx_L_sL, hx_R_sL, hx_nx_sR, hx_ce_sR, hx_sl_sR, hx_kd_sR, hx_ln_sR, hx_I_sR, hx_L_sR, hx_R_sR, hx_nx_al, hx_ce_al, hx_sl_al, hx_kd_al, hx_ln_al, hx_I_al, hx_L_al, hx_R_al, hx_nx_row, hx_ce_row, hx_sl_row, hx_kd_row, hx_ln_row, hx_I_row, hx_L_row, hx_R_row, hx_nx_mk, hx_kd_mk, hx_ln_mk, hx_I_mk, hx_L_mk, hx_R_mk, am_wp, am_stp, am_en, am_as, am_pad, am_nth, am_set, am_st1, am_st2, am_kl, am_kill, am_mem, am_fv, am_tk, am_wt, am_bk, Option.toList, List.cons_append, List.nil_append, Nat.reduceAdd, Nat.reduceEqDiff, Nat.reduceLeDiff, reduceIte, Nat.reduceLT, or_self, true_or, or_true, if_true, if_false, and_self, and_true, true_and, not_false_eq_true, not_true_eq_false, hj]
  generalize am_sI g 72 31 0 = g1 at F1 v31 vj ⊢
  have i72 : am_I g 72 = am_I h 72 := F.2.2.2.2.2.2.1 72 (by simp)
  have I1 : be_0 h g1 M0 [] := ⟨(F.sub (by simp)).trans (F1.sub (by simp)), fun j _ h2 _ => by rw [vj j h2, i72], ⟨G.fi F1, v31, by simp, fun i e he => by simp at he⟩, T1.fi F1 (by simp)⟩
  refine rx_be_pages (d := d) (G := mg M0 (ch_E ps)) hP hl hMo hR hG (fun g p hp f1 f2 => ⟨f1, f2, Or.inr ⟨p, hp, rfl⟩⟩) (fun g2 i Out w5 w6 I2 hi hE => ?_) ps [] 0 [] _ _ g1 (by simp) I1 (Nat.zero_le _) (by simp)
  refine l2_be_end (d := d + 1) hl hG (fun g3 I3 => ?_) (M0.length - i) i Out g2 (by omega) I2 hE
  exact ⟨I3.1, I3.2.1, Or.inl ⟨rfl, I3.2.2.1⟩⟩
/-! HOW MANY KEYS THERE CAN BE -/
/-- all keys of the table and of the pages -/
def kB (P : Nat) (E : Nat → List ent) (T : List ent) : List Int64 := T.map (·.1) ++ (List.range P).flatMap (fun q => ((E q).take 36).map (·.1))
theorem fm_len {α : Type} {f : Nat → List α} {c : Nat} (hf : ∀ q, (f q).length ≤ c) : ∀ l : List Nat, (l.flatMap f).length ≤ c * l.length
  | [] => by simp
  | q :: l => by
    have ih := fm_len hf l
    have := hf q
    rw [List.flatMap_cons, List.length_append, List.length_cons, Nat.mul_succ]
    omega
theorem kB_len {P : Nat} {E : Nat → List ent} {T : List ent} (hP : P ≤ 1024) : (kB P E T).length ≤ T.length + 36864 := by
  have h1 := fm_len (f := fun q => ((E q).take 36).map (·.1)) (c := 36) (fun q => by rw [List.length_map, List.length_take]; omega) (List.range P)
  rw [List.length_range] at h1
  unfold kB
  rw [List.length_append, List.length_map]
  omega
theorem so_keys : ∀ (L : List ent), so L → (L.map (·.1)).Nodup
  | [], _ => List.nodup_nil
  | e :: L, h => by
    rw [List.map_cons, List.nodup_cons]
    refine ⟨fun hm => ?_, so_keys L h.2⟩
    obtain ⟨x, hx, ex⟩ := List.mem_map.mp hm
    have := h.1 x hx
    rw [ex, Int64.lt_iff_toInt_lt] at this
    omega
def kin_B (B : List Int64) (L : List ent) : Prop := ∀ e ∈ L, e.1 ∈ B
theorem so_len {B : List Int64} {L : List ent} (h : so L) (hB : kin_B B L) : L.length ≤ B.length := by
  have := nd_le (L.map (·.1)) B (so_keys L h) (fun x hx => by
    obtain ⟨e, he, ee⟩ := List.mem_map.mp hx
    rw [← ee]; exact hB e he)
  rw [List.length_map] at this
  exact this
theorem mg_in {B : List Int64} : ∀ (n : Nat) (L M : List ent), L.length + M.length ≤ n → kin_B B L → kin_B B M → kin_B B (mg L M)
  | 0, L, M, hn, hL, hM => by
    have e1 : L = [] := List.length_eq_zero_iff.mp (by omega)
    subst e1
    simpa [mg] using hM
  | n + 1, [], M, hn, hL, hM => by simpa [mg] using hM
  | n + 1, a :: L, [], hn, hL, hM => by simpa [mg] using hL
  | n + 1, a :: L, b :: M, hn, hL, hM => by
    simp only [List.length_cons] at hn
    have hL' : kin_B B L := fun e he => hL e (by simp [he])
    have hM' : kin_B B M := fun e he => hM e (by simp [he])
    rw [mg]
    split
    · intro e he
      rcases List.mem_cons.mp he with q | q
      · rw [q]; exact hL a (by simp)
      · exact mg_in n L (b :: M) (by simp only [List.length_cons]; omega) hL' hM e q
    · split
      · intro e he
        rcases List.mem_cons.mp he with q | q
        · rw [q]; exact hL a (by simp)
        · exact mg_in n L M (by omega) hL' hM' e q
      · intro e he
        rcases List.mem_cons.mp he with q | q
        · rw [q]; exact hM b (by simp)
        · exact mg_in n (a :: L) M (by simp only [List.length_cons]; omega) hL hM' e q
theorem rp_in {B : List Int64} {L : List ent} (h : kin_B B L) : kin_B B (rp L) := fun e he => by
  unfold rp at he
  obtain ⟨x, hx, ex⟩ := List.mem_map.mp he
  rw [← ex]
  exact h x (List.mem_filter.mp hx).1
theorem rp_eo (L : List ent) : ∀ e ∈ rp L, eo e := fun e he => by
  unfold rp at he
  obtain ⟨x, hx, ex⟩ := List.mem_map.mp he
  rw [← ex]
  exact ⟨Or.inl rfl, fun h => absurd (show (1 : Int32) = 2 from h) (by decide)⟩
theorem rp_so : ∀ (L : List ent), so L → so (rp L)
  | [], _ => trivial
  | e :: L, h => by
    have ih := rp_so L h.2
    by_cases c : e.2.1 ≠ 2
    · have e1 : rp (e :: L) = (e.1, 1, e.2.2) :: rp L := by
        unfold rp
        rw [List.filter_cons_of_pos (by simpa using c)]
        rfl
      rw [e1]
      refine ⟨fun x hx => ?_, ih⟩
      unfold rp at hx
      obtain ⟨y, hy, ey⟩ := List.mem_map.mp hx
      rw [← ey]
      exact h.1 y (List.mem_filter.mp hy).1
    · have e1 : rp (e :: L) = rp L := by
        unfold rp
        rw [List.filter_cons_of_neg (by simpa using c)]
      rw [e1]; exact ih
theorem pe_in {P : Nat} {h : am_H} {E : Nat → List ent} {T : List ent} {pl : List Nat} (c5 : ∀ q ∈ pl, pgw P h E q) : kin_B (kB P E T) (ch_E (pe E pl)) := fun e he => by
  obtain ⟨q, hq, hE⟩ := ch_E_in pl e he
  obtain ⟨-, q2, -, q4, -⟩ := c5 q hq
  unfold kB
  refine List.mem_append.mpr (Or.inr (List.mem_flatMap.mpr ⟨q, List.mem_range.mpr q2, ?_⟩))
  rw [List.take_of_length_le q4]
  exact List.mem_map.mpr ⟨e, hE, rfl⟩
theorem pe_eo {P : Nat} {h : am_H} {E : Nat → List ent} {pl : List Nat} (c5 : ∀ q ∈ pl, pgw P h E q) : ∀ e ∈ ch_E (pe E pl), eo e := fun e he => by
  obtain ⟨q, hq, hE⟩ := ch_E_in pl e he
  exact (c5 q hq).2.2.2.2.1 e hE
/-- a list of entries, as below and ripe leave it -/
def kl (B : List Int64) (L : List ent) : Prop := so L ∧ (∀ e ∈ L, eo e) ∧ kin_B B L
theorem kl.mg_ {B : List Int64} {L M : List ent} (a : kl B L) (b : kl B M) : kl B (mg L M) := ⟨mg_so _ L M (Nat.le_refl _) a.1 b.1, mg_eo _ L M (Nat.le_refl _) a.2.1 b.2.1, mg_in _ L M (Nat.le_refl _) a.2.2 b.2.2⟩
theorem kl.rp_ {B : List Int64} {L : List ent} (a : kl B L) : kl B (rp L) := ⟨rp_so L a.1, rp_eo L, rp_in a.2.2⟩
theorem kl.nil {B : List Int64} : kl B [] := ⟨trivial, by simp, by simp [kin_B]⟩
theorem kl.len {P : Nat} {E : Nat → List ent} {T L : List ent} (a : kl (kB P E T) L) (hP : P ≤ 1024) (hT : T.length ≤ 64) : L.length < 40000 := by
  have := so_len a.1 a.2.2
  have := kB_len (P := P) (E := E) (T := T) hP
  omega
theorem pe_V {P s : Nat} {h : am_H} {E : Nat → List ent} {pl : List Nat} (hs : s < 100) (hP : P ≤ 1024) (c3 : am_I h 80 s = nI pl.length) (c4 : ∀ k q, pl[k]? = some q → am_I h 82 (1024 * s + k) = nI q) (c5 : ∀ q ∈ pl, pgw P h E q) (c6 : so (ch_E (pe E pl))) : rs_V P h s (pe E pl) := by
  have hl := (pw_len c5 c6).2
  have e : (pe E pl).length = pl.length := by unfold pe; rw [List.length_map]
  refine ⟨hs, by rw [e]; exact c3, by omega, fun k q hk => ?_⟩
  unfold pe at hk
  rw [List.getElem?_map] at hk
  cases hp : pl[k]? with
  | none => rw [hp] at hk; cases hk
  | some x =>
    rw [hp] at hk
    have ex : q = (x, E x) := by simpa using hk.symm
    subst ex
    obtain ⟨q1, q2, q3, q4, q5, q6⟩ := c5 x (List.mem_of_getElem? hp)
    exact ⟨c4 k x hp, q2, by show (E x).length < 60; omega, q5, q6⟩
/-- below, of a live slot -/
theorem rx_bel {d P s : Nat} {E : Nat → List ent} {T M0 : List ent} {h : am_H} (hP : P ≤ 1024) (hT : T.length ≤ 64) (K : ky_S h M0) (kM : kl (kB P E T) M0) (c : rs_W P h E s) : am_Rt nm_pr (d + 3) mi_Mo_below [.ref 72, .int (nI s)] h (fun o h' => am_fi [72, 92, 93, 94, 95, 96, 97, 98, 99, 100] h h' ∧ (∀ j, j ≠ 6 → j ≠ 31 → j ≠ 35 → am_I h' 72 j = am_I h 72 j) ∧ ((o = .inl (some (.int (-1))) ∧ ∃ M, ky_S h' M ∧ kl (kB P E T) M) ∨ ∃ p, p < 1024 ∧ o = .inl (some (.int (nI p))))) := by
  obtain ⟨c1, pl, c2, c3, c4, c5, c6⟩ := c
  have kE : kl (kB P E T) (ch_E (pe E pl)) := ⟨c6, pe_eo c5, pe_in c5⟩
  have kG := kM.mg_ kE
  refine am_call (rx_below (d := d) hP K kM.2.1 (pe_V c1 hP c3 c4 c5 c6) (kG.len hP hT)) (fun o h' z => ?_)
  obtain ⟨z1, z2, z3⟩ := z
  refine ⟨z1, z2, ?_⟩
  rcases z3 with ⟨z3, z4⟩ | z3
  · exact Or.inl ⟨z3, _, z4, kG⟩
  · exact Or.inr z3
