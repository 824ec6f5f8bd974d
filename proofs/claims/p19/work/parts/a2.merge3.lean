/-! THE MERGE OF THE CLASS -/
def mostp (l : Nat) : Nat := if l = 1 then 8 else if l = 2 then 24 else 1024
theorem l2_mostPages {d l : Nat} {h : am_H} (h1 : 1 ≤ l) (h3 : l ≤ 3) : am_Rt nm_pr (d + 1) mi_SR_mostPages [.int (nI l)] h (fun o h' => o = .inl (some (.int (nI (mostp l)))) ∧ h' = h) := by
  refine am_in' mt_SR_mostPages 1 rfl rfl rfl ?_
  have hl : l = 1 ∨ l = 2 ∨ l = 3 := by omega
  rcases hl with rfl | rfl | rfl
  · have e1 : (nI 1 = 1) = True := eq_true rfl
    refine am_go [10] 6 ?_
    simp only [am_wp, am_stp, am_en, am_as, am_pad, am_nth, am_set, am_st1, am_st2, am_kl, am_kill, am_mem, am_fv, am_tk, am_wt, am_bk, Option.toList, List.cons_append, List.nil_append, Nat.reduceAdd, Nat.reduceEqDiff, Nat.reduceLeDiff, reduceIte, Nat.reduceLT, or_self, true_or, or_true, if_true, if_false, and_self, and_true, true_and, not_false_eq_true, not_true_eq_false, fd_SR_mostPages_0, fd_SR_mostPages_1, fd_SR_mostPages_2, fd_SR_mostPages_5, fd_SR_mostPages_7, fd_SR_mostPages_23, e1]
    rfl
  · have e1 : (nI 2 = 1) = False := by decide
    have e2 : (nI 2 = 2) = True := eq_true rfl
    refine am_go [5, 20] 9 ?_
    simp only [am_wp, am_stp, am_en, am_as, am_pad, am_nth, am_set, am_st1, am_st2, am_kl, am_kill, am_mem, am_fv, am_tk, am_wt, am_bk, Option.toList, List.cons_append, List.nil_append, Nat.reduceAdd, Nat.reduceEqDiff, Nat.reduceLeDiff, reduceIte, Nat.reduceLT, or_self, true_or, or_true, if_true, if_false, and_self, and_true, true_and, not_false_eq_true, not_true_eq_false, fd_SR_mostPages_0, fd_SR_mostPages_1, fd_SR_mostPages_2, fd_SR_mostPages_10, fd_SR_mostPages_11, fd_SR_mostPages_12, fd_SR_mostPages_15, fd_SR_mostPages_17, fd_SR_mostPages_23, e1, e2]
    rfl
  · have e1 : (nI 3 = 1) = False := by decide
    have e2 : (nI 3 = 2) = False := by decide
    refine am_go [5, 15] 9 ?_
    simp only [am_wp, am_stp, am_en, am_as, am_pad, am_nth, am_set, am_st1, am_st2, am_kl, am_kill, am_mem, am_fv, am_tk, am_wt, am_bk, Option.toList, List.cons_append, List.nil_append, Nat.reduceAdd, Nat.reduceEqDiff, Nat.reduceLeDiff, reduceIte, Nat.reduceLT, or_self, true_or, or_true, if_true, if_false, and_self, and_true, true_and, not_false_eq_true, not_true_eq_false, fd_SR_mostPages_0, fd_SR_mostPages_1, fd_SR_mostPages_2, fd_SR_mostPages_10, fd_SR_mostPages_11, fd_SR_mostPages_12, fd_SR_mostPages_20, fd_SR_mostPages_23, e1, e2]
    rfl
theorem up_mono {L M : Nat} (h : L ≤ M) : ∀ ls, up L ls ≤ up M ls
  | [] => Nat.le_refl _
  | l :: ls => by
    have := up_mono h ls
    unfold up
    by_cases e : l ≤ L
    · rw [if_pos e, if_pos (by omega)]; omega
    · rw [if_neg e]; omega
theorem cl_S.fx {P n : Nat} {S : List Nat} {Rs : List rn} {h h' : am_H} (c : cl_S P h n Rs) (f : am_fx S h h') (hK : sk_K P h') (hS : ∀ q ∈ S, q < 109 ∧ q ≠ 3 ∧ q ≠ 8 ∧ q ≠ 9 ∧ q ≠ 19 ∧ q ≠ 20 ∧ q ≠ 21 ∧ q ≠ 22 ∧ q ≠ 23 ∧ q ≠ 24) : cl_S P h' n Rs := by
  obtain ⟨c1, c2, c3, c4, c5⟩ := c
  exact ⟨hK, c2.fx f (fun z => (hS 3 z).2.1 rfl), c3.fx f (fun q hq => by have := hS q hq; omega), c4.fx f ⟨fun z => (hS 21 z).2.2.2.2.2.2.1 rfl, fun z => (hS 22 z).2.2.2.2.2.2.2.1 rfl⟩, by rw [f.1]; exact c5⟩
/-- the first k runs of now, blended -/
theorem bl_ok {P k : Nat} {h : am_H} {Rs : List rn} (N : nw_R P h Rs) (hen : aen (ab Rs) < 900000) : (∀ x ∈ bi 0 (Rs.take k), so x.2 ∧ ∀ e ∈ x.2, eo e) ∧ tot (bi 0 (Rs.take k)) < 900000 ∧ ou (decide (k = Rs.length)) ((bi 0 (Rs.take k)).map (·.2)) = aou (ab Rs) k := by
  refine ⟨fun x hx' => ?_, ?_, ?_⟩
  · obtain ⟨r, r1, r2⟩ := bi_mem _ _ _ hx'
    have := N.all r (List.mem_of_mem_take r1)
    rw [r2]
    exact ⟨this.2.2.2.2.2.2.1, this.2.2.2.2.2.2.2⟩
  · rw [bi_tot]
    have e : ab (Rs.take k) = (ab Rs).take k := by simp [ab, List.map_take]
    rw [e]
    have := aen_take (ab Rs) k
    omega
  · unfold aou
    rw [bi_take_snd]
    simp [ab]
theorem l2_mr_round {d P n l t : Nat} {x3 : Int32} {w4 : Value} {Rs : List rn} {g : am_H} {Q : am_O → am_H → Prop} (c : cl_S P g n Rs) (hl : l ≤ 2) (ht : t ≤ up (l + 1) (lvs Rs)) (hen : aen (ab Rs) < 900000)
    (hx : ∀ g' cc, cc < 1000000 → cl_S P g' n Rs → lf 0 g g' → tb_E g g' → ((cc ≤ mostp (l + 1) ∧ cc = npg (aou (ab Rs) (up (l + 1) (lvs Rs)))) ∨ (mostp (l + 1) < cc ∧ mostp (l + 1) < npg (aou (ab Rs) (up (l + 1) (lvs Rs))))) → am_Ex nm_pr (d + 7) mt_SR_mergeRuns (67, [.ref 2, .int (nI (l + 1)), .int (nI (up (l + 1) (lvs Rs))), .int (nI cc), .int (nI (up (l + 1) (lvs Rs)))], [], g') Q) :
    am_Ex nm_pr (d + 7) mt_SR_mergeRuns (20, [.ref 2, .int (nI l), .int (nI t), .int x3, w4], [], g) Q := by
  obtain ⟨hK, T, N, F, h9⟩ := id c
  obtain ⟨⟨k2, r0, r1, rr2, r3, r5, r8⟩, S0, P0, Sp0, B0, ⟨k8, r8', k9, n9⟩, i185, i215⟩ := id hK
  have one0 : ¬ (1 : Int32) = 0 := by decide
  have hkl : up (l + 1) (lvs Rs) ≤ Rs.length := by
    have := up_le (l + 1) (lvs Rs)
    unfold lvs at this ⊢
    rw [List.length_map] at this
    exact this
  refine am_go [] 5 ?_
  simp only [am_wp, am_stp, am_en, am_as, am_pad, am_nth, am_set, am_st1, am_st2, am_kl, am_kill, am_mem, am_fv, am_tk, am_wt, am_bk, Option.toList, List.cons_append, List.nil_append, Nat.reduceAdd, Nat.reduceEqDiff, Nat.reduceLeDiff, reduceIte, Nat.reduceLT, or_self, true_or, or_true, if_true, if_false, and_self, and_true, true_and, not_false_eq_true, not_true_eq_false, fd_SR_mergeRuns_20, fd_SR_mergeRuns_23, fd_SR_mergeRuns_24, fd_SR_mergeRuns_27, fd_SR_mergeRuns_28, k2, r3, k8, nI_1]
  refine am_call (l2_countUpTo (d := d + 6) (L := l + 1) hK (by omega) N) (fun o g1 q => ?_)
  obtain ⟨rfl, rfl⟩ := q
  generalize hk : up (l + 1) (lvs Rs) = k at *
  simp only [am_wp, am_stp, am_en, am_as, am_pad, am_nth, am_set, am_st1, am_st2, am_kl, am_kill, am_mem, am_fv, am_tk, am_wt, am_bk, Option.toList, List.cons_append, List.nil_append, Nat.reduceAdd, Nat.reduceEqDiff, Nat.reduceLeDiff, reduceIte, Nat.reduceLT, or_self, true_or, or_true, if_true, if_false, and_self, and_true, true_and, not_false_eq_true, not_true_eq_false]
  refine am_go [] 7 ?_
  simp only [am_wp, am_stp, am_en, am_as, am_pad, am_nth, am_set, am_st1, am_st2, am_kl, am_kill, am_mem, am_fv, am_tk, am_wt, am_bk, Option.toList, List.cons_append, List.nil_append, Nat.reduceAdd, Nat.reduceEqDiff, Nat.reduceLeDiff, reduceIte, Nat.reduceLT, or_self, true_or, or_true, if_true, if_false, and_self, and_true, true_and, not_false_eq_true, not_true_eq_false, fd_SR_mergeRuns_31, fd_SR_mergeRuns_33, fd_SR_mergeRuns_34, fd_SR_mergeRuns_35, fd_SR_mergeRuns_38, fd_SR_mergeRuns_39, fd_SR_mergeRuns_41, k2, r3]
  refine am_call (l2_readRuns (d := d + 3) hK N ht hkl) (fun o g2 q => ?_)
  obtain ⟨rfl, q2⟩ := q
  have K2 := q2.sk hK
  have C2 : cl_S P g2 n Rs := c.fx q2.1.fx K2 (by simp)
  simp only [am_wp, am_stp, am_en, am_as, am_pad, am_nth, am_set, am_st1, am_st2, am_kl, am_kill, am_mem, am_fv, am_tk, am_wt, am_bk, Option.toList, List.cons_append, List.nil_append, Nat.reduceAdd, Nat.reduceEqDiff, Nat.reduceLeDiff, reduceIte, Nat.reduceLT, or_self, true_or, or_true, if_true, if_false, and_self, and_true, true_and, not_false_eq_true, not_true_eq_false]
  refine am_go [47, 50] 1 ?_
  simp only [am_wp, am_stp, am_en, am_as, am_pad, am_nth, am_set, am_st1, am_st2, am_kl, am_kill, am_mem, am_fv, am_tk, am_wt, am_bk, Option.toList, List.cons_append, List.nil_append, Nat.reduceAdd, Nat.reduceEqDiff, Nat.reduceLeDiff, reduceIte, Nat.reduceLT, or_self, true_or, or_true, if_true, if_false, and_self, and_true, true_and, not_false_eq_true, not_true_eq_false, fd_SR_mergeRuns_44, one0]
  refine am_go [] 5 ?_
  simp only [am_wp, am_stp, am_en, am_as, am_pad, am_nth, am_set, am_st1, am_st2, am_kl, am_kill, am_mem, am_fv, am_tk, am_wt, am_bk, Option.toList, List.cons_append, List.nil_append, Nat.reduceAdd, Nat.reduceEqDiff, Nat.reduceLeDiff, reduceIte, Nat.reduceLT, or_self, true_or, or_true, if_true, if_false, and_self, and_true, true_and, not_false_eq_true, not_true_eq_false, fd_SR_mergeRuns_50, fd_SR_mergeRuns_52, fd_SR_mergeRuns_53, fd_SR_mergeRuns_54, fd_SR_mergeRuns_55, K2.1.1]
  refine am_call (l2_blendRuns (d := d + 2) K2 C2.2.2.1 hkl) (fun o g3 q => ?_)
  obtain ⟨rfl, F3, K3, B3, j3⟩ := q
  have C3 : cl_S P g3 n Rs := C2.fx F3 K3 (by unfold br_w; simp)
  obtain ⟨hO, htot, hou⟩ := bl_ok (k := k) C3.2.2.1 hen
  simp only [am_wp, am_stp, am_en, am_as, am_pad, am_nth, am_set, am_st1, am_st2, am_kl, am_kill, am_mem, am_fv, am_tk, am_wt, am_bk, Option.toList, List.cons_append, List.nil_append, Nat.reduceAdd, Nat.reduceEqDiff, Nat.reduceLeDiff, reduceIte, Nat.reduceLT, or_self, true_or, or_true, if_true, if_false, and_self, and_true, true_and, not_false_eq_true, not_true_eq_false]
  refine am_go [] 3 ?_
  simp only [am_wp, am_stp, am_en, am_as, am_pad, am_nth, am_set, am_st1, am_st2, am_kl, am_kill, am_mem, am_fv, am_tk, am_wt, am_bk, Option.toList, List.cons_append, List.nil_append, Nat.reduceAdd, Nat.reduceEqDiff, Nat.reduceLeDiff, reduceIte, Nat.reduceLT, or_self, true_or, or_true, if_true, if_false, and_self, and_true, true_and, not_false_eq_true, not_true_eq_false, fd_SR_mergeRuns_58, fd_SR_mergeRuns_59, fd_SR_mergeRuns_60]
  refine am_call (l2_mostPages (d := d + 6) (l := l + 1) (by omega) (by omega)) (fun o g4 q => ?_)
  obtain ⟨rfl, rfl⟩ := q
  have hm : mostp (l + 1) < 1000000 := by unfold mostp; split; omega; split <;> omega
  simp only [am_wp, am_stp, am_en, am_as, am_pad, am_nth, am_set, am_st1, am_st2, am_kl, am_kill, am_mem, am_fv, am_tk, am_wt, am_bk, Option.toList, List.cons_append, List.nil_append, Nat.reduceAdd, Nat.reduceEqDiff, Nat.reduceLeDiff, reduceIte, Nat.reduceLT, or_self, true_or, or_true, if_true, if_false, and_self, and_true, true_and, not_false_eq_true, not_true_eq_false]
  refine am_go [] 1 ?_
  simp only [am_wp, am_stp, am_en, am_as, am_pad, am_nth, am_set, am_st1, am_st2, am_kl, am_kill, am_mem, am_fv, am_tk, am_wt, am_bk, Option.toList, List.cons_append, List.nil_append, Nat.reduceAdd, Nat.reduceEqDiff, Nat.reduceLeDiff, reduceIte, Nat.reduceLT, or_self, true_or, or_true, if_true, if_false, and_self, and_true, true_and, not_false_eq_true, not_true_eq_false, fd_SR_mergeRuns_63, K3.1.1]
  refine am_call (l2_countPages (d := d + 2) (old := decide (k = Rs.length)) hm K3 B3 j3 hO htot) (fun o g5 q => ?_)
  obtain ⟨cc, rfl, hcc, F5, q⟩ := q
  rw [hou] at q
  have K5 : sk_K P g5 := K3.fi F5 (by decide)
  have C5 : cl_S P g5 n Rs := C3.fx F5.fx K5 (by unfold bl_w; simp)
  simp only [am_wp, am_stp, am_en, am_as, am_pad, am_nth, am_set, am_st1, am_st2, am_kl, am_kill, am_mem, am_fv, am_tk, am_wt, am_bk, Option.toList, List.cons_append, List.nil_append, Nat.reduceAdd, Nat.reduceEqDiff, Nat.reduceLeDiff, reduceIte, Nat.reduceLT, or_self, true_or, or_true, if_true, if_false, and_self, and_true, true_and, not_false_eq_true, not_true_eq_false]
  refine am_go [67] 1 ?_
  simp only [am_wp, am_stp, am_en, am_as, am_pad, am_nth, am_set, am_st1, am_st2, am_kl, am_kill, am_mem, am_fv, am_tk, am_wt, am_bk, Option.toList, List.cons_append, List.nil_append, Nat.reduceAdd, Nat.reduceEqDiff, Nat.reduceLeDiff, reduceIte, Nat.reduceLT, or_self, true_or, or_true, if_true, if_false, and_self, and_true, true_and, not_false_eq_true, not_true_eq_false, fd_SR_mergeRuns_66]
  refine hx g5 cc hcc C5 ?_ (((tb_E.fx q2.1.fx (by simp)).trans (tb_E.fx F3 (by decide))).trans (tb_E.fx F5.fx (by decide))) q
  have := ((lf.fi q2.1 (by simp)).trans (lf.fx F3 (by unfold br_w; simp))).trans (lf.fi F5 (by unfold bl_w; simp))
  simpa using this
/-- what a merge of level lv comes to -/
theorem l2_mr_end {d P n lv cc : Nat} {w4 : Value} {Rs : List rn} {h g : am_H} (c : cl_S P g n Rs) (h1 : 1 ≤ up lv (lvs Rs)) (h3 : lv ≤ 3) (hen : aen (ab Rs) < 900000) (hcc : cc < 1000000) (L0 : lf 0 h g) (E0 : tb_E h g) (hlv : alevel (ab Rs) = lv) (q : cc = npg (aou (ab Rs) (up lv (lvs Rs))) ∨ (1024 < cc ∧ 1024 < npg (aou (ab Rs) (up lv (lvs Rs))))) :
    am_Ex nm_pr (d + 7) mt_SR_mergeRuns (80, [.ref 2, .int (nI lv), .int (nI (up lv (lvs Rs))), .int (nI cc), w4], [], g) (fun o h' => (∃ x, o = .inl (some (.int x))) ∧ lf 1 h h' ∧ tb_E h h' ∧ ∃ Rs', cl_S P h' n Rs' ∧ ab Rs' = amerge P (ab Rs)) := by
  obtain ⟨hK, T, N, F, h9⟩ := id c
  obtain ⟨⟨k2, r0, r1, rr2, r3, r5, r8⟩, S0, P0, Sp0, B0, ⟨k8, r8', k9, n9⟩, i185, i215⟩ := id hK
  have P1024 := P0.2.2.2.2.2.2.2.2.2
  have hfz := fz_le (am_I g 22) P
  have hF := F.2
  have hap := apg_ab N.all
  have hkl : up lv (lvs Rs) ≤ Rs.length := by
    have := up_le lv (lvs Rs)
    unfold lvs at this ⊢
    rw [List.length_map] at this
    exact this
  have ham : amerge P (ab Rs) = amerge1 P (ab Rs) lv := by unfold amerge; rw [hlv]
  rw [ham]
  unfold amerge1
  rw [alv_ab, hap]
  refine am_go [91, 94] 5 ?_
  simp only [am_wp, am_stp, am_en, am_as, am_pad, am_nth, am_set, am_st1, am_st2, am_kl, am_kill, am_mem, am_fv, am_tk, am_wt, am_bk, Option.toList, List.cons_append, List.nil_append, Nat.reduceAdd, Nat.reduceEqDiff, Nat.reduceLeDiff, reduceIte, Nat.reduceLT, or_self, true_or, or_true, if_true, if_false, and_self, and_true, true_and, not_false_eq_true, not_true_eq_false, fd_SR_mergeRuns_80, fd_SR_mergeRuns_81, fd_SR_mergeRuns_82, fd_SR_mergeRuns_85, fd_SR_mergeRuns_88, k2, r1, Sp0.1, F.1]
  by_cases e : fz (am_I g 22) P < cc
  · have l1 : nI (fz (am_I g 22) P) < nI cc := nI_lt e (by omega)
    simp only [l1, am_wp, am_stp, am_en, am_as, am_pad, am_nth, am_set, am_st1, am_st2, am_kl, am_kill, am_mem, am_fv, am_tk, am_wt, am_bk, Option.toList, List.cons_append, List.nil_append, Nat.reduceAdd, Nat.reduceEqDiff, Nat.reduceLeDiff, reduceIte, Nat.reduceLT, or_self, true_or, or_true, if_true, if_false, and_self, and_true, true_and, not_false_eq_true, not_true_eq_false]
    refine am_go [] 2 ?_
    simp only [am_wp, am_stp, am_en, am_as, am_pad, am_nth, am_set, am_st1, am_st2, am_kl, am_kill, am_mem, am_fv, am_tk, am_wt, am_bk, Option.toList, List.cons_append, List.nil_append, Nat.reduceAdd, Nat.reduceEqDiff, Nat.reduceLeDiff, reduceIte, Nat.reduceLT, or_self, true_or, or_true, if_true, if_false, and_self, and_true, true_and, not_false_eq_true, not_true_eq_false, fd_SR_mergeRuns_91, fd_SR_mergeRuns_93]
    refine ⟨⟨_, rfl⟩, L0.mono (by omega), E0, Rs, c, ?_⟩
    rw [if_neg (by omega)]
  · have l1 : ¬ nI (fz (am_I g 22) P) < nI cc := nI_nlt (by omega) (by omega)
    have ecc : cc = npg (aou (ab Rs) (up lv (lvs Rs))) := by
      rcases q with q | q
      · exact q
      · omega
    simp only [l1, am_wp, am_stp, am_en, am_as, am_pad, am_nth, am_set, am_st1, am_st2, am_kl, am_kill, am_mem, am_fv, am_tk, am_wt, am_bk, Option.toList, List.cons_append, List.nil_append, Nat.reduceAdd, Nat.reduceEqDiff, Nat.reduceLeDiff, reduceIte, Nat.reduceLT, or_self, true_or, or_true, if_true, if_false, and_self, and_true, true_and, not_false_eq_true, not_true_eq_false]
    subst ecc
    refine am_go [] 5 ?_
    simp only [am_wp, am_stp, am_en, am_as, am_pad, am_nth, am_set, am_st1, am_st2, am_kl, am_kill, am_mem, am_fv, am_tk, am_wt, am_bk, Option.toList, List.cons_append, List.nil_append, Nat.reduceAdd, Nat.reduceEqDiff, Nat.reduceLeDiff, reduceIte, Nat.reduceLT, or_self, true_or, or_true, if_true, if_false, and_self, and_true, true_and, not_false_eq_true, not_true_eq_false, fd_SR_mergeRuns_94, fd_SR_mergeRuns_95, fd_SR_mergeRuns_96, fd_SR_mergeRuns_97, fd_SR_mergeRuns_98, k2]
    refine am_call (l2_writeMerged (d := d) (lv := lv) c h1 hkl h3 hen (by omega)) (fun o g1 z => ?_)
    obtain ⟨⟨x, rfl⟩, L1, E1, Rs', C1, e1⟩ := z
    simp only [am_wp, am_stp, am_en, am_as, am_pad, am_nth, am_set, am_st1, am_st2, am_kl, am_kill, am_mem, am_fv, am_tk, am_wt, am_bk, Option.toList, List.cons_append, List.nil_append, Nat.reduceAdd, Nat.reduceEqDiff, Nat.reduceLeDiff, reduceIte, Nat.reduceLT, or_self, true_or, or_true, if_true, if_false, and_self, and_true, true_and, not_false_eq_true, not_true_eq_false]
    refine am_go [] 1 ?_
    simp only [am_wp, am_stp, am_en, am_as, am_pad, am_nth, am_set, am_st1, am_st2, am_kl, am_kill, am_mem, am_fv, am_tk, am_wt, am_bk, Option.toList, List.cons_append, List.nil_append, Nat.reduceAdd, Nat.reduceEqDiff, Nat.reduceLeDiff, reduceIte, Nat.reduceLT, or_self, true_or, or_true, if_true, if_false, and_self, and_true, true_and, not_false_eq_true, not_true_eq_false, fd_SR_mergeRuns_101]
    refine ⟨⟨_, rfl⟩, ?_, E0.trans E1, Rs', C1, ?_⟩
    · have := L0.trans L1
      simpa using this
    · rw [if_pos (show npg (aou (ab Rs) (up lv (lvs Rs))) + (pgs Rs).length ≤ P - 2 by omega)]
      exact e1
theorem l2_mergeRuns {d P n : Nat} {Rs : List rn} {h : am_H} (c : cl_S P h n Rs) (hz : 0 < up 0 (lvs Rs)) (hen : aen (ab Rs) < 900000) : am_Rt nm_pr (d + 8) mi_SR_mergeRuns [.ref 2] h (fun o h' => (∃ x, o = .inl (some (.int x))) ∧ lf 1 h h' ∧ tb_E h h' ∧ ∃ Rs', cl_S P h' n Rs' ∧ ab Rs' = amerge P (ab Rs)) := by
  obtain ⟨hK, T, N, F, h9⟩ := id c
  obtain ⟨⟨k2, r0, r1, rr2, r3, r5, r8⟩, S0, P0, Sp0, B0, ⟨k8, r8', k9, n9⟩, i185, i215⟩ := id hK
  have ul := up_le 0 (lvs Rs)
  have hle2 : (lvs Rs).length ≤ 9 := by unfold lvs; rw [List.length_map]; exact N.2.2.1
  have u1 := up_mono (show 0 ≤ 1 by omega) (lvs Rs)
  have u2 := up_mono (show 1 ≤ 2 by omega) (lvs Rs)
  have u3 := up_mono (show 2 ≤ 3 by omega) (lvs Rs)
  have z : ¬ nI (up 0 (lvs Rs)) = 0 := nI_ne0 hz (by omega)
  have hal : alevel (ab Rs) = if npg (aou (ab Rs) (up 1 (lvs Rs))) ≤ 8 then 1 else if npg (aou (ab Rs) (up 2 (lvs Rs))) ≤ 24 then 2 else 3 := by
    unfold alevel
    rw [alv_ab]
  refine am_in' (d := d + 7) mt_SR_mergeRuns 5 rfl rfl rfl ?_
  refine am_go [] 4 ?_
  simp only [am_wp, am_stp, am_en, am_as, am_pad, am_nth, am_set, am_st1, am_st2, am_kl, am_kill, am_mem, am_fv, am_tk, am_wt, am_bk, Option.toList, List.cons_append, List.nil_append, Nat.reduceAdd, Nat.reduceEqDiff, Nat.reduceLeDiff, reduceIte, Nat.reduceLT, or_self, true_or, or_true, if_true, if_false, and_self, and_true, true_and, not_false_eq_true, not_true_eq_false, fd_SR_mergeRuns_0, fd_SR_mergeRuns_1, fd_SR_mergeRuns_4, fd_SR_mergeRuns_5, k2, r3, k8]
  refine am_call (l2_countUpTo (d := d + 6) (L := 0) hK (by decide) N) (fun o h1 q => ?_)
  obtain ⟨rfl, rfl⟩ := q
  simp only [am_wp, am_stp, am_en, am_as, am_pad, am_nth, am_set, am_st1, am_st2, am_kl, am_kill, am_mem, am_fv, am_tk, am_wt, am_bk, Option.toList, List.cons_append, List.nil_append, Nat.reduceAdd, Nat.reduceEqDiff, Nat.reduceLeDiff, reduceIte, Nat.reduceLT, or_self, true_or, or_true, if_true, if_false, and_self, and_true, true_and, not_false_eq_true, not_true_eq_false]
  refine am_go [11, 20] 7 ?_
  simp only [am_wp, am_stp, am_en, am_as, am_pad, am_nth, am_set, am_st1, am_st2, am_kl, am_kill, am_mem, am_fv, am_tk, am_wt, am_bk, Option.toList, List.cons_append, List.nil_append, Nat.reduceAdd, Nat.reduceEqDiff, Nat.reduceLeDiff, reduceIte, Nat.reduceLT, or_self, true_or, or_true, if_true, if_false, and_self, and_true, true_and, not_false_eq_true, not_true_eq_false, fd_SR_mergeRuns_8, fd_SR_mergeRuns_14, fd_SR_mergeRuns_15, fd_SR_mergeRuns_16, fd_SR_mergeRuns_17, fd_SR_mergeRuns_18, fd_SR_mergeRuns_19, z]
  have m1 : mostp 1 = 8 := rfl
  have m2 : mostp 2 = 24 := rfl
  have m3 : mostp 3 = 1024 := rfl
  have n13 : nI (0 + 1) < 3 := by decide
  have n23 : nI (1 + 1) < 3 := by decide
  have n33 : ¬ nI (2 + 1) < 3 := by decide
  refine l2_mr_round (l := 0) (t := 0) c (by omega) (by omega) hen (fun g1 c1 hc1 C1 L1 E1 q1 => ?_)
  refine am_go [72, 80] 3 ?_
  simp only [am_wp, am_stp, am_en, am_as, am_pad, am_nth, am_set, am_st1, am_st2, am_kl, am_kill, am_mem, am_fv, am_tk, am_wt, am_bk, Option.toList, List.cons_append, List.nil_append, Nat.reduceAdd, Nat.reduceEqDiff, Nat.reduceLeDiff, reduceIte, Nat.reduceLT, or_self, true_or, or_true, if_true, if_false, and_self, and_true, true_and, not_false_eq_true, not_true_eq_false, fd_SR_mergeRuns_67, fd_SR_mergeRuns_68, fd_SR_mergeRuns_69, n13]
  refine am_go [] 3 ?_
  simp only [am_wp, am_stp, am_en, am_as, am_pad, am_nth, am_set, am_st1, am_st2, am_kl, am_kill, am_mem, am_fv, am_tk, am_wt, am_bk, Option.toList, List.cons_append, List.nil_append, Nat.reduceAdd, Nat.reduceEqDiff, Nat.reduceLeDiff, reduceIte, Nat.reduceLT, or_self, true_or, or_true, if_true, if_false, and_self, and_true, true_and, not_false_eq_true, not_true_eq_false, fd_SR_mergeRuns_72, fd_SR_mergeRuns_73, fd_SR_mergeRuns_74]
  refine am_call (l2_mostPages (d := d + 6) (l := 1) (by omega) (by omega)) (fun o g1' q => ?_)
  obtain ⟨rfl, rfl⟩ := q
  simp only [am_wp, am_stp, am_en, am_as, am_pad, am_nth, am_set, am_st1, am_st2, am_kl, am_kill, am_mem, am_fv, am_tk, am_wt, am_bk, Option.toList, List.cons_append, List.nil_append, Nat.reduceAdd, Nat.reduceEqDiff, Nat.reduceLeDiff, reduceIte, Nat.reduceLT, or_self, true_or, or_true, if_true, if_false, and_self, and_true, true_and, not_false_eq_true, not_true_eq_false]
  refine am_go [20, 80] 1 ?_
  simp only [am_wp, am_stp, am_en, am_as, am_pad, am_nth, am_set, am_st1, am_st2, am_kl, am_kill, am_mem, am_fv, am_tk, am_wt, am_bk, Option.toList, List.cons_append, List.nil_append, Nat.reduceAdd, Nat.reduceEqDiff, Nat.reduceLeDiff, reduceIte, Nat.reduceLT, or_self, true_or, or_true, if_true, if_false, and_self, and_true, true_and, not_false_eq_true, not_true_eq_false, fd_SR_mergeRuns_77]
  have q1' : (c1 ≤ 8 ∧ c1 = npg (aou (ab Rs) (up 1 (lvs Rs)))) ∨ (8 < c1 ∧ 8 < npg (aou (ab Rs) (up 1 (lvs Rs)))) := q1
  rcases q1' with ⟨a1, a2⟩ | ⟨a1, a2⟩
  · have l1 : ¬ nI (mostp 1) < nI c1 := nI_nlt (by rw [m1]; exact a1) (by decide)
    simp only [l1, am_wp, am_stp, am_en, am_as, am_pad, am_nth, am_set, am_st1, am_st2, am_kl, am_kill, am_mem, am_fv, am_tk, am_wt, am_bk, Option.toList, List.cons_append, List.nil_append, Nat.reduceAdd, Nat.reduceEqDiff, Nat.reduceLeDiff, reduceIte, Nat.reduceLT, or_self, true_or, or_true, if_true, if_false, and_self, and_true, true_and, not_false_eq_true, not_true_eq_false]
    exact l2_mr_end (lv := 1) C1 (by omega) (by omega) hen hc1 L1 E1 (by rw [hal, if_pos (by omega)]) (Or.inl a2)
  · have l1 : nI (mostp 1) < nI c1 := nI_lt (by rw [m1]; exact a1) (by omega)
    simp only [l1, am_wp, am_stp, am_en, am_as, am_pad, am_nth, am_set, am_st1, am_st2, am_kl, am_kill, am_mem, am_fv, am_tk, am_wt, am_bk, Option.toList, List.cons_append, List.nil_append, Nat.reduceAdd, Nat.reduceEqDiff, Nat.reduceLeDiff, reduceIte, Nat.reduceLT, or_self, true_or, or_true, if_true, if_false, and_self, and_true, true_and, not_false_eq_true, not_true_eq_false]
    refine l2_mr_round (l := 1) C1 (by omega) (by omega) hen (fun g2 c2 hc2 C2 L2 E2 q2 => ?_)
    refine am_go [72, 80] 3 ?_
    simp only [am_wp, am_stp, am_en, am_as, am_pad, am_nth, am_set, am_st1, am_st2, am_kl, am_kill, am_mem, am_fv, am_tk, am_wt, am_bk, Option.toList, List.cons_append, List.nil_append, Nat.reduceAdd, Nat.reduceEqDiff, Nat.reduceLeDiff, reduceIte, Nat.reduceLT, or_self, true_or, or_true, if_true, if_false, and_self, and_true, true_and, not_false_eq_true, not_true_eq_false, fd_SR_mergeRuns_67, fd_SR_mergeRuns_68, fd_SR_mergeRuns_69, n23]
    refine am_go [] 3 ?_
    simp only [am_wp, am_stp, am_en, am_as, am_pad, am_nth, am_set, am_st1, am_st2, am_kl, am_kill, am_mem, am_fv, am_tk, am_wt, am_bk, Option.toList, List.cons_append, List.nil_append, Nat.reduceAdd, Nat.reduceEqDiff, Nat.reduceLeDiff, reduceIte, Nat.reduceLT, or_self, true_or, or_true, if_true, if_false, and_self, and_true, true_and, not_false_eq_true, not_true_eq_false, fd_SR_mergeRuns_72, fd_SR_mergeRuns_73, fd_SR_mergeRuns_74]
    refine am_call (l2_mostPages (d := d + 6) (l := 2) (by omega) (by omega)) (fun o g2' q => ?_)
    obtain ⟨rfl, rfl⟩ := q
    simp only [am_wp, am_stp, am_en, am_as, am_pad, am_nth, am_set, am_st1, am_st2, am_kl, am_kill, am_mem, am_fv, am_tk, am_wt, am_bk, Option.toList, List.cons_append, List.nil_append, Nat.reduceAdd, Nat.reduceEqDiff, Nat.reduceLeDiff, reduceIte, Nat.reduceLT, or_self, true_or, or_true, if_true, if_false, and_self, and_true, true_and, not_false_eq_true, not_true_eq_false]
    refine am_go [20, 80] 1 ?_
    simp only [am_wp, am_stp, am_en, am_as, am_pad, am_nth, am_set, am_st1, am_st2, am_kl, am_kill, am_mem, am_fv, am_tk, am_wt, am_bk, Option.toList, List.cons_append, List.nil_append, Nat.reduceAdd, Nat.reduceEqDiff, Nat.reduceLeDiff, reduceIte, Nat.reduceLT, or_self, true_or, or_true, if_true, if_false, and_self, and_true, true_and, not_false_eq_true, not_true_eq_false, fd_SR_mergeRuns_77]
    have L12 : lf 0 h1 g2' := by have := L1.trans L2; simpa using this
    have q2' : (c2 ≤ 24 ∧ c2 = npg (aou (ab Rs) (up 2 (lvs Rs)))) ∨ (24 < c2 ∧ 24 < npg (aou (ab Rs) (up 2 (lvs Rs)))) := q2
    rcases q2' with ⟨b1, b2⟩ | ⟨b1, b2⟩
    · have l2 : ¬ nI (mostp 2) < nI c2 := nI_nlt (by rw [m2]; exact b1) (by decide)
      simp only [l2, am_wp, am_stp, am_en, am_as, am_pad, am_nth, am_set, am_st1, am_st2, am_kl, am_kill, am_mem, am_fv, am_tk, am_wt, am_bk, Option.toList, List.cons_append, List.nil_append, Nat.reduceAdd, Nat.reduceEqDiff, Nat.reduceLeDiff, reduceIte, Nat.reduceLT, or_self, true_or, or_true, if_true, if_false, and_self, and_true, true_and, not_false_eq_true, not_true_eq_false]
      exact l2_mr_end (lv := 2) C2 (by omega) (by omega) hen hc2 L12 (E1.trans E2) (by rw [hal, if_neg (by omega), if_pos (by omega)]) (Or.inl b2)
    · have l2 : nI (mostp 2) < nI c2 := nI_lt (by rw [m2]; exact b1) (by omega)
      simp only [l2, am_wp, am_stp, am_en, am_as, am_pad, am_nth, am_set, am_st1, am_st2, am_kl, am_kill, am_mem, am_fv, am_tk, am_wt, am_bk, Option.toList, List.cons_append, List.nil_append, Nat.reduceAdd, Nat.reduceEqDiff, Nat.reduceLeDiff, reduceIte, Nat.reduceLT, or_self, true_or, or_true, if_true, if_false, and_self, and_true, true_and, not_false_eq_true, not_true_eq_false]
      refine l2_mr_round (l := 2) C2 (by omega) (by omega) hen (fun g3 c3 hc3 C3 L3 E3 q3 => ?_)
      refine am_go [72, 80] 3 ?_
      simp only [am_wp, am_stp, am_en, am_as, am_pad, am_nth, am_set, am_st1, am_st2, am_kl, am_kill, am_mem, am_fv, am_tk, am_wt, am_bk, Option.toList, List.cons_append, List.nil_append, Nat.reduceAdd, Nat.reduceEqDiff, Nat.reduceLeDiff, reduceIte, Nat.reduceLT, or_self, true_or, or_true, if_true, if_false, and_self, and_true, true_and, not_false_eq_true, not_true_eq_false, fd_SR_mergeRuns_67, fd_SR_mergeRuns_68, fd_SR_mergeRuns_69, n33]
      have L13 : lf 0 h1 g3 := by have := L12.trans L3; simpa using this
      have q3' : (c3 ≤ 1024 ∧ c3 = npg (aou (ab Rs) (up 3 (lvs Rs)))) ∨ (1024 < c3 ∧ 1024 < npg (aou (ab Rs) (up 3 (lvs Rs)))) := q3
      refine l2_mr_end (lv := 3) C3 (by omega) (by omega) hen hc3 L13 ((E1.trans E2).trans E3) (by rw [hal, if_neg (by omega), if_neg (by omega)]) ?_
      rcases q3' with q | q
      · exact Or.inl q.2
      · exact Or.inr q
