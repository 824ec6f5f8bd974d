/-! A MERGE IS WRITTEN -/
theorem nw_D.kd {P i : Nat} {h : am_H} {Rs : List rn} (N : nw_D P h Rs i) : ∀ j, j < Rs.length → am_kd h (am_R h 9 j) = 5 := fun j hj => by
  obtain ⟨x1, x2, x3, x4⟩ := N.1 j _ (List.getElem?_eq_getElem hj)
  rw [x1]
  exact x3
theorem nw_D.drop {P k : Nat} {h h' : am_H} {Rs : List rn} (N : nw_D P h Rs k) (q : df_Q h h' Rs.length k) (hk : k ≤ Rs.length) : nw_R P h' (Rs.drop k) := by
  obtain ⟨c1, c2, c3, c4, c5⟩ := N
  obtain ⟨f, q2, q3, q4, q5, q6⟩ := q
  have fr : fr_P h h' [] := fr_P.of (f.2.2.2.2.2.1 20 (by simp)) (f.2.2.2.2.2.1 22 (by simp)) (f.2.2.2.2.2.1 23 (by simp)) (f.2.2.2.2.2.2.1 24 (by simp)) (f.2.2.2.2.2.1 19 (by simp))
  refine ⟨fun i r hr => ?_, by rw [q2, List.length_drop], by rw [List.length_drop]; omega, ?_, ?_⟩
  · rw [List.getElem?_drop] at hr
    have hi := (List.getElem?_eq_some_iff.mp hr).1
    obtain ⟨x1, x2, x3, x4⟩ := c1 (k + i) r hr
    refine ⟨?_, by rw [f.1]; exact x2, (x4 (by omega)).fr (by rw [f.2.2.2.1]) (f.2.2.2.2.2.1 r.1 (by simp; omega)) fr (by simp)⟩
    rw [q4]
    dsimp only
    rw [if_pos (by omega), Nat.add_comm i k]
    exact x1
  · rw [List.map_drop]
    exact c4.sublist (List.drop_sublist _ _)
  · have e : pgs Rs = pgs (Rs.take k) ++ pgs (Rs.drop k) := by
      unfold pgs
      rw [← List.flatMap_append, List.take_append_drop]
    rw [e] at c5
    exact (List.nodup_append.mp c5).2.1
theorem pgs_app (A B : List rn) : pgs (A ++ B) = pgs A ++ pgs B := by unfold pgs; rw [List.flatMap_append]
/-- behind the runs let go: the list, the head -/
theorem l2_wm_rest {d P n k c np' a5 : Nat} {a1 a4 : Int32} {w : Value} {Rs mk : List rn} {h g : am_H} (hk1 : 1 ≤ k) (hk : k ≤ Rs.length) (hc : c < 5000) (hmk : (mk = [] ∧ c = 0) ∨ (∃ r, mk = [r] ∧ 0 < c ∧ a5 = r.1)) (hnp : np' = (pgs mk).length) (hx9 : 109 ≤ am_nx h) (I : lg_I P n h g Rs mk 0 np') (hmd : (pgs mk).Nodup) :
    am_Ex nm_pr (d + 6) mt_SR_writeMerged (46, [.ref 2, .int a1, .int (nI k), .int (nI c), .int a4, .ref a5, w], [], g) (fun o h' => (∃ x, o = .inl (some (.int x))) ∧ lf 0 h h' ∧ tb_E h h' ∧ am_nx h' = am_nx h ∧ cl_S P h' n (mk ++ Rs.drop k)) := by
  refine am_go [49] 2 ?_
  simp only [am_wp, am_stp, am_en, am_as, am_pad, am_nth, am_set, am_st1, am_st2, am_kl, am_kill, am_mem, am_fv, am_tk, am_wt, am_bk, Option.toList, List.cons_append, List.nil_append, Nat.reduceAdd, Nat.reduceEqDiff, Nat.reduceLeDiff, reduceIte, Nat.reduceLT, or_self, true_or, or_true, if_true, if_false, and_self, and_true, true_and, not_false_eq_true, not_true_eq_false, fd_SR_writeMerged_46, fd_SR_writeMerged_47]
  refine l2_let_loop (d := d + 3) hk (fun g1 I1 => ?_) k 0 g (by omega) I
  obtain ⟨K1, T1, N1, M1, ⟨s1, s2⟩, nx1, L1, E1⟩ := id I1
  obtain ⟨⟨k2, r0, r1, rr2, r3, r5, r8⟩, S0, P0, Sp0, B0, ⟨k8, r8', k9, n9⟩, i185, i215⟩ := id K1
  refine am_go [] 4 ?_
  simp only [am_wp, am_stp, am_en, am_as, am_pad, am_nth, am_set, am_st1, am_st2, am_kl, am_kill, am_mem, am_fv, am_tk, am_wt, am_bk, Option.toList, List.cons_append, List.nil_append, Nat.reduceAdd, Nat.reduceEqDiff, Nat.reduceLeDiff, reduceIte, Nat.reduceLT, or_self, true_or, or_true, if_true, if_false, and_self, and_true, true_and, not_false_eq_true, not_true_eq_false, fd_SR_writeMerged_82, fd_SR_writeMerged_83, fd_SR_writeMerged_86, fd_SR_writeMerged_87, k2, r3, k8]
  refine am_call (l2_dropFirst (d := d + 5) k8 r8' k9 n9 N1.2.1 N1.2.2.1 hk N1.kd) (fun o g2 z => ?_)
  obtain ⟨rfl, Q2⟩ := z
  have NW2 := N1.drop Q2 hk
  obtain ⟨f2, -, e8, -, -, -⟩ := id Q2
  have K2 : sk_K P g2 := K1.ls f2 e8 (by simp)
  have T2 : tb_S g2 n := T1.fx f2 (by simp)
  have fr2 : fr_P g1 g2 [] := fr_P.of (f2.2.2.2.2.2.1 20 (by simp)) (f2.2.2.2.2.2.1 22 (by simp)) (f2.2.2.2.2.2.1 23 (by simp)) (f2.2.2.2.2.2.2.1 24 (by simp)) (f2.2.2.2.2.2.1 19 (by simp))
  have G2 : sp_F P g2 (pgs (mk ++ Rs.drop k)).length := by
    refine ⟨by rw [f2.2.2.2.2.2.1 21 (by simp), f2.2.2.2.2.2.1 22 (by simp)]; exact s1, ?_⟩
    rw [f2.2.2.2.2.2.1 22 (by simp), pgs_app, List.length_append]
    omega
  have L2 : lf 0 h g2 := by have := L1.trans (lf.fx f2 (by simp)); simpa using this
  have E2 : tb_E h g2 := E1.trans (tb_E.fx f2 (by simp))
  -- the head, whatever the list
  have head : ∀ (g3 : am_H) (Rs' : List rn), sk_K P g3 → tb_S g3 n → nw_R P g3 Rs' → sp_F P g3 (pgs Rs').length → am_nx g3 = am_nx h → lf 0 h g3 → tb_E h g3 → am_Ex nm_pr (d + 6) mt_SR_writeMerged (103, [.ref 2, .int a1, .int (nI k), .int (nI c), .int a4, .ref a5, .int (nI k)], [], g3) (fun o h' => (∃ x, o = .inl (some (.int x))) ∧ lf 0 h h' ∧ tb_E h h' ∧ am_nx h' = am_nx h ∧ cl_S P h' n Rs') := by
    intro g3 Rs' K3 T3 N3 G3 nx3 L3 E3
    have k2c := K3.1.1
    refine am_go [] 2 ?_
    simp only [am_wp, am_stp, am_en, am_as, am_pad, am_nth, am_set, am_st1, am_st2, am_kl, am_kill, am_mem, am_fv, am_tk, am_wt, am_bk, Option.toList, List.cons_append, List.nil_append, Nat.reduceAdd, Nat.reduceEqDiff, Nat.reduceLeDiff, reduceIte, Nat.reduceLT, or_self, true_or, or_true, if_true, if_false, and_self, and_true, true_and, not_false_eq_true, not_true_eq_false, fd_SR_writeMerged_103, fd_SR_writeMerged_104, k2c]
    refine am_call (l2_writeHead (d := d + 2) K3 N3.2.1 N3.2.2.1 N3.kd) (fun o g4 z => ?_)
    obtain ⟨rfl, Q4⟩ := z
    have NW4 := N3.wh Q4
    obtain ⟨F4, m2, K4, m4⟩ := id Q4
    simp only [am_wp, am_stp, am_en, am_as, am_pad, am_nth, am_set, am_st1, am_st2, am_kl, am_kill, am_mem, am_fv, am_tk, am_wt, am_bk, Option.toList, List.cons_append, List.nil_append, Nat.reduceAdd, Nat.reduceEqDiff, Nat.reduceLeDiff, reduceIte, Nat.reduceLT, or_self, true_or, or_true, if_true, if_false, and_self, and_true, true_and, not_false_eq_true, not_true_eq_false]
    refine am_go [114, 119] 3 ?_
    simp only [am_wp, am_stp, am_en, am_as, am_pad, am_nth, am_set, am_st1, am_st2, am_kl, am_kill, am_mem, am_fv, am_tk, am_wt, am_bk, Option.toList, List.cons_append, List.nil_append, Nat.reduceAdd, Nat.reduceEqDiff, Nat.reduceLeDiff, reduceIte, Nat.reduceLT, or_self, true_or, or_true, if_true, if_false, and_self, and_true, true_and, not_false_eq_true, not_true_eq_false, fd_SR_writeMerged_107, fd_SR_writeMerged_108, fd_SR_writeMerged_111, K4.1.1, K4.2.2.2.2.2.2.2]
    refine am_go [] 6 ?_
    simp only [am_wp, am_stp, am_en, am_as, am_pad, am_nth, am_set, am_st1, am_st2, am_kl, am_kill, am_mem, am_fv, am_tk, am_wt, am_bk, Option.toList, List.cons_append, List.nil_append, Nat.reduceAdd, Nat.reduceEqDiff, Nat.reduceLeDiff, reduceIte, Nat.reduceLT, or_self, true_or, or_true, if_true, if_false, and_self, and_true, true_and, not_false_eq_true, not_true_eq_false, fd_SR_writeMerged_119, fd_SR_writeMerged_120, fd_SR_writeMerged_123, fd_SR_writeMerged_126, fd_SR_writeMerged_128, fd_SR_writeMerged_129, K4.1.1, K4.1.2.2.1, K4.2.2.2.1.1]
    have nx4 : am_nx g4 = am_nx h := F4.1.trans nx3
    refine ⟨⟨_, rfl⟩, ?_, E3.trans (tb_E.fx F4.fx (by simp)), nx4, K4, T3.fi F4 (by simp), NW4, G3.fi F4 (by simp), by omega⟩
    have := L3.trans (lf.fi F4 (by simp))
    simpa using this
  simp only [am_wp, am_stp, am_en, am_as, am_pad, am_nth, am_set, am_st1, am_st2, am_kl, am_kill, am_mem, am_fv, am_tk, am_wt, am_bk, Option.toList, List.cons_append, List.nil_append, Nat.reduceAdd, Nat.reduceEqDiff, Nat.reduceLeDiff, reduceIte, Nat.reduceLT, or_self, true_or, or_true, if_true, if_false, and_self, and_true, true_and, not_false_eq_true, not_true_eq_false]
  rcases hmk with ⟨e1, e2⟩ | ⟨r, e1, e2, e3⟩
  · subst e1
    have l0 : ¬ (0 : Int32) < nI c := by rw [e2]; decide
    refine am_go [94, 103] 2 ?_
    simp only [am_wp, am_stp, am_en, am_as, am_pad, am_nth, am_set, am_st1, am_st2, am_kl, am_kill, am_mem, am_fv, am_tk, am_wt, am_bk, Option.toList, List.cons_append, List.nil_append, Nat.reduceAdd, Nat.reduceEqDiff, Nat.reduceLeDiff, reduceIte, Nat.reduceLT, or_self, true_or, or_true, if_true, if_false, and_self, and_true, true_and, not_false_eq_true, not_true_eq_false, fd_SR_writeMerged_90, fd_SR_writeMerged_91, l0]
    exact head g2 (Rs.drop k) K2 T2 NW2 G2 (f2.1.trans nx1) L2 E2
  · subst e1
    subst e3
    have l0 : (0 : Int32) < nI c := nI_gt0 e2 (by omega)
    obtain ⟨m1, m2, m3, m4⟩ := M1 r (by simp)
    have R2 : rn_0 P g2 r := m1.fr (by rw [f2.2.2.2.1]) (f2.2.2.2.2.2.1 r.1 (by simp; omega)) fr2 (by simp)
    obtain ⟨⟨k2b, r0b, r1b, rr2b, r3b, r5b, r8b⟩, S2, P2, Sp2, B2, ⟨k8b, r8b', k9b, n9b⟩, i185b, i215b⟩ := id K2
    refine am_go [94, 103] 2 ?_
    simp only [am_wp, am_stp, am_en, am_as, am_pad, am_nth, am_set, am_st1, am_st2, am_kl, am_kill, am_mem, am_fv, am_tk, am_wt, am_bk, Option.toList, List.cons_append, List.nil_append, Nat.reduceAdd, Nat.reduceEqDiff, Nat.reduceLeDiff, reduceIte, Nat.reduceLT, or_self, true_or, or_true, if_true, if_false, and_self, and_true, true_and, not_false_eq_true, not_true_eq_false, fd_SR_writeMerged_90, fd_SR_writeMerged_91, l0]
    refine am_go [] 4 ?_
    simp only [am_wp, am_stp, am_en, am_as, am_pad, am_nth, am_set, am_st1, am_st2, am_kl, am_kill, am_mem, am_fv, am_tk, am_wt, am_bk, Option.toList, List.cons_append, List.nil_append, Nat.reduceAdd, Nat.reduceEqDiff, Nat.reduceLeDiff, reduceIte, Nat.reduceLT, or_self, true_or, or_true, if_true, if_false, and_self, and_true, true_and, not_false_eq_true, not_true_eq_false, fd_SR_writeMerged_94, fd_SR_writeMerged_95, fd_SR_writeMerged_98, fd_SR_writeMerged_100, k2b, r3b, k8b]
    have hl : (Rs.drop k).length < 9 := by rw [List.length_drop]; have := N1.2.2.1; omega
    refine am_call (l2_putFirst (d := d + 5) k8b r8b' k9b n9b NW2.2.1 hl NW2.kd R2.1.1 (by omega)) (fun o g3 z => ?_)
    obtain ⟨rfl, Q3⟩ := z
    have hdis : (rn_p r ++ pgs (Rs.drop k)).Nodup := by
      refine List.nodup_append.mpr ⟨?_, NW2.2.2.2.2, fun x hx y hy e => ?_⟩
      · have : pgs [r] = rn_p r := by simp [pgs]
        rw [← this]; exact hmd
      · refine m4 x hx ?_
        rw [e]
        obtain ⟨z, z1, z2⟩ := List.mem_flatMap.mp hy
        exact List.mem_flatMap.mpr ⟨z, List.mem_of_mem_drop z1, z2⟩
    have NW3 := NW2.put Q3 R2 ⟨m2.1, by rw [f2.1]; exact m2.2⟩ (fun hm => m3 (by
      obtain ⟨z, z1, z2⟩ := List.mem_map.mp hm
      exact List.mem_map.mpr ⟨z, List.mem_of_mem_drop z1, z2⟩)) hl hdis
    have f3 := Q3.1
    have K3 : sk_K P g3 := K2.ls f3 Q3.2.2.1 (by simp; omega)
    simp only [am_wp, am_stp, am_en, am_as, am_pad, am_nth, am_set, am_st1, am_st2, am_kl, am_kill, am_mem, am_fv, am_tk, am_wt, am_bk, Option.toList, List.cons_append, List.nil_append, Nat.reduceAdd, Nat.reduceEqDiff, Nat.reduceLeDiff, reduceIte, Nat.reduceLT, or_self, true_or, or_true, if_true, if_false, and_self, and_true, true_and, not_false_eq_true, not_true_eq_false]
    exact head g3 ([r] ++ Rs.drop k) K3 (T2.fx f3 (by simp; omega)) NW3 (G2.fx f3 (by simp; omega)) (f3.1.trans (f2.1.trans nx1)) (by have := L2.trans (lf.fx f3 (by simp; omega)); simpa using this) (E2.trans (tb_E.fx f3 (by simp; omega)))
theorem bi_take_snd (Rs : List rn) (k : Nat) : (bi 0 (Rs.take k)).map (·.2) = ((ab Rs).take k).map (·.2) := by
  rw [bi_snd]
  simp [ab, List.map_take]
  rfl
theorem bi_mem : ∀ (Rs : List rn) (k : Nat) (x : Nat × List ent), x ∈ bi k Rs → ∃ r ∈ Rs, x.2 = ch_E r.2.2
  | [], k, x, h => by simp [bi] at h
  | r :: Rs, k, x, h => by
    simp only [bi, List.mem_cons] at h
    rcases h with e | e
    · exact ⟨r, by simp, by rw [e]⟩
    · obtain ⟨y, y1, y2⟩ := bi_mem Rs (k + 1) x e
      exact ⟨y, by simp [y1], y2⟩
/-- how many entries in all -/
def aen (As : List ar) : Nat := (As.map (fun a => a.2.length)).sum
theorem bi_tot : ∀ (Rs : List rn) (k : Nat), tot (bi k Rs) = aen (ab Rs)
  | [], k => rfl
  | r :: Rs, k => by
    have := bi_tot Rs (k + 1)
    simp only [bi, tot, aen, ab, List.map_cons, List.sum_cons] at this ⊢
    rw [this]
theorem aen_take (As : List ar) (k : Nat) : aen (As.take k) ≤ aen As := by
  have e : aen As = aen (As.take k) + aen (As.drop k) := by
    unfold aen
    rw [← List.sum_append, ← List.map_append, List.take_append_drop]
  omega
theorem rp_ok {L : List ent} (h : so L ∧ ∀ e ∈ L, eo e) : so (rp L) ∧ ∀ e ∈ rp L, eo e := by
  obtain ⟨h1, h2⟩ := h
  constructor
  · clear h2
    induction L with
    | nil => trivial
    | cons e L ih =>
      have ih := ih h1.2
      unfold rp at *
      by_cases q : e.2.1 = 2
      · simpa [q] using ih
      · have e1 : ((e :: L).filter (fun e => decide (e.2.1 ≠ 2))).map (fun e => ((e.1, 1, e.2.2) : ent)) = (e.1, 1, e.2.2) :: (L.filter (fun e => decide (e.2.1 ≠ 2))).map (fun e => ((e.1, 1, e.2.2) : ent)) := by simp [q]
        rw [e1]
        refine ⟨fun x hx => ?_, ih⟩
        obtain ⟨y, y1, y2⟩ := List.mem_map.mp hx
        rw [← y2]
        exact h1.1 y (List.mem_filter.mp y1).1
  · intro e he
    unfold rp at he
    obtain ⟨y, y1, y2⟩ := List.mem_map.mp he
    rw [← y2]
    exact ⟨Or.inl rfl, fun z => absurd (show (1 : Int32) = 2 from z) (by decide)⟩
theorem l2_writeMerged {d P n k lv : Nat} {Rs : List rn} {h : am_H} (c : cl_S P h n Rs) (hk1 : 1 ≤ k) (hk : k ≤ Rs.length) (hlv : lv ≤ 3) (hen : aen (ab Rs) < 900000) (hfr : npg (aou (ab Rs) k) + (pgs Rs).length ≤ P - 2) : am_Rt nm_pr (d + 7) mi_SR_writeMerged [.ref 2, .int (nI lv), .int (nI k), .int (nI (npg (aou (ab Rs) k)))] h (fun o h' => (∃ x, o = .inl (some (.int x))) ∧ lf 1 h h' ∧ tb_E h h' ∧ ∃ Rs', cl_S P h' n Rs' ∧ ab Rs' = if npg (aou (ab Rs) k) = 0 then (ab Rs).drop k else (lv, aou (ab Rs) k) :: (ab Rs).drop k) := by
  obtain ⟨hK, T, N, F, hx⟩ := id c
  obtain ⟨⟨k2, r0, r1, rr2, r3, r5, r8⟩, S0, P0, Sp0, B0, ⟨k8, r8', k9, n9⟩, i185, i215⟩ := id hK
  have P1024 := P0.2.2.2.2.2.2.2.2.2
  have n1 : (200 ≤ 200 ∧ 200 < 204) := by decide
  have i0 : ((0 : Int32) < 0 ∨ 9 ≤ (0 : Int32).toNatClampNeg) = False := by decide
  have hablen : (ab Rs).length = Rs.length := by simp [ab]
  have habd : (ab Rs).drop k = ab (Rs.drop k) := by simp [ab, List.map_drop]
  have hO : ∀ x ∈ bi 0 (Rs.take k), so x.2 ∧ ∀ e ∈ x.2, eo e := fun x hx' => by
    obtain ⟨r, r1, r2⟩ := bi_mem _ _ _ hx'
    have := N.all r (List.mem_of_mem_take r1)
    rw [r2]
    exact ⟨this.2.2.2.2.2.2.1, this.2.2.2.2.2.2.2⟩
  have hou : ou (decide (k = Rs.length)) ((bi 0 (Rs.take k)).map (·.2)) = aou (ab Rs) k := by
    unfold aou
    rw [bi_take_snd, hablen]
  have htot : tot (bi 0 (Rs.take k)) < 900000 := by
    rw [bi_tot]
    have e : ab (Rs.take k) = (ab Rs).take k := by simp [ab, List.map_take]
    rw [e]
    have := aen_take (ab Rs) k
    omega
  have hall := bm_all (Ls := (bi 0 (Rs.take k)).map (·.2)) (fun L hL => by
    obtain ⟨x, hx, rfl⟩ := List.mem_map.mp hL
    exact hO x hx)
  have hLok : so (aou (ab Rs) k) ∧ ∀ e ∈ aou (ab Rs) k, eo e := by
    rw [← hou]
    unfold ou
    split
    · exact rp_ok hall
    · exact hall
  refine am_in' (d := d + 6) mt_SR_writeMerged 7 rfl rfl rfl ?_
  refine am_go [] 4 ?_
  simp only [am_wp, am_stp, am_en, am_as, am_pad, am_nth, am_set, am_st1, am_st2, am_kl, am_kill, am_mem, am_fv, am_tk, am_wt, am_bk, Option.toList, List.cons_append, List.nil_append, Nat.reduceAdd, Nat.reduceEqDiff, Nat.reduceLeDiff, reduceIte, Nat.reduceLT, or_self, true_or, or_true, if_true, if_false, and_self, and_true, true_and, not_false_eq_true, not_true_eq_false, fd_SR_writeMerged_0, fd_SR_writeMerged_1, fd_SR_writeMerged_4, fd_SR_writeMerged_7, k2, r1, Sp0.1]
  refine am_go [] 6 ?_
  simp only [am_wp, am_stp, am_en, am_as, am_pad, am_nth, am_set, am_st1, am_st2, am_kl, am_kill, am_mem, am_fv, am_tk, am_wt, am_bk, Option.toList, List.cons_append, List.nil_append, Nat.reduceAdd, Nat.reduceEqDiff, Nat.reduceLeDiff, reduceIte, Nat.reduceLT, or_self, true_or, or_true, if_true, if_false, and_self, and_true, true_and, not_false_eq_true, not_true_eq_false, fd_SR_writeMerged_9, fd_SR_writeMerged_10, fd_SR_writeMerged_13, fd_SR_writeMerged_16, fd_SR_writeMerged_17, fd_SR_writeMerged_18, k2, r3, k8, r8', k9, n9, n1, i0]
  by_cases h0 : npg (aou (ab Rs) k) = 0
  · have l0 : ¬ (0 : Int32) < nI (npg (aou (ab Rs) k)) := by rw [h0]; decide
    refine am_go [24, 46] 2 ?_
    simp only [am_wp, am_stp, am_en, am_as, am_pad, am_nth, am_set, am_st1, am_st2, am_kl, am_kill, am_mem, am_fv, am_tk, am_wt, am_bk, Option.toList, List.cons_append, List.nil_append, Nat.reduceAdd, Nat.reduceEqDiff, Nat.reduceLeDiff, reduceIte, Nat.reduceLT, or_self, true_or, or_true, if_true, if_false, and_self, and_true, true_and, not_false_eq_true, not_true_eq_false, fd_SR_writeMerged_20, fd_SR_writeMerged_21, l0]
    have I : lg_I P n h h Rs [] 0 0 := ⟨hK, T, N.D, by simp, ⟨F.1, by rw [List.drop_zero]; exact F.2⟩, rfl, lf.refl, ⟨rfl, rfl, rfl⟩⟩
    refine am_Ex_mono (fun o h' z => ?_) (l2_wm_rest (d := d) hk1 hk (by omega) (Or.inl ⟨rfl, h0⟩) (by simp [pgs]) hx I (by simp [pgs]))
    obtain ⟨z1, z2, z3, z4, z5⟩ := z
    refine ⟨z1, z2.mono (by omega), z3, _, z5, ?_⟩
    rw [if_pos h0, habd]
    rfl
  · have l0 : (0 : Int32) < nI (npg (aou (ab Rs) k)) := nI_gt0 (by omega) (by omega)
    have hne : aou (ab Rs) k ≠ [] := fun z => h0 (npg_0.mpr z)
    refine am_go [24, 46] 2 ?_
    simp only [am_wp, am_stp, am_en, am_as, am_pad, am_nth, am_set, am_st1, am_st2, am_kl, am_kill, am_mem, am_fv, am_tk, am_wt, am_bk, Option.toList, List.cons_append, List.nil_append, Nat.reduceAdd, Nat.reduceEqDiff, Nat.reduceLeDiff, reduceIte, Nat.reduceLT, or_self, true_or, or_true, if_true, if_false, and_self, and_true, true_and, not_false_eq_true, not_true_eq_false, fd_SR_writeMerged_20, fd_SR_writeMerged_21, l0]
    refine am_go [] 3 ?_
    simp only [am_wp, am_stp, am_en, am_as, am_pad, am_nth, am_set, am_st1, am_st2, am_kl, am_kill, am_mem, am_fv, am_tk, am_wt, am_bk, Option.toList, List.cons_append, List.nil_append, Nat.reduceAdd, Nat.reduceEqDiff, Nat.reduceLeDiff, reduceIte, Nat.reduceLT, or_self, true_or, or_true, if_true, if_false, and_self, and_true, true_and, not_false_eq_true, not_true_eq_false, fd_SR_writeMerged_24, fd_SR_writeMerged_25, fd_SR_writeMerged_26, k2]
    refine am_call (l2_blendRuns (d := d + 1) hK N hk) (fun o g1 z => ?_)
    obtain ⟨rfl, F1, K1, B1, j1⟩ := z
    have k2a := K1.1.1
    have N1 : nw_R P g1 Rs := N.fx F1 (by unfold br_w; simp)
    have G1 : sp_F P g1 (pgs Rs).length := F.fx F1 (by decide)
    have T1 : tb_S g1 n := T.fx F1 (by decide)
    simp only [am_wp, am_stp, am_en, am_as, am_pad, am_nth, am_set, am_st1, am_st2, am_kl, am_kill, am_mem, am_fv, am_tk, am_wt, am_bk, Option.toList, List.cons_append, List.nil_append, Nat.reduceAdd, Nat.reduceEqDiff, Nat.reduceLeDiff, reduceIte, Nat.reduceLT, or_self, true_or, or_true, if_true, if_false, and_self, and_true, true_and, not_false_eq_true, not_true_eq_false]
    refine am_go [] 3 ?_
    simp only [am_wp, am_stp, am_en, am_as, am_pad, am_nth, am_set, am_st1, am_st2, am_kl, am_kill, am_mem, am_fv, am_tk, am_wt, am_bk, Option.toList, List.cons_append, List.nil_append, Nat.reduceAdd, Nat.reduceEqDiff, Nat.reduceLeDiff, reduceIte, Nat.reduceLT, or_self, true_or, or_true, if_true, if_false, and_self, and_true, true_and, not_false_eq_true, not_true_eq_false, fd_SR_writeMerged_29, fd_SR_writeMerged_30, fd_SR_writeMerged_31, k2a]
    have hG := G1.2
    have hW := l2_writeRun (d := d) (lv := nI lv) (old := decide (k = Rs.length)) (by rw [F1.1]; exact hx) K1 B1 j1 hO htot (by rw [hou]; exact hne) (by rw [hou]; omega) G1.1
    rw [hou] at hW
    refine am_call hW (fun o g2 q => ?_)
    obtain ⟨rfl, ps, Q2⟩ := q
    have NW2 : nw_R P g2 Rs := N1.nr Q2 (by rw [F1.1]; exact hx)
    have R2 := Q2.rn0 (lv := lv) hLok.1 hLok.2 hne hlv
    have L2 : lf 1 g1 g2 := lf.nr Q2 (by rw [F1.1]; exact hx)
    obtain ⟨⟨x1, x2, x3⟩, x4, x5, x6, K2, ⟨y1, y2, y3, y4, y5⟩, z1, z2, z3, z4, ⟨z5, z6⟩, z7, z8⟩ := id Q2
    have nlo : ∀ x, x < 14 → x ≠ 2 → x ∉ 2 :: wr_w := fun x h1 h2 => by unfold wr_w; simp; omega
    have nx1 : am_nx g1 = am_nx h := F1.1
    have lo4 : ∀ x, x < 14 → x ≠ 2 → _ := fun x h1 h2 => x4 x (by omega) (nlo x h1 h2)
    have T2 : tb_S g2 n := by
      unfold tb_S at *
      rw [(lo4 3 (by decide) (by decide)).1, (lo4 3 (by decide) (by decide)).2.2.2.2, (lo4 3 (by decide) (by decide)).2.2.1, (lo4 4 (by decide) (by decide)).1, (lo4 4 (by decide) (by decide)).2.1, (lo4 5 (by decide) (by decide)).1, (lo4 5 (by decide) (by decide)).2.1, (lo4 6 (by decide) (by decide)).1, (lo4 6 (by decide) (by decide)).2.1, (lo4 7 (by decide) (by decide)).1]
      exact T1
    have E2 : tb_E g1 g2 := ⟨(lo4 4 (by decide) (by decide)).2.2.2.1, (lo4 5 (by decide) (by decide)).2.2.1, (lo4 6 (by decide) (by decide)).2.2.2.1⟩
    simp only [am_wp, am_stp, am_en, am_as, am_pad, am_nth, am_set, am_st1, am_st2, am_kl, am_kill, am_mem, am_fv, am_tk, am_wt, am_bk, Option.toList, List.cons_append, List.nil_append, Nat.reduceAdd, Nat.reduceEqDiff, Nat.reduceLeDiff, reduceIte, Nat.reduceLT, or_self, true_or, or_true, if_true, if_false, and_self, and_true, true_and, not_false_eq_true, not_true_eq_false]
    refine am_go [43, 46] 4 ?_
    simp only [am_wp, am_stp, am_en, am_as, am_pad, am_nth, am_set, am_st1, am_st2, am_kl, am_kill, am_mem, am_fv, am_tk, am_wt, am_bk, Option.toList, List.cons_append, List.nil_append, Nat.reduceAdd, Nat.reduceEqDiff, Nat.reduceLeDiff, reduceIte, Nat.reduceLT, or_self, true_or, or_true, if_true, if_false, and_self, and_true, true_and, not_false_eq_true, not_true_eq_false, fd_SR_writeMerged_34, fd_SR_writeMerged_36, fd_SR_writeMerged_37, fd_SR_writeMerged_40, K2.1.1, K2.2.2.2.2.2.2.2]
    have na : am_nx g1 ∉ Rs.map (·.1) := fun hm => by
      obtain ⟨r, e1, e2⟩ := List.mem_map.mp hm
      obtain ⟨i, hi⟩ := List.getElem?_of_mem e1
      have := (N1.1 i r hi).2.1.2
      omega
    have hdis : ∀ p ∈ rn_p (am_nx g1, lv, ps), p ∉ pgs Rs := fun p hp hy => by
      obtain ⟨r, e1, e2⟩ := List.mem_flatMap.mp hy
      obtain ⟨i, hi⟩ := List.getElem?_of_mem e1
      obtain ⟨w, w1, w2⟩ := List.mem_map.mp hp
      have h1' := ((N1.1 i r hi).2.2.held p e2).2.2
      have h2' := (z2 w w1).2.1
      rw [w2] at h2'
      rw [h2'] at h1'
      exact absurd h1' (by decide)
    have hpl : (pgs [(am_nx g1, lv, ps)]).length = ps.length := by simp [pgs, rn_p]
    have I : lg_I P n g2 g2 Rs [(am_nx g1, lv, ps)] 0 ps.length := by
      refine ⟨K2, T2, NW2.D, fun r hr => ?_, ⟨z6, by rw [List.drop_zero]; omega⟩, rfl, lf.refl, ⟨rfl, rfl, rfl⟩⟩
      have e : r = (am_nx g1, lv, ps) := by simpa using hr
      subst e
      exact ⟨R2, ⟨by show 109 ≤ am_nx g1; omega, by show am_nx g1 < am_nx g2; omega⟩, na, hdis⟩
    refine am_Ex_mono (fun o h' z => ?_) (l2_wm_rest (d := d) (a5 := am_nx g1) hk1 hk (show npg (aou (ab Rs) k) < 5000 by omega) (Or.inr ⟨_, rfl, by omega, rfl⟩) hpl.symm (by omega) I (by simpa [pgs, rn_p] using z3))
    obtain ⟨w1, w2, w3, w4, w5⟩ := z
    refine ⟨w1, ?_, ((tb_E.fx F1 (by decide)).trans E2).trans w3, _, w5, ?_⟩
    · have := ((lf.fx F1 (by unfold br_w; simp)).trans L2).trans w2
      simpa using this
    · rw [if_neg h0, habd, ← z7]
      rfl
