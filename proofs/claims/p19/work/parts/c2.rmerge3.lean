/-! THE REFERENCE'S mergeNow -/
theorem ab_drop (Rs : List rn) (k : Nat) : (ab Rs).drop k = ab (Rs.drop k) := by simp [ab, List.map_drop]
theorem aou_ok {P : Nat} {h : am_H} {Rs : List rn} (N : nm_R P h Rs) (k : Nat) : so (aou (ab Rs) k) ∧ ∀ x ∈ aou (ab Rs) k, eo x := by
  rw [aou_ens]
  split
  · exact rp_ok (ens_ok N k)
  · exact ens_ok N k
theorem nm_R.few {P : Nat} {h : am_H} {Rs : List rn} (N : nm_R P h Rs) : (pgs Rs).length ≤ P - 2 := by
  have := fz_list (P := P) (pgs Rs) (fun q => if q ∈ pgs Rs then 1 else 0) N.2.2.2.2.1 N.pg (fun p _ _ => by by_cases q : p ∈ pgs Rs <;> simp [q])
  omega
theorem l2_mn_end {d P n lv : Nat} {x4 x5 : Int32} {w6 w7 w8 : Value} {Rs : List rn} {h g : am_H} (I : mr_I P h g n Rs (aou (ab Rs) (up lv (lvs Rs)))) (h1 : 1 ≤ up lv (lvs Rs)) (h3 : lv ≤ 3) (hlv : alevel (ab Rs) = lv) :
    am_Ex nm_pr (d + 5) mt_Mo_mergeNow (200, [.ref 72, .int (nI (up lv (lvs Rs))), .int (nI lv), .int 1, .int x4, .int x5, w6, w7, w8], [], g) (fun o h' => (∃ x, o = .inl (some (.int x))) ∧ am_fi rf_w h h' ∧ am_I h' 72 0 = am_I h 72 0 ∧ ∃ Rs', rf_S P h' n Rs' ∧ ab Rs' = amerge P (ab Rs)) := by
  obtain ⟨⟨hK, T, N⟩, Ky, F, e0⟩ := id I
  obtain ⟨hS, jP, j8, j3, P4, P1024⟩ := id hK
  have ul := up_le lv (lvs Rs)
  have hlvl : (lvs Rs).length = Rs.length := by unfold lvs; rw [List.length_map]
  have hap := apg_rm N.all
  have hfew := N.few
  have hok := aou_ok N (up lv (lvs Rs))
  have ham : amerge P (ab Rs) = amerge1 P (ab Rs) lv := by unfold amerge; rw [hlv]
  rw [ham]
  unfold amerge1
  rw [alv_ab, hap, ab_drop]
  generalize hk : up lv (lvs Rs) = k at *
  generalize hL : aou (ab Rs) k = L at *
  refine am_go [] 2 ?_
  simp only [am_wp, am_stp, am_en, am_as, am_pad, am_nth, am_set, am_st1, am_st2, am_kl, am_kill, am_mem, am_fv, am_tk, am_wt, am_bk, Option.toList, List.cons_append, List.nil_append, Nat.reduceAdd, Nat.reduceEqDiff, Nat.reduceLeDiff, reduceIte, Nat.reduceLT, or_self, true_or, or_true, if_true, if_false, and_self, and_true, true_and, not_false_eq_true, not_true_eq_false, fd_Mo_mergeNow_200, fd_Mo_mergeNow_201, hS.1]
  refine am_call (l2_Mo_freeCount (d := d + 3) (by omega) P1024 hS jP (N.us P1024).1) (fun o g1 z => ?_)
  obtain ⟨rfl, F1, L1, v1⟩ := z
  have j72 : am_I g1 72 = am_I g 72 := F1.2.2.2.2.2.2.1 72 (by simp)
  have K1 : rf_K P g1 := hK.mv F1 (by rw [j72]) (by rw [j72]) (by rw [j72])
  have N1 : nm_R P g1 Rs := N.fi F1 (by rw [j72]) (by simp)
  have T1 : rt_S g1 n := T.mv F1 (by rw [j72])
  have Ky1 : ky_S g1 L := ⟨K1.1, by rw [j72]; exact Ky.2.1, Ky.2.2.1, Ky.2.2.2.fi F1 (by simp)⟩
  have R1 : rf_S P g1 n Rs := ⟨K1, T1, N1⟩
  have F01 : am_fi rf_w h g1 := F.trans (F1.sub (by unfold rf_w; simp))
  have c31 := Ky1.2.1
  have hl := Ky1.2.2.1
  simp only [am_wp, am_stp, am_en, am_as, am_pad, am_nth, am_set, am_st1, am_st2, am_kl, am_kill, am_mem, am_fv, am_tk, am_wt, am_bk, Option.toList, List.cons_append, List.nil_append, Nat.reduceAdd, Nat.reduceEqDiff, Nat.reduceLeDiff, reduceIte, Nat.reduceLT, or_self, true_or, or_true, if_true, if_false, and_self, and_true, true_and, not_false_eq_true, not_true_eq_false]
  refine am_go [216, 245] 6 ?_
  simp only [am_wp, am_stp, am_en, am_as, am_pad, am_nth, am_set, am_st1, am_st2, am_kl, am_kill, am_mem, am_fv, am_tk, am_wt, am_bk, Option.toList, List.cons_append, List.nil_append, Nat.reduceAdd, Nat.reduceEqDiff, Nat.reduceLeDiff, reduceIte, Nat.reduceLT, or_self, true_or, or_true, if_true, if_false, and_self, and_true, true_and, not_false_eq_true, not_true_eq_false, fd_Mo_mergeNow_204, fd_Mo_mergeNow_206, fd_Mo_mergeNow_207, fd_Mo_mergeNow_209, fd_Mo_mergeNow_210, fd_Mo_mergeNow_213, K1.1.1, c31]
  by_cases hE : L = []
  · have l0 : ¬ (0 : Int32) < nI L.length := by rw [hE]; decide
    have hn0 : npg L = 0 := npg_0.mpr hE
    simp only [l0, am_wp, am_stp, am_en, am_as, am_pad, am_nth, am_set, am_st1, am_st2, am_kl, am_kill, am_mem, am_fv, am_tk, am_wt, am_bk, Option.toList, List.cons_append, List.nil_append, Nat.reduceAdd, Nat.reduceEqDiff, Nat.reduceLeDiff, reduceIte, Nat.reduceLT, or_self, true_or, or_true, if_true, if_false, and_self, and_true, true_and, not_false_eq_true, not_true_eq_false]
    refine am_Ex_mono (fun o h' z => ?_) (l2_mn_rest (d := d + 1) (mk := []) R1 h1 (by omega) (Or.inl ⟨rfl, rfl⟩) (by simp) (by simp [pgs]))
    obtain ⟨z1, z2, z3, z4⟩ := z
    refine ⟨z1, F01.trans z2, by rw [z3, j72]; exact e0, _, z4, ?_⟩
    rw [if_pos (by omega), if_pos hn0]
    rfl
  · have l0 : (0 : Int32) < nI L.length := nI_gt0 (List.length_pos_iff.mpr hE) (by omega)
    have hn0 : npg L ≠ 0 := fun q => hE (npg_0.mp q)
    simp only [l0, am_wp, am_stp, am_en, am_as, am_pad, am_nth, am_set, am_st1, am_st2, am_kl, am_kill, am_mem, am_fv, am_tk, am_wt, am_bk, Option.toList, List.cons_append, List.nil_append, Nat.reduceAdd, Nat.reduceEqDiff, Nat.reduceLeDiff, reduceIte, Nat.reduceLT, or_self, true_or, or_true, if_true, if_false, and_self, and_true, true_and, not_false_eq_true, not_true_eq_false]
    refine am_go [] 3 ?_
    simp only [am_wp, am_stp, am_en, am_as, am_pad, am_nth, am_set, am_st1, am_st2, am_kl, am_kill, am_mem, am_fv, am_tk, am_wt, am_bk, Option.toList, List.cons_append, List.nil_append, Nat.reduceAdd, Nat.reduceEqDiff, Nat.reduceLeDiff, reduceIte, Nat.reduceLT, or_self, true_or, or_true, if_true, if_false, and_self, and_true, true_and, not_false_eq_true, not_true_eq_false, fd_Mo_mergeNow_216, fd_Mo_mergeNow_217, fd_Mo_mergeNow_218, K1.1.1]
    refine am_call (l2_Mo_writeRun (d := d) (lv := nI lv) (fr := P - 2 - (pgs Rs).length) K1 Ky1 hE hok.2 (N1.us P1024).1 N1.slot (N1.free P4 P1024) (by omega)) (fun o g2 q => ?_)
    rcases q with ⟨hf, s, ps, rfl, Q⟩ | ⟨hf, rfl, F3⟩
    · obtain ⟨N2, hs, hpp⟩ := N1.rw P1024 Q
      obtain ⟨q1, q2, ⟨q3, q3'⟩, q4, q5, q6, q7, q8, q9, q10, q11, q12⟩ := id Q
      have K2 : rf_K P g2 := K1.mv q1 (q2 1 (by decide)) (q2 8 (by decide)) (q2 3 (by decide))
      have T2 : rt_S g2 n := T1.mv q1 (q2 11 (by decide))
      have pos : ¬ nI s < 0 := nI_pos (by omega)
      simp only [am_wp, am_stp, am_en, am_as, am_pad, am_nth, am_set, am_st1, am_st2, am_kl, am_kill, am_mem, am_fv, am_tk, am_wt, am_bk, Option.toList, List.cons_append, List.nil_append, Nat.reduceAdd, Nat.reduceEqDiff, Nat.reduceLeDiff, reduceIte, Nat.reduceLT, or_self, true_or, or_true, if_true, if_false, and_self, and_true, true_and, not_false_eq_true, not_true_eq_false]
      refine am_go [228, 245] 3 ?_
      simp only [am_wp, am_stp, am_en, am_as, am_pad, am_nth, am_set, am_st1, am_st2, am_kl, am_kill, am_mem, am_fv, am_tk, am_wt, am_bk, Option.toList, List.cons_append, List.nil_append, Nat.reduceAdd, Nat.reduceEqDiff, Nat.reduceLeDiff, reduceIte, Nat.reduceLT, or_self, true_or, or_true, if_true, if_false, and_self, and_true, true_and, not_false_eq_true, not_true_eq_false, fd_Mo_mergeNow_221, fd_Mo_mergeNow_223, fd_Mo_mergeNow_225, pos]
      have M : ∀ r ∈ [((s, lv, ps) : rn)], rm_0 P g2 r ∧ r.1 ∉ Rs.map (·.1) ∧ ∀ p ∈ rn_p r, p ∉ pgs Rs := fun r hr => by
        have e : r = (s, lv, ps) := by simpa using hr
        subst e
        refine ⟨⟨⟨q3, ?_, by show ps.length ≤ 1024; omega, fun j q hj => ⟨q7 j q hj, (q8 q (List.mem_of_getElem? hj)).1⟩⟩, ?_, h3, by show ps.length = npg (ch_E ps); rw [q11]; exact q12, by show so (ch_E ps); rw [q11]; exact hok.1, by show ∀ e ∈ ch_E ps, eo e; rw [q11]; exact hok.2⟩, hs, hpp⟩
        · show am_I g2 80 s = nI ps.length
          rw [q5]; unfold up_f; rw [if_pos rfl]
        · show am_I g2 79 s = nI lv
          rw [q4]; unfold up_f; rw [if_pos rfl]
      refine am_Ex_mono (fun o h' z => ?_) (l2_mn_rest (d := d + 1) (mk := [(s, lv, ps)]) ⟨K2, T2, N2⟩ h1 (by omega) (Or.inr ⟨_, rfl, rfl⟩) M (by simpa [pgs, rn_p] using q9))
      obtain ⟨z1, z2, z3, z4⟩ := z
      refine ⟨z1, (F01.trans (q1.sub (by unfold rf_w; simp))).trans z2, by rw [z3, q2 0 (by decide), j72]; exact e0, _, z4, ?_⟩
      rw [if_pos (by omega), if_neg hn0, ← q11]
      rfl
    · have neg : (-1 : Int32) < 0 := by decide
      have n12 : ((-1 : Int32) = -2) = False := by decide
      simp only [am_wp, am_stp, am_en, am_as, am_pad, am_nth, am_set, am_st1, am_st2, am_kl, am_kill, am_mem, am_fv, am_tk, am_wt, am_bk, Option.toList, List.cons_append, List.nil_append, Nat.reduceAdd, Nat.reduceEqDiff, Nat.reduceLeDiff, reduceIte, Nat.reduceLT, or_self, true_or, or_true, if_true, if_false, and_self, and_true, true_and, not_false_eq_true, not_true_eq_false]
      refine am_go [235, 245] 8 ?_
      simp only [am_wp, am_stp, am_en, am_as, am_pad, am_nth, am_set, am_st1, am_st2, am_kl, am_kill, am_mem, am_fv, am_tk, am_wt, am_bk, Option.toList, List.cons_append, List.nil_append, Nat.reduceAdd, Nat.reduceEqDiff, Nat.reduceLeDiff, reduceIte, Nat.reduceLT, or_self, true_or, or_true, if_true, if_false, and_self, and_true, true_and, not_false_eq_true, not_true_eq_false, fd_Mo_mergeNow_221, fd_Mo_mergeNow_223, fd_Mo_mergeNow_225, fd_Mo_mergeNow_228, fd_Mo_mergeNow_230, fd_Mo_mergeNow_232, fd_Mo_mergeNow_241, fd_Mo_mergeNow_244, neg, n12]
      have i72 : am_I g2 72 = am_I g1 72 := F3.2.2.2.2.2.2.1 72 (by simp)
      refine ⟨⟨_, rfl⟩, F01.trans (F3.sub (by unfold rf_w; simp)), by rw [i72, j72]; exact e0, Rs, ⟨K1.mv F3 (by rw [i72]) (by rw [i72]) (by rw [i72]), T1.mv F3 (by rw [i72]), N1.fi F3 (by rw [i72]) (by simp)⟩, ?_⟩
      rw [if_neg (by omega)]
theorem l2_mergeNow {d P n : Nat} {Rs : List rn} {h : am_H} (R : rf_S P h n Rs) (hz : 0 < up 0 (lvs Rs)) (hen : aen (ab Rs) < 30000) : am_Rt nm_pr (d + 6) mi_Mo_mergeNow [.ref 72] h (fun o h' => (∃ x, o = .inl (some (.int x))) ∧ am_fi rf_w h h' ∧ am_I h' 72 0 = am_I h 72 0 ∧ ∃ Rs', rf_S P h' n Rs' ∧ ab Rs' = amerge P (ab Rs)) := by
  obtain ⟨hK, T, N⟩ := id R
  have hS := hK.1
  have ul := up_le 0 (lvs Rs)
  have hlvl : (lvs Rs).length = Rs.length := by unfold lvs; rw [List.length_map]
  have c3 := N.2.2.1
  have u1 := up_mono (show 0 ≤ 1 by omega) (lvs Rs)
  have u2 := up_mono (show 1 ≤ 2 by omega) (lvs Rs)
  have u3 := up_mono (show 2 ≤ 3 by omega) (lvs Rs)
  have z : ¬ nI (up 0 (lvs Rs)) = 0 := nI_ne0 hz (by omega)
  have hal : alevel (ab Rs) = if npg (aou (ab Rs) (up 1 (lvs Rs))) ≤ 8 then 1 else if npg (aou (ab Rs) (up 2 (lvs Rs))) ≤ 24 then 2 else 3 := by
    unfold alevel
    rw [alv_ab]
  refine am_in' (d := d + 5) mt_Mo_mergeNow 9 rfl rfl rfl ?_
  refine am_go [] 2 ?_
  simp only [am_wp, am_stp, am_en, am_as, am_pad, am_nth, am_set, am_st1, am_st2, am_kl, am_kill, am_mem, am_fv, am_tk, am_wt, am_bk, Option.toList, List.cons_append, List.nil_append, Nat.reduceAdd, Nat.reduceEqDiff, Nat.reduceLeDiff, reduceIte, Nat.reduceLT, or_self, true_or, or_true, if_true, if_false, and_self, and_true, true_and, not_false_eq_true, not_true_eq_false, fd_Mo_mergeNow_0, fd_Mo_mergeNow_1, hS.1]
  refine am_call (l2_level0 (d := d + 4) hS N) (fun o h1 q => ?_)
  obtain ⟨rfl, rfl⟩ := q
  simp only [am_wp, am_stp, am_en, am_as, am_pad, am_nth, am_set, am_st1, am_st2, am_kl, am_kill, am_mem, am_fv, am_tk, am_wt, am_bk, Option.toList, List.cons_append, List.nil_append, Nat.reduceAdd, Nat.reduceEqDiff, Nat.reduceLeDiff, reduceIte, Nat.reduceLT, or_self, true_or, or_true, if_true, if_false, and_self, and_true, true_and, not_false_eq_true, not_true_eq_false]
  refine am_go [7, 11] 1 ?_
  simp only [am_wp, am_stp, am_en, am_as, am_pad, am_nth, am_set, am_st1, am_st2, am_kl, am_kill, am_mem, am_fv, am_tk, am_wt, am_bk, Option.toList, List.cons_append, List.nil_append, Nat.reduceAdd, Nat.reduceEqDiff, Nat.reduceLeDiff, reduceIte, Nat.reduceLT, or_self, true_or, or_true, if_true, if_false, and_self, and_true, true_and, not_false_eq_true, not_true_eq_false, fd_Mo_mergeNow_4, z]
  refine am_go [26, 200] 11 ?_
  simp only [am_wp, am_stp, am_en, am_as, am_pad, am_nth, am_set, am_st1, am_st2, am_kl, am_kill, am_mem, am_fv, am_tk, am_wt, am_bk, Option.toList, List.cons_append, List.nil_append, Nat.reduceAdd, Nat.reduceEqDiff, Nat.reduceLeDiff, reduceIte, Nat.reduceLT, or_self, true_or, or_true, if_true, if_false, and_self, and_true, true_and, not_false_eq_true, not_true_eq_false, fd_Mo_mergeNow_11, fd_Mo_mergeNow_12, fd_Mo_mergeNow_13, fd_Mo_mergeNow_16, fd_Mo_mergeNow_17, fd_Mo_mergeNow_18, fd_Mo_mergeNow_19, fd_Mo_mergeNow_20, fd_Mo_mergeNow_21, fd_Mo_mergeNow_22, fd_Mo_mergeNow_23, hS.1]
  have F1 : am_fi [72] h1 (am_sI h1 72 31 0) := am_fi.refl.sI (by simp)
  have v31 : am_I (am_sI h1 72 31 0) 72 31 = nI 0 := by simp only [hx_nx_sI, hx_ce_sI, hx_sl_sI, hx_kd_sI, hx_ln_sI, hx_I_sI, hx_L_sI, hx_R_sI, hx_nx_sL, hx_ce_sL, hx_sl_sL, hx_kd_sL, hx_ln_sL, hx_I_sL, hx_L_sL, hx_R_sL, hx_nx_sR, hx_ce_sR, hx_sl_sR, hx_kd_sR, hx_ln_sR, hx_I_sR, hx_L_sR, hx_R_sR, hx_nx_al, hx_ce_al, hx_sl_al, hx_kd_al, hx_ln_al, hx_I_al, hx_L_al, hx_R_al, hx_nx_row, hx_ce_row, hx_sl_row, hx_kd_row, hx_ln_row, hx_I_row, hx_L_row, hx_R_row, hx_nx_mk, hx_kd_mk, hx_ln_mk, hx_I_mk, hx_L_mk, hx_R_mk, am_wp, am_stp, am_en, am_as, am_pad, am_nth, am_set, am_st1, am_st2, am_kl, am_kill, am_mem, am_fv, am_tk, am_wt, am_bk, Option.toList, List.cons_append, List.nil_append, Nat.reduceAdd, Nat.reduceEqDiff, Nat.reduceLeDiff, reduceIte, Nat.reduceLT, or_self, true_or, or_true, if_true, if_false, and_self, and_true, true_and, not_false_eq_true, not_true_eq_false]; rfl
  have vj : ∀ j, j ≠ 31 → am_I (am_sI h1 72 31 0) 72 j = am_I h1 72 j := fun j hj => by simp only [hx_nx_sI, hx_ce_sI, hx_sl_sI, hx_kd_sI, hx_ln_sI, hx_I_sI, hx_L_sI, hx_R_sI, hx_nx_sL, hx_ce_sL, hx_sl_sL, hx_kd_sL, hx_ln_sL, hx_I_sL, hx_L_sL, hx_R_sL, hx_nx_sR, hx_ce_sR, hx_sl_sR, hx_kd_sR, hx_ln_sR, hx_I_sR, hx_L_sR, hx_R_sR, hx_nx_al, hx_ce_al, hx_sl_al, hx_kd_al, hx_ln_al, hx_I_al, hx_L_al, hx_R_al, hx_nx_row, hx_ce_row, hx_sl_row, hx_kd_row, hx_ln_row, hx_I_row, hx_L_row, hx_R_row, hx_nx_mk, hx_kd_mk, hx_ln_mk, hx_I_mk, hx_L_mk, hx_R_mk, am_wp, am_stp, am_en, am_as, am_pad, am_nth, am_set, am_st1, am_st2, am_kl, am_kill, am_mem, am_fv, am_tk, am_wt, am_bk, Option.toList, List.cons_append, List.nil_append, Nat.reduceAdd, Nat.reduceEqDiff, Nat.reduceLeDiff, reduceIte, Nat.reduceLT, or_self, true_or, or_true, if_true, if_false, and_self, and_true, true_and, not_false_eq_true, not_true_eq_false, hj]
  generalize am_sI h1 72 31 0 = g at F1 v31 vj ⊢
  have I0 : mr_I P h1 g n Rs (bm (ens Rs 0)) := ⟨⟨hK.mv F1 (vj 1 (by decide)) (vj 8 (by decide)) (vj 3 (by decide)), T.mv F1 (vj 11 (by decide)), N.fi F1 (vj 24 (by decide)) (by simp)⟩, ⟨hS.fi F1, v31, by simp [ens, bm], fun i e he => by simp [ens, bm] at he⟩, F1.sub (by unfold rf_w; simp), vj 0 (by decide)⟩
  refine l2_mn_round (d := d) (to := 1) (t := 0) (by omega) (by omega) hen (by omega) I0 (fun hc g1 x4 x5 w6 w7 w8 I1 => ?_) (fun hc1 hc2 g1 x4 x5 w6 w7 w8 I1 => ?_)
  · have hc' : npg (aou (ab Rs) (up 1 (lvs Rs))) ≤ 8 := by
      rcases hc with q | q
      · omega
      · exact q
    exact l2_mn_end I1 (by omega) (by omega) (by rw [hal, if_pos hc'])
  · have hb1 : ¬ npg (aou (ab Rs) (up 1 (lvs Rs))) ≤ 8 := by have : 8 < npg (aou (ab Rs) (up 1 (lvs Rs))) := hc2; omega
    refine l2_mn_round (d := d) (to := 2) (by omega) (by omega) hen (by omega) I1 (fun hc g2 x4 x5 w6 w7 w8 I2 => ?_) (fun hc3 hc4 g2 x4 x5 w6 w7 w8 I2 => ?_)
    · have hc' : npg (aou (ab Rs) (up 2 (lvs Rs))) ≤ 24 := by
        rcases hc with q | q
        · omega
        · exact q
      exact l2_mn_end I2 (by omega) (by omega) (by rw [hal, if_neg hb1, if_pos hc'])
    · have hb2 : ¬ npg (aou (ab Rs) (up 2 (lvs Rs))) ≤ 24 := by have : 24 < npg (aou (ab Rs) (up 2 (lvs Rs))) := hc4; omega
      refine l2_mn_round (d := d) (to := 3) (by omega) (by omega) hen (by omega) I2 (fun hc g3 x4 x5 w6 w7 w8 I3 => ?_) (fun hc5 _ _ _ _ _ _ _ _ => absurd hc5 (by omega))
      exact l2_mn_end I3 (by omega) (by omega) (by rw [hal, if_neg hb1, if_neg hb2])
