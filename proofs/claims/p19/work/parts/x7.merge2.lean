/-! THE REFERENCE MERGES, 2 -/
theorem rC.v {P : Nat} {S : List Nat} {h h' : am_H} (C : rC P h) (f : am_fi S h h') (hS : 74 ∉ S ∧ 75 ∉ S ∧ 76 ∉ S) (h1 : am_I h' 72 1 = am_I h 72 1) (h9 : am_I h' 72 9 = am_I h 72 9) (h11 : am_I h' 72 11 = am_I h 72 11) (h45 : am_I h' 72 45 = am_I h 72 45) (h8 : ∃ a, a ≤ 1000 ∧ am_I h' 72 8 = nI a) (hB : BY h') : rC P h' := by
  obtain ⟨c1, c2, c3, c4, ⟨a, b, c5, c6, c7, c8⟩, c9, c10, -⟩ := C
  obtain ⟨a', a1, a2⟩ := h8
  refine ⟨c1.fi f, c2, c3, h1.trans c4, ⟨a', b, a1, c6, a2, h9.trans c8⟩, ?_, ?_, hB⟩
  · rw [h45]; exact c9
  · rw [h11, f.2.2.2.2.2.2.2 74 hS.1, f.2.2.2.2.2.2.1 75 hS.2.1, f.2.2.2.2.2.2.2 76 hS.2.2]; exact c10
theorem rC.b {P : Nat} {h : am_H} (C : rC P h) : BY h := C.2.2.2.2.2.2.2
theorem rC.a8 {P : Nat} {h : am_H} (C : rC P h) : ∃ a, a ≤ 1000 ∧ am_I h 72 8 = nI a := by
  obtain ⟨-, -, -, -, ⟨a, b, c5, -, c7, -⟩, -⟩ := C
  exact ⟨a, c5, c7⟩
theorem rx_mn_fin {d P m n' : Nat} {a1 a2 a3 a4 a5 x8 : Int32} {E : Nat → List ent} {now : List Nat} {mk : Nat → List Nat} {h G : am_H} (hS : mo_Sk G) (F : am_fi rA h G) (C2 : rC P (am_sI G 72 24 (nI (n' + m)))) (R2 : rR P (am_sI G 72 24 (nI (n' + m))) E now mk) :
    am_Ex nm_pr (d + 4) mt_Mo_mergeNow (397, [.ref 72, .int a1, .int a2, .int a3, .int a4, .int a5, .int (nI m), .int (nI n'), .int x8], [], G) (fun o h' => iany o ∧ rq P h h') := by
  refine am_go [] 5 ?_
  simp only [am_wp, am_stp, am_en, am_as, am_pad, am_nth, am_set, am_st1, am_st2, am_kl, am_kill, am_mem, am_fv, am_tk, am_wt, am_bk, Option.toList, List.cons_append, List.nil_append, Nat.reduceAdd, Nat.reduceEqDiff, Nat.reduceLeDiff, reduceIte, Nat.reduceLT, or_self, true_or, or_true, if_true, if_false, and_self, and_true, true_and, not_false_eq_true, not_true_eq_false, fd_Mo_mergeNow_397, fd_Mo_mergeNow_398, fd_Mo_mergeNow_400, fd_Mo_mergeNow_402, fd_Mo_mergeNow_403, hS.1, nI_add]
  have F2 : am_fi rA h (am_sI G 72 24 (nI (n' + m))) := F.sI (by decide)
  generalize am_sI G 72 24 (nI (n' + m)) = G2 at *
  have S2 := C2.1
  have P1024 := C2.2.2.1
  refine am_go [] 5 ?_
  simp only [am_wp, am_stp, am_en, am_as, am_pad, am_nth, am_set, am_st1, am_st2, am_kl, am_kill, am_mem, am_fv, am_tk, am_wt, am_bk, Option.toList, List.cons_append, List.nil_append, Nat.reduceAdd, Nat.reduceEqDiff, Nat.reduceLeDiff, reduceIte, Nat.reduceLT, or_self, true_or, or_true, if_true, if_false, and_self, and_true, true_and, not_false_eq_true, not_true_eq_false, fd_Mo_mergeNow_406, fd_Mo_mergeNow_407, fd_Mo_mergeNow_410, fd_Mo_mergeNow_412, fd_Mo_mergeNow_413, S2.all]
  refine am_call (rx_writeHead (d := d + 1) C2 R2.ns) (fun o G3 z => ?_)
  rcases z with ⟨rfl, z1⟩ | ⟨rfl, z1, z2⟩
  · have one0 : ¬ (1 : Int32) = 0 := by decide
    have C3 := C2.hw z1
    have R3 := R2.hw P1024 z1
    have S3 := C3.1
    simp only [am_wp, am_stp, am_en, am_as, am_pad, am_nth, am_set, am_st1, am_st2, am_kl, am_kill, am_mem, am_fv, am_tk, am_wt, am_bk, Option.toList, List.cons_append, List.nil_append, Nat.reduceAdd, Nat.reduceEqDiff, Nat.reduceLeDiff, reduceIte, Nat.reduceLT, or_self, true_or, or_true, if_true, if_false, and_self, and_true, true_and, not_false_eq_true, not_true_eq_false]
    refine am_go [419, 429] 1 ?_
    simp only [am_wp, am_stp, am_en, am_as, am_pad, am_nth, am_set, am_st1, am_st2, am_kl, am_kill, am_mem, am_fv, am_tk, am_wt, am_bk, Option.toList, List.cons_append, List.nil_append, Nat.reduceAdd, Nat.reduceEqDiff, Nat.reduceLeDiff, reduceIte, Nat.reduceLT, or_self, true_or, or_true, if_true, if_false, and_self, and_true, true_and, not_false_eq_true, not_true_eq_false, fd_Mo_mergeNow_416, S3.all, one0]
    refine am_go [] 2 ?_
    simp only [am_wp, am_stp, am_en, am_as, am_pad, am_nth, am_set, am_st1, am_st2, am_kl, am_kill, am_mem, am_fv, am_tk, am_wt, am_bk, Option.toList, List.cons_append, List.nil_append, Nat.reduceAdd, Nat.reduceEqDiff, Nat.reduceLeDiff, reduceIte, Nat.reduceLT, or_self, true_or, or_true, if_true, if_false, and_self, and_true, true_and, not_false_eq_true, not_true_eq_false, fd_Mo_mergeNow_429, fd_Mo_mergeNow_430, S3.all]
    refine am_call (l2_Mo_freeCount (d := d + 2) (by have := C3.2.1; omega) P1024 S3 C3.2.2.2.1 (R3.W P1024)) (fun o G4 z => ?_)
    obtain ⟨rfl, F4, L4, v4⟩ := z
    simp only [am_wp, am_stp, am_en, am_as, am_pad, am_nth, am_set, am_st1, am_st2, am_kl, am_kill, am_mem, am_fv, am_tk, am_wt, am_bk, Option.toList, List.cons_append, List.nil_append, Nat.reduceAdd, Nat.reduceEqDiff, Nat.reduceLeDiff, reduceIte, Nat.reduceLT, or_self, true_or, or_true, if_true, if_false, and_self, and_true, true_and, not_false_eq_true, not_true_eq_false]
    have S4 := S3.fi F4
    refine am_go [] 3 ?_
    simp only [am_wp, am_stp, am_en, am_as, am_pad, am_nth, am_set, am_st1, am_st2, am_kl, am_kill, am_mem, am_fv, am_tk, am_wt, am_bk, Option.toList, List.cons_append, List.nil_append, Nat.reduceAdd, Nat.reduceEqDiff, Nat.reduceLeDiff, reduceIte, Nat.reduceLT, or_self, true_or, or_true, if_true, if_false, and_self, and_true, true_and, not_false_eq_true, not_true_eq_false, fd_Mo_mergeNow_433, fd_Mo_mergeNow_435, fd_Mo_mergeNow_436, S4.all]
    have q3 : rq P h G3 := ⟨⟨C3, E, now, mk, R3⟩, F2.trans (z1.1.sub (by decide))⟩
    exact ⟨⟨_, rfl⟩, q3.trans (rq.fr q3.1 F4 (by simp [rB]) (fun j _ => by rw [F4.2.2.2.2.2.2.1 72 (by simp)]))⟩
  · simp only [am_wp, am_stp, am_en, am_as, am_pad, am_nth, am_set, am_st1, am_st2, am_kl, am_kill, am_mem, am_fv, am_tk, am_wt, am_bk, Option.toList, List.cons_append, List.nil_append, Nat.reduceAdd, Nat.reduceEqDiff, Nat.reduceLeDiff, reduceIte, Nat.reduceLT, or_self, true_or, or_true, if_true, if_false, and_self, and_true, true_and, not_false_eq_true, not_true_eq_false]
    have S3 := S2.fi z1.2
    refine am_go [419, 429] 1 ?_
    simp only [am_wp, am_stp, am_en, am_as, am_pad, am_nth, am_set, am_st1, am_st2, am_kl, am_kill, am_mem, am_fv, am_tk, am_wt, am_bk, Option.toList, List.cons_append, List.nil_append, Nat.reduceAdd, Nat.reduceEqDiff, Nat.reduceLeDiff, reduceIte, Nat.reduceLT, or_self, true_or, or_true, if_true, if_false, and_self, and_true, true_and, not_false_eq_true, not_true_eq_false, fd_Mo_mergeNow_416, S3.all]
    refine am_go [] 5 ?_
    simp only [am_wp, am_stp, am_en, am_as, am_pad, am_nth, am_set, am_st1, am_st2, am_kl, am_kill, am_mem, am_fv, am_tk, am_wt, am_bk, Option.toList, List.cons_append, List.nil_append, Nat.reduceAdd, Nat.reduceEqDiff, Nat.reduceLeDiff, reduceIte, Nat.reduceLT, or_self, true_or, or_true, if_true, if_false, and_self, and_true, true_and, not_false_eq_true, not_true_eq_false, fd_Mo_mergeNow_419, fd_Mo_mergeNow_420, fd_Mo_mergeNow_422, fd_Mo_mergeNow_425, fd_Mo_mergeNow_428, S3.all]
    have q5 := z1.s (j := 4) (v := am_I G2 72 4) (by unfold rJ; omega)
    exact ⟨⟨_, rfl⟩, q5.1, F2.trans q5.2⟩
theorem rx_mn_none {d P to : Nat} {x3 x4 : Int32} {w6 w7 w8 : Value} {E : Nat → List ent} {now : List Nat} {mk : Nat → List Nat} {h g : am_H} (C : rC P g) (R : rR P g E now mk) (F0 : am_fi rA h g) (h3 : am_I g 72 3 = 0) (hto : 1 ≤ to) :
    am_Ex nm_pr (d + 4) mt_Mo_mergeNow (245, [.ref 72, .int (nI (up to (now.map (lev g)))), .int (nI to), .int x3, .int x4, .int (-1), w6, w7, w8], [], g) (fun o h' => iany o ∧ rq P h h') := by
  have hS := C.1
  have n9 := R.n9
  have ul := up_le to (now.map (lev g))
  rw [List.length_map] at ul
  have hd := lv_drop hto (now.map (lev g)) 0 (by omega) R.1.2.2.2.1
  obtain ⟨lv1, lv2⟩ := lv_low hd hto
  generalize up to (now.map (lev g)) = k at *
  refine am_go [248] 2 ?_
  simp only [am_wp, am_stp, am_en, am_as, am_pad, am_nth, am_set, am_st1, am_st2, am_kl, am_kill, am_mem, am_fv, am_tk, am_wt, am_bk, Option.toList, List.cons_append, List.nil_append, Nat.reduceAdd, Nat.reduceEqDiff, Nat.reduceLeDiff, reduceIte, Nat.reduceLT, or_self, true_or, or_true, if_true, if_false, and_self, and_true, true_and, not_false_eq_true, not_true_eq_false, fd_Mo_mergeNow_245, fd_Mo_mergeNow_246]
  refine rx_users_loop hS R R.1.2.1 ul (fun g1 F1 e77 => ?_) k 0 g (by omega) am_fi.refl (fun t ht => R.2.2.1.1 t ht)
  have S1 := hS.fi F1
  have g24 : am_I g1 72 24 = nI now.length := by rw [F1.2.2.2.2.2.2.1 72 (by simp)]; exact R.1.1
  have esub : nI now.length - nI k = nI (now.length - k) := nI_sub ul
  refine am_go [282, 286] 3 ?_
  simp only [am_wp, am_stp, am_en, am_as, am_pad, am_nth, am_set, am_st1, am_st2, am_kl, am_kill, am_mem, am_fv, am_tk, am_wt, am_bk, Option.toList, List.cons_append, List.nil_append, Nat.reduceAdd, Nat.reduceEqDiff, Nat.reduceLeDiff, reduceIte, Nat.reduceLT, or_self, true_or, or_true, if_true, if_false, and_self, and_true, true_and, not_false_eq_true, not_true_eq_false, fd_Mo_mergeNow_276, fd_Mo_mergeNow_278, fd_Mo_mergeNow_279, S1.all]
  refine am_go [287] 2 ?_
  simp only [am_wp, am_stp, am_en, am_as, am_pad, am_nth, am_set, am_st1, am_st2, am_kl, am_kill, am_mem, am_fv, am_tk, am_wt, am_bk, Option.toList, List.cons_append, List.nil_append, Nat.reduceAdd, Nat.reduceEqDiff, Nat.reduceLeDiff, reduceIte, Nat.reduceLT, or_self, true_or, or_true, if_true, if_false, and_self, and_true, true_and, not_false_eq_true, not_true_eq_false, fd_Mo_mergeNow_282, fd_Mo_mergeNow_283]
  refine am_go [302, 337] 8 ?_
  simp only [am_wp, am_stp, am_en, am_as, am_pad, am_nth, am_set, am_st1, am_st2, am_kl, am_kill, am_mem, am_fv, am_tk, am_wt, am_bk, Option.toList, List.cons_append, List.nil_append, Nat.reduceAdd, Nat.reduceEqDiff, Nat.reduceLeDiff, reduceIte, Nat.reduceLT, or_self, true_or, or_true, if_true, if_false, and_self, and_true, true_and, not_false_eq_true, not_true_eq_false, fd_Mo_mergeNow_287, fd_Mo_mergeNow_289, fd_Mo_mergeNow_290, fd_Mo_mergeNow_293, fd_Mo_mergeNow_294, fd_Mo_mergeNow_295, fd_Mo_mergeNow_297, fd_Mo_mergeNow_299, S1.1, g24, esub]
  refine am_go [305] 2 ?_
  simp only [am_wp, am_stp, am_en, am_as, am_pad, am_nth, am_set, am_st1, am_st2, am_kl, am_kill, am_mem, am_fv, am_tk, am_wt, am_bk, Option.toList, List.cons_append, List.nil_append, Nat.reduceAdd, Nat.reduceEqDiff, Nat.reduceLeDiff, reduceIte, Nat.reduceLT, or_self, true_or, or_true, if_true, if_false, and_self, and_true, true_and, not_false_eq_true, not_true_eq_false, fd_Mo_mergeNow_302, fd_Mo_mergeNow_303]
  refine l2_sh0_loop S1 ul n9 (fun g2 F2 e86 => ?_) (now.length - k) 0 g1 (by omega) am_fi.refl (by funext j; rw [if_neg (by omega)])
  have F12 : am_fi [77, 86] g g2 := (F1.sub (by simp)).trans (F2.sub (by simp))
  have S2 := hS.fi F12
  have w := F12.2.2.2.2.2.2.1
  have F3 : am_fi [72, 77, 86] g (am_sI g2 72 24 (nI (now.length - k + 0))) := (F12.sub (by simp)).sI (by simp)
  have w3 := F3.2.2.2.2.2.2.1
  have vj : ∀ j, j ≠ 24 → am_I (am_sI g2 72 24 (nI (now.length - k + 0))) 72 j = am_I g 72 j := fun j hj => by
    rw [hx_I_sI, if_pos rfl, if_neg hj, w 72 (by decide)]
  have v24 : am_I (am_sI g2 72 24 (nI (now.length - k + 0))) 72 24 = nI (now.length - k) := by rw [hx_I_sI, if_pos rfl, if_pos rfl, Nat.add_zero]
  have v77 : am_I (am_sI g2 72 24 (nI (now.length - k + 0))) 77 = am_I g1 77 := by
    rw [show am_I (am_sI g2 72 24 (nI (now.length - k + 0))) 77 = am_I g2 77 from by funext j; rw [hx_I_sI, if_neg (by decide)]]
    exact F2.2.2.2.2.2.2.1 77 (by decide)
  have v86 : am_I (am_sI g2 72 24 (nI (now.length - k + 0))) 86 = am_I g2 86 := by funext j; rw [hx_I_sI, if_neg (by decide)]
  refine rx_mn_fin (m := 0) S2 (F0.trans (F12.sub (by decide))) ?_ (E := E) (now := now.drop k) (mk := mk) ?_
  · exact C.v F3 (by decide) (vj 1 (by decide)) (vj 9 (by decide)) (vj 11 (by decide)) (vj 45 (by decide)) (by rw [vj 8 (by decide)]; exact C.a8) (C.b.eq (w3 73 (by decide)))
  · refine rR_drop R (w3 87 (by decide)) (w3 88 (by decide)) (w3 89 (by decide)) (fun s0 h0 => ?_) ?_ (fun i hi => ?_) (fun t ht => ?_) (w3 79 (by decide)) ?_ ⟨?_, ?_⟩
    · exact (R.2.2.1.2 s0 h0).eq C.2.2.1 (by rw [w3 80 (by decide)]) (fun k _ => by rw [w3 82 (by decide)]) (fun x hx => hx.eq (fun j _ => by rw [w3 73 (by decide)]))
    · rw [v24, List.length_drop]
    · rw [List.length_drop] at hi
      rw [v86, e86]
      dsimp only
      rw [if_pos hi, F1.2.2.2.2.2.2.1 86 (by decide)]
    · rw [v77]; exact e77 t ht
    · rw [vj 3 (by decide)]; exact h3
    · rw [List.map_drop]; exact lv1
    · rw [List.map_drop, lv2]; omega
theorem rx_mn_one {d P to s : Nat} {x3 x4 : Int32} {w6 w7 w8 : Value} {E : Nat → List ent} {now : List Nat} {mk : Nat → List Nat} {L : List ent} {ps : List (Nat × List ent)} {h g g2 : am_H} (C : rC P g) (R : rR P g E now mk) (F0 : am_fi rA h g) (h3 : am_I g 72 3 = 0) (hto : 1 ≤ to) (hto3 : to ≤ 3) (hk1 : 1 ≤ up to (now.map (lev g))) (hne : L ≠ []) (hsL : so L) (hO : ∀ e ∈ L, eo e) (Q : rx_Q P g g2 (nI to) L s ps) :
    am_Ex nm_pr (d + 4) mt_Mo_mergeNow (245, [.ref 72, .int (nI (up to (now.map (lev g)))), .int (nI to), .int x3, .int x4, .int (nI s), w6, w7, w8], [], g2) (fun o h' => iany o ∧ rq P h h') := by
  have P1024 := C.2.2.1
  obtain ⟨N1, N2, N3⟩ := Q.new R P1024 hne hsL hO
  obtain ⟨q1, q2, q2', ⟨q3, q3'⟩, q4, q5, q6, q7, q8, q9, q10, q11, q12⟩ := id Q
  have hS := C.1.fi q1
  have n9 := R.n9
  have ul := up_le to (now.map (lev g))
  rw [List.length_map] at ul
  have hd := lv_drop hto (now.map (lev g)) 0 (by omega) R.1.2.2.2.1
  generalize up to (now.map (lev g)) = k at *
  have r86 : am_I g2 86 = am_I g 86 := q1.2.2.2.2.2.2.1 86 (by decide)
  have r77 : am_I g2 77 = am_I g 77 := q1.2.2.2.2.2.2.1 77 (by decide)
  refine am_go [248] 2 ?_
  simp only [am_wp, am_stp, am_en, am_as, am_pad, am_nth, am_set, am_st1, am_st2, am_kl, am_kill, am_mem, am_fv, am_tk, am_wt, am_bk, Option.toList, List.cons_append, List.nil_append, Nat.reduceAdd, Nat.reduceEqDiff, Nat.reduceLeDiff, reduceIte, Nat.reduceLT, or_self, true_or, or_true, if_true, if_false, and_self, and_true, true_and, not_false_eq_true, not_true_eq_false, fd_Mo_mergeNow_245, fd_Mo_mergeNow_246]
  refine rx_users_loop hS R (by rw [r86]; exact R.1.2.1) ul (fun g3 F1 e77 => ?_) k 0 g2 (by omega) am_fi.refl (fun t ht => by rw [r77]; exact R.2.2.1.1 t ht)
  have S1 := hS.fi F1
  have g24 : am_I g3 72 24 = nI now.length := by rw [F1.2.2.2.2.2.2.1 72 (by simp), q2 24 (by decide) (by decide)]; exact R.1.1
  have esub : nI now.length - nI k = nI (now.length - k) := nI_sub ul
  have n1 := nI_m1 (p := s) (by omega)
  have one0 : ¬ (1 : Int32) = 0 := by decide
  refine am_go [282, 286] 3 ?_
  simp only [am_wp, am_stp, am_en, am_as, am_pad, am_nth, am_set, am_st1, am_st2, am_kl, am_kill, am_mem, am_fv, am_tk, am_wt, am_bk, Option.toList, List.cons_append, List.nil_append, Nat.reduceAdd, Nat.reduceEqDiff, Nat.reduceLeDiff, reduceIte, Nat.reduceLT, or_self, true_or, or_true, if_true, if_false, and_self, and_true, true_and, not_false_eq_true, not_true_eq_false, fd_Mo_mergeNow_276, fd_Mo_mergeNow_278, fd_Mo_mergeNow_279, S1.all, n1]
  refine am_go [287] 1 ?_
  simp only [am_wp, am_stp, am_en, am_as, am_pad, am_nth, am_set, am_st1, am_st2, am_kl, am_kill, am_mem, am_fv, am_tk, am_wt, am_bk, Option.toList, List.cons_append, List.nil_append, Nat.reduceAdd, Nat.reduceEqDiff, Nat.reduceLeDiff, reduceIte, Nat.reduceLT, or_self, true_or, or_true, if_true, if_false, and_self, and_true, true_and, not_false_eq_true, not_true_eq_false, fd_Mo_mergeNow_286]
  refine am_go [302, 337] 8 ?_
  simp only [am_wp, am_stp, am_en, am_as, am_pad, am_nth, am_set, am_st1, am_st2, am_kl, am_kill, am_mem, am_fv, am_tk, am_wt, am_bk, Option.toList, List.cons_append, List.nil_append, Nat.reduceAdd, Nat.reduceEqDiff, Nat.reduceLeDiff, reduceIte, Nat.reduceLT, or_self, true_or, or_true, if_true, if_false, and_self, and_true, true_and, not_false_eq_true, not_true_eq_false, fd_Mo_mergeNow_287, fd_Mo_mergeNow_289, fd_Mo_mergeNow_290, fd_Mo_mergeNow_293, fd_Mo_mergeNow_294, fd_Mo_mergeNow_295, fd_Mo_mergeNow_297, fd_Mo_mergeNow_299, S1.1, g24, esub, one0]
  refine am_go [340] 2 ?_
  simp only [am_wp, am_stp, am_en, am_as, am_pad, am_nth, am_set, am_st1, am_st2, am_kl, am_kill, am_mem, am_fv, am_tk, am_wt, am_bk, Option.toList, List.cons_append, List.nil_append, Nat.reduceAdd, Nat.reduceEqDiff, Nat.reduceLeDiff, reduceIte, Nat.reduceLT, or_self, true_or, or_true, if_true, if_false, and_self, and_true, true_and, not_false_eq_true, not_true_eq_false, fd_Mo_mergeNow_337, fd_Mo_mergeNow_338]
  refine l2_sh1_loop S1 hk1 ul n9 (fun g4 F2 e86 => ?_) (now.length - k) 0 g3 (by omega) am_fi.refl (by funext j; rw [if_neg (by omega)])
  have S2 := S1.fi F2
  have i0 : ((0 : Int32) < 0 ∨ 9 ≤ (0 : Int32).toNatClampNeg) = False := by decide
  have c0 : (0 : Int32).toNatClampNeg = 0 := by decide
  have iS := am_inb (c := s) (N := 100) (by omega) (by omega)
  have qS : (nI s).toNatClampNeg = s := nI_clamp (by omega)
  obtain ⟨k72, ⟨r15, k77, n77⟩, -, -, -, -, -, -, -, -, ⟨r25, k86, n86⟩, -⟩ := mo_sl_ S2
  refine am_go [] 5 ?_
  simp only [am_wp, am_stp, am_en, am_as, am_pad, am_nth, am_set, am_st1, am_st2, am_kl, am_kill, am_mem, am_fv, am_tk, am_wt, am_bk, Option.toList, List.cons_append, List.nil_append, Nat.reduceAdd, Nat.reduceEqDiff, Nat.reduceLeDiff, reduceIte, Nat.reduceLT, or_self, true_or, or_true, if_true, if_false, and_self, and_true, true_and, not_false_eq_true, not_true_eq_false, fd_Mo_mergeNow_371, fd_Mo_mergeNow_372, fd_Mo_mergeNow_375, fd_Mo_mergeNow_376, fd_Mo_mergeNow_378, k72, r25, k86, n86, i0]
  rw [c0]
  refine am_go [] 5 ?_
  simp only [am_wp, am_stp, am_en, am_as, am_pad, am_nth, am_set, am_st1, am_st2, am_kl, am_kill, am_mem, am_fv, am_tk, am_wt, am_bk, Option.toList, List.cons_append, List.nil_append, Nat.reduceAdd, Nat.reduceEqDiff, Nat.reduceLeDiff, reduceIte, Nat.reduceLT, or_self, true_or, or_true, if_true, if_false, and_self, and_true, true_and, not_false_eq_true, not_true_eq_false, fd_Mo_mergeNow_379, fd_Mo_mergeNow_380, fd_Mo_mergeNow_383, fd_Mo_mergeNow_385, fd_Mo_mergeNow_386, hx_nx_sI, hx_ce_sI, hx_sl_sI, hx_kd_sI, hx_ln_sI, hx_I_sI, hx_L_sI, hx_R_sI, hx_nx_sL, hx_ce_sL, hx_sl_sL, hx_kd_sL, hx_ln_sL, hx_I_sL, hx_L_sL, hx_R_sL, hx_nx_sR, hx_ce_sR, hx_sl_sR, hx_kd_sR, hx_ln_sR, hx_I_sR, hx_L_sR, hx_R_sR, hx_nx_al, hx_ce_al, hx_sl_al, hx_kd_al, hx_ln_al, hx_I_al, hx_L_al, hx_R_al, hx_nx_row, hx_ce_row, hx_sl_row, hx_kd_row, hx_ln_row, hx_I_row, hx_L_row, hx_R_row, hx_nx_mk, hx_kd_mk, hx_ln_mk, hx_I_mk, hx_L_mk, hx_R_mk, k72, r15, k77, n77, iS, qS]
  refine am_go [397] 6 ?_
  simp only [am_wp, am_stp, am_en, am_as, am_pad, am_nth, am_set, am_st1, am_st2, am_kl, am_kill, am_mem, am_fv, am_tk, am_wt, am_bk, Option.toList, List.cons_append, List.nil_append, Nat.reduceAdd, Nat.reduceEqDiff, Nat.reduceLeDiff, reduceIte, Nat.reduceLT, or_self, true_or, or_true, if_true, if_false, and_self, and_true, true_and, not_false_eq_true, not_true_eq_false, fd_Mo_mergeNow_387, fd_Mo_mergeNow_388, fd_Mo_mergeNow_389, fd_Mo_mergeNow_392, fd_Mo_mergeNow_393, fd_Mo_mergeNow_394, hx_kd_sI, k72]
  have F24 : am_fi [77, 86] g2 g4 := (F1.sub (by simp)).trans (F2.sub (by simp))
  have w := F24.2.2.2.2.2.2.1
  generalize hx5 : am_I (am_sI (am_sI g4 86 0 (nI s)) 77 s 1) 72 5 + 1 = x5
  have F5 : am_fi [72, 77, 86] g2 (am_sI (am_sI (am_sI g4 86 0 (nI s)) 77 s 1) 72 5 x5) := (((F24.sub (by simp)).sI (by simp)).sI (by simp)).sI (by simp)
  have v77 : am_I (am_sI (am_sI (am_sI g4 86 0 (nI s)) 77 s 1) 72 5 x5) 77 = up_f (am_I g3 77) s 1 := by
    rw [← F2.2.2.2.2.2.2.1 77 (by decide)]
    funext j; unfold up_f; simp only [hx_nx_sI, hx_ce_sI, hx_sl_sI, hx_kd_sI, hx_ln_sI, hx_I_sI, hx_L_sI, hx_R_sI, hx_nx_sL, hx_ce_sL, hx_sl_sL, hx_kd_sL, hx_ln_sL, hx_I_sL, hx_L_sL, hx_R_sL, hx_nx_sR, hx_ce_sR, hx_sl_sR, hx_kd_sR, hx_ln_sR, hx_I_sR, hx_L_sR, hx_R_sR, hx_nx_al, hx_ce_al, hx_sl_al, hx_kd_al, hx_ln_al, hx_I_al, hx_L_al, hx_R_al, hx_nx_row, hx_ce_row, hx_sl_row, hx_kd_row, hx_ln_row, hx_I_row, hx_L_row, hx_R_row, hx_nx_mk, hx_kd_mk, hx_ln_mk, hx_I_mk, hx_L_mk, hx_R_mk, am_wp, am_stp, am_en, am_as, am_pad, am_nth, am_set, am_st1, am_st2, am_kl, am_kill, am_mem, am_fv, am_tk, am_wt, am_bk, Option.toList, List.cons_append, List.nil_append, Nat.reduceAdd, Nat.reduceEqDiff, Nat.reduceLeDiff, reduceIte, Nat.reduceLT, or_self, true_or, or_true, if_true, if_false, and_self, and_true, true_and, not_false_eq_true, not_true_eq_false]
  have v86 : am_I (am_sI (am_sI (am_sI g4 86 0 (nI s)) 77 s 1) 72 5 x5) 86 = up_f (am_I g4 86) 0 (nI s) := by funext j; unfold up_f; simp only [hx_nx_sI, hx_ce_sI, hx_sl_sI, hx_kd_sI, hx_ln_sI, hx_I_sI, hx_L_sI, hx_R_sI, hx_nx_sL, hx_ce_sL, hx_sl_sL, hx_kd_sL, hx_ln_sL, hx_I_sL, hx_L_sL, hx_R_sL, hx_nx_sR, hx_ce_sR, hx_sl_sR, hx_kd_sR, hx_ln_sR, hx_I_sR, hx_L_sR, hx_R_sR, hx_nx_al, hx_ce_al, hx_sl_al, hx_kd_al, hx_ln_al, hx_I_al, hx_L_al, hx_R_al, hx_nx_row, hx_ce_row, hx_sl_row, hx_kd_row, hx_ln_row, hx_I_row, hx_L_row, hx_R_row, hx_nx_mk, hx_kd_mk, hx_ln_mk, hx_I_mk, hx_L_mk, hx_R_mk, am_wp, am_stp, am_en, am_as, am_pad, am_nth, am_set, am_st1, am_st2, am_kl, am_kill, am_mem, am_fv, am_tk, am_wt, am_bk, Option.toList, List.cons_append, List.nil_append, Nat.reduceAdd, Nat.reduceEqDiff, Nat.reduceLeDiff, reduceIte, Nat.reduceLT, or_self, true_or, or_true, if_true, if_false, and_self, and_true, true_and, not_false_eq_true, not_true_eq_false]
  have vj : ∀ j, j ≠ 5 → am_I (am_sI (am_sI (am_sI g4 86 0 (nI s)) 77 s 1) 72 5 x5) 72 j = am_I g2 72 j := fun j hj => by
    simp only [hx_nx_sI, hx_ce_sI, hx_sl_sI, hx_kd_sI, hx_ln_sI, hx_I_sI, hx_L_sI, hx_R_sI, hx_nx_sL, hx_ce_sL, hx_sl_sL, hx_kd_sL, hx_ln_sL, hx_I_sL, hx_L_sL, hx_R_sL, hx_nx_sR, hx_ce_sR, hx_sl_sR, hx_kd_sR, hx_ln_sR, hx_I_sR, hx_L_sR, hx_R_sR, hx_nx_al, hx_ce_al, hx_sl_al, hx_kd_al, hx_ln_al, hx_I_al, hx_L_al, hx_R_al, hx_nx_row, hx_ce_row, hx_sl_row, hx_kd_row, hx_ln_row, hx_I_row, hx_L_row, hx_R_row, hx_nx_mk, hx_kd_mk, hx_ln_mk, hx_I_mk, hx_L_mk, hx_R_mk, am_wp, am_stp, am_en, am_as, am_pad, am_nth, am_set, am_st1, am_st2, am_kl, am_kill, am_mem, am_fv, am_tk, am_wt, am_bk, Option.toList, List.cons_append, List.nil_append, Nat.reduceAdd, Nat.reduceEqDiff, Nat.reduceLeDiff, reduceIte, Nat.reduceLT, or_self, true_or, or_true, if_true, if_false, and_self, and_true, true_and, not_false_eq_true, not_true_eq_false, hj]
    rw [w 72 (by decide)]
  clear hx5
  generalize am_sI (am_sI (am_sI g4 86 0 (nI s)) 77 s 1) 72 5 x5 = g5 at *
  have S5 := hS.fi F5
  have F6 : am_fi [72, 77, 86] g2 (am_sI g5 72 24 (nI (now.length - k + 1))) := F5.sI (by simp)
  have w6 := F6.2.2.2.2.2.2.1
  have u24 : am_I (am_sI g5 72 24 (nI (now.length - k + 1))) 72 24 = nI (now.length - k + 1) := by rw [hx_I_sI, if_pos rfl, if_pos rfl]
  have uj : ∀ j, j ≠ 5 → j ≠ 24 → am_I (am_sI g5 72 24 (nI (now.length - k + 1))) 72 j = am_I g2 72 j := fun j h5 h24 => by
    rw [hx_I_sI, if_pos rfl, if_neg h24, vj j h5]
  have u77 : am_I (am_sI g5 72 24 (nI (now.length - k + 1))) 77 = up_f (am_I g3 77) s 1 := by
    rw [← v77]; funext j; rw [hx_I_sI, if_neg (by decide)]
  have u86 : am_I (am_sI g5 72 24 (nI (now.length - k + 1))) 86 = up_f (am_I g4 86) 0 (nI s) := by
    rw [← v86]; funext j; rw [hx_I_sI, if_neg (by decide)]
  refine rx_mn_fin (m := 1) S5 (F0.trans ((q1.sub (by decide)).trans (F5.sub (by decide)))) ?_ (E := nE E ps) (now := s :: now.drop k) (mk := mk) ?_
  · have C2 : rC P g2 := C.v q1 (by decide) (q2 1 (by decide) (by decide)) (q2 9 (by decide) (by decide)) (q2 11 (by decide) (by decide)) (q2 45 (by decide) (by decide)) q2'.1 q2'.2
    exact C2.v F6 (by decide) (uj 1 (by decide) (by decide)) (uj 9 (by decide) (by decide)) (uj 11 (by decide) (by decide)) (uj 45 (by decide) (by decide)) (by rw [uj 8 (by decide) (by decide)]; exact C2.a8) (C2.b.eq (w6 73 (by decide)))
  · have mv : ∀ s0, rs_W P g2 (nE E ps) s0 → rs_W P (am_sI g5 72 24 (nI (now.length - k + 1))) (nE E ps) s0 := fun s0 c => c.eq P1024 (by rw [w6 80 (by decide)]) (fun k _ => by rw [w6 82 (by decide)]) (fun x hx => hx.eq (fun j _ => by rw [w6 73 (by decide)]))
    refine rR_add (l := to) R ?_ ?_ ?_ (fun s0 h0 => mv s0 (N2 s0 h0)) (mv s N3) N1 ?_ ?_ (fun i hi => ?_) (fun t ht => ?_) ?_ hto3 ?_ ⟨?_, ?_⟩
    · rw [w6 87 (by decide), q1.2.2.2.2.2.2.1 87 (by decide)]
    · rw [w6 88 (by decide), q1.2.2.2.2.2.2.1 88 (by decide)]
    · rw [w6 89 (by decide), q1.2.2.2.2.2.2.1 89 (by decide)]
    · rw [u24, List.length_drop]
    · rw [u86]; unfold up_f; rw [if_pos rfl]
    · rw [List.length_drop] at hi
      rw [u86]
      unfold up_f
      rw [if_neg (by omega), e86]
      dsimp only
      rw [if_pos (by omega), F1.2.2.2.2.2.2.1 86 (by decide), r86, Nat.add_sub_cancel]
    · rw [u77]
      unfold up_f
      by_cases e : t = s
      · rw [if_pos e, if_pos e]
      · rw [if_neg e, if_neg e]; exact e77 t ht
    · rw [w6 79 (by decide)]; exact q4
    · rw [uj 3 (by decide) (by decide), q2 3 (by decide) (by decide)]; exact h3
    · rw [List.map_drop]
      exact ⟨Or.inr (by omega), hto3, hd⟩
    · show (if to ≤ 0 then up 0 ((now.drop k).map (lev g)) + 1 else 0) ≤ 6
      rw [if_neg (by omega)]
      omega
theorem rx_mergeNow {d P : Nat} {h : am_H} (R : rI P h) (h3 : am_I h 72 3 = 0) : am_Rt nm_pr (d + 6) mi_Mo_mergeNow [.ref 72] h (fun o h' => iany o ∧ rq P h h') := by
  obtain ⟨C, E, now, mk, RR⟩ := id R
  have hS := C.1
  have P1024 := C.2.2.1
  have n9 := RR.n9
  have ul := up_le 0 (now.map (lev h))
  rw [List.length_map] at ul
  refine am_in' (d := d + 5) mt_Mo_mergeNow 9 rfl rfl rfl ?_
  refine am_go [] 2 ?_
  simp only [am_wp, am_stp, am_en, am_as, am_pad, am_nth, am_set, am_st1, am_st2, am_kl, am_kill, am_mem, am_fv, am_tk, am_wt, am_bk, Option.toList, List.cons_append, List.nil_append, Nat.reduceAdd, Nat.reduceEqDiff, Nat.reduceLeDiff, reduceIte, Nat.reduceLT, or_self, true_or, or_true, if_true, if_false, and_self, and_true, true_and, not_false_eq_true, not_true_eq_false, fd_Mo_mergeNow_0, fd_Mo_mergeNow_1, hS.all]
  refine am_call (rx_level0 (d := d + 4) hS RR.ns RR.nl) (fun o h1 q => ?_)
  obtain ⟨rfl, rfl⟩ := q
  simp only [am_wp, am_stp, am_en, am_as, am_pad, am_nth, am_set, am_st1, am_st2, am_kl, am_kill, am_mem, am_fv, am_tk, am_wt, am_bk, Option.toList, List.cons_append, List.nil_append, Nat.reduceAdd, Nat.reduceEqDiff, Nat.reduceLeDiff, reduceIte, Nat.reduceLT, or_self, true_or, or_true, if_true, if_false, and_self, and_true, true_and, not_false_eq_true, not_true_eq_false]
  by_cases hz : up 0 (now.map (lev h1)) = 0
  · have e0 : nI (up 0 (now.map (lev h1))) = 0 := by rw [hz]; rfl
    refine am_go [7, 11] 1 ?_
    simp only [am_wp, am_stp, am_en, am_as, am_pad, am_nth, am_set, am_st1, am_st2, am_kl, am_kill, am_mem, am_fv, am_tk, am_wt, am_bk, Option.toList, List.cons_append, List.nil_append, Nat.reduceAdd, Nat.reduceEqDiff, Nat.reduceLeDiff, reduceIte, Nat.reduceLT, or_self, true_or, or_true, if_true, if_false, and_self, and_true, true_and, not_false_eq_true, not_true_eq_false, fd_Mo_mergeNow_4, hS.all, e0]
    refine am_go [] 2 ?_
    simp only [am_wp, am_stp, am_en, am_as, am_pad, am_nth, am_set, am_st1, am_st2, am_kl, am_kill, am_mem, am_fv, am_tk, am_wt, am_bk, Option.toList, List.cons_append, List.nil_append, Nat.reduceAdd, Nat.reduceEqDiff, Nat.reduceLeDiff, reduceIte, Nat.reduceLT, or_self, true_or, or_true, if_true, if_false, and_self, and_true, true_and, not_false_eq_true, not_true_eq_false, fd_Mo_mergeNow_7, fd_Mo_mergeNow_10, hS.all]
    exact ⟨⟨_, rfl⟩, rq.refl R⟩
  have z : ¬ nI (up 0 (now.map (lev h1))) = 0 := nI_ne0 (by omega) (by omega)
  refine am_go [7, 11] 1 ?_
  simp only [am_wp, am_stp, am_en, am_as, am_pad, am_nth, am_set, am_st1, am_st2, am_kl, am_kill, am_mem, am_fv, am_tk, am_wt, am_bk, Option.toList, List.cons_append, List.nil_append, Nat.reduceAdd, Nat.reduceEqDiff, Nat.reduceLeDiff, reduceIte, Nat.reduceLT, or_self, true_or, or_true, if_true, if_false, and_self, and_true, true_and, not_false_eq_true, not_true_eq_false, fd_Mo_mergeNow_4, hS.all, z]
  refine am_go [26, 200] 11 ?_
  simp only [am_wp, am_stp, am_en, am_as, am_pad, am_nth, am_set, am_st1, am_st2, am_kl, am_kill, am_mem, am_fv, am_tk, am_wt, am_bk, Option.toList, List.cons_append, List.nil_append, Nat.reduceAdd, Nat.reduceEqDiff, Nat.reduceLeDiff, reduceIte, Nat.reduceLT, or_self, true_or, or_true, if_true, if_false, and_self, and_true, true_and, not_false_eq_true, not_true_eq_false, fd_Mo_mergeNow_11, fd_Mo_mergeNow_12, fd_Mo_mergeNow_13, fd_Mo_mergeNow_16, fd_Mo_mergeNow_17, fd_Mo_mergeNow_18, fd_Mo_mergeNow_19, fd_Mo_mergeNow_20, fd_Mo_mergeNow_21, fd_Mo_mergeNow_22, fd_Mo_mergeNow_23, hS.1]
  have F1 : am_fi [72] h1 (am_sI h1 72 31 0) := am_fi.refl.sI (by simp)
  have v31 : am_I (am_sI h1 72 31 0) 72 31 = nI 0 := by simp only [hx_nx_sI, hx_ce_sI, hx_sl_sI, hx_kd_sI, hx_ln_sI, hx_I_sI, hx_L_sI, hx_R_sI, hx_nx_sL, hx_ce_sL, hx_sl_sL, hx_kd_sL, hx_ln_sL, hx_I_sL, hx_L_sL, hx_R_sL, hx_nx_sR, hx_ce_sR, hx_sl_sR, hx_kd_sR, hx_ln_sR, hx_I_sR, hx_L_sR, hx_R_sR, hx_nx_al, hx_ce_al, hx_sl_al, hx_kd_al, hx_ln_al, hx_I_al, hx_L_al, hx_R_al, hx_nx_row, hx_ce_row, hx_sl_row, hx_kd_row, hx_ln_row, hx_I_row, hx_L_row, hx_R_row, hx_nx_mk, hx_kd_mk, hx_ln_mk, hx_I_mk, hx_L_mk, hx_R_mk, am_wp, am_stp, am_en, am_as, am_pad, am_nth, am_set, am_st1, am_st2, am_kl, am_kill, am_mem, am_fv, am_tk, am_wt, am_bk, Option.toList, List.cons_append, List.nil_append, Nat.reduceAdd, Nat.reduceEqDiff, Nat.reduceLeDiff, reduceIte, Nat.reduceLT, or_self, true_or, or_true, if_true, if_false, and_self, and_true, true_and, not_false_eq_true, not_true_eq_false]; rfl
  have vj : ∀ j, j ≠ 31 → am_I (am_sI h1 72 31 0) 72 j = am_I h1 72 j := fun j hj => by simp only [hx_nx_sI, hx_ce_sI, hx_sl_sI, hx_kd_sI, hx_ln_sI, hx_I_sI, hx_L_sI, hx_R_sI, hx_nx_sL, hx_ce_sL, hx_sl_sL, hx_kd_sL, hx_ln_sL, hx_I_sL, hx_L_sL, hx_R_sL, hx_nx_sR, hx_ce_sR, hx_sl_sR, hx_kd_sR, hx_ln_sR, hx_I_sR, hx_L_sR, hx_R_sR, hx_nx_al, hx_ce_al, hx_sl_al, hx_kd_al, hx_ln_al, hx_I_al, hx_L_al, hx_R_al, hx_nx_row, hx_ce_row, hx_sl_row, hx_kd_row, hx_ln_row, hx_I_row, hx_L_row, hx_R_row, hx_nx_mk, hx_kd_mk, hx_ln_mk, hx_I_mk, hx_L_mk, hx_R_mk, am_wp, am_stp, am_en, am_as, am_pad, am_nth, am_set, am_st1, am_st2, am_kl, am_kill, am_mem, am_fv, am_tk, am_wt, am_bk, Option.toList, List.cons_append, List.nil_append, Nat.reduceAdd, Nat.reduceEqDiff, Nat.reduceLeDiff, reduceIte, Nat.reduceLT, or_self, true_or, or_true, if_true, if_false, and_self, and_true, true_and, not_false_eq_true, not_true_eq_false, hj]
  generalize am_sI h1 72 31 0 = g at F1 v31 vj ⊢
  have gJ : ∀ j, rJ j → am_I g 72 j = am_I h1 72 j := fun j hj => vj j (rJ_ne hj).2.2.2.2.2.2.1
  have I0 : mi P E now mk h1 g [] := ⟨C.fr F1 (by simp) gJ, RR.fr P1024 F1 (by simp) gJ, ⟨hS.fi F1, v31, by simp, fun i e he => by simp at he⟩, kl.nil, F1.sub (by decide), by rw [vj 3 (by decide)]; exact h3, F1.2.2.2.2.2.2.1 79 (by decide)⟩
  refine rx_mn_round (d := d) (fun g1 q1 => ⟨⟨_, rfl⟩, q1⟩) (fun to t1 t3 g1 x4 x5 w6 w7 w8 M I => ?_) 2 1 0 _ _ _ _ _ g [] rfl (by omega) (Nat.zero_le _) I0
  obtain ⟨C1, R1, Ky, kM, F, i3, i79⟩ := id I
  have S1 := C1.1
  refine am_go [] 2 ?_
  simp only [am_wp, am_stp, am_en, am_as, am_pad, am_nth, am_set, am_st1, am_st2, am_kl, am_kill, am_mem, am_fv, am_tk, am_wt, am_bk, Option.toList, List.cons_append, List.nil_append, Nat.reduceAdd, Nat.reduceEqDiff, Nat.reduceLeDiff, reduceIte, Nat.reduceLT, or_self, true_or, or_true, if_true, if_false, and_self, and_true, true_and, not_false_eq_true, not_true_eq_false, fd_Mo_mergeNow_200, fd_Mo_mergeNow_201, S1.all]
  refine am_call (l2_Mo_freeCount (d := d + 3) (by have := C1.2.1; omega) P1024 S1 C1.2.2.2.1 (R1.W P1024)) (fun o g2 z => ?_)
  obtain ⟨rfl, F2, L2, v2⟩ := z
  have j72 : am_I g2 72 = am_I g1 72 := F2.2.2.2.2.2.2.1 72 (by simp)
  have I2 : mi P E now mk h1 g2 M := I.fr F2 (by simp [rB]) (fun j _ => by rw [j72]) ⟨S1.fi F2, by rw [j72]; exact Ky.2.1, Ky.2.2.1, Ky.2.2.2.fi F2 (by simp)⟩ kM
  obtain ⟨C2, R2, Ky2, kM2, F02, i32, i792⟩ := id I2
  have S2 := C2.1
  have c31 := Ky2.2.1
  have hl := Ky2.2.2.1
  have em : now.map (lev h1) = now.map (lev g2) := List.map_congr_left (fun s _ => (I2.lv s).symm)
  have u1 : 1 ≤ up to (now.map (lev g2)) := by
    have := up_mono (show 0 ≤ to by omega) (now.map (lev h1))
    rw [← em]
    omega
  rw [em]
  simp only [am_wp, am_stp, am_en, am_as, am_pad, am_nth, am_set, am_st1, am_st2, am_kl, am_kill, am_mem, am_fv, am_tk, am_wt, am_bk, Option.toList, List.cons_append, List.nil_append, Nat.reduceAdd, Nat.reduceEqDiff, Nat.reduceLeDiff, reduceIte, Nat.reduceLT, or_self, true_or, or_true, if_true, if_false, and_self, and_true, true_and, not_false_eq_true, not_true_eq_false]
  refine am_go [216, 245] 6 ?_
  simp only [am_wp, am_stp, am_en, am_as, am_pad, am_nth, am_set, am_st1, am_st2, am_kl, am_kill, am_mem, am_fv, am_tk, am_wt, am_bk, Option.toList, List.cons_append, List.nil_append, Nat.reduceAdd, Nat.reduceEqDiff, Nat.reduceLeDiff, reduceIte, Nat.reduceLT, or_self, true_or, or_true, if_true, if_false, and_self, and_true, true_and, not_false_eq_true, not_true_eq_false, fd_Mo_mergeNow_204, fd_Mo_mergeNow_206, fd_Mo_mergeNow_207, fd_Mo_mergeNow_209, fd_Mo_mergeNow_210, fd_Mo_mergeNow_213, S2.1, c31]
  by_cases hE : M = []
  · have l0 : ¬ (0 : Int32) < nI M.length := by rw [hE]; decide
    simp only [l0, am_wp, am_stp, am_en, am_as, am_pad, am_nth, am_set, am_st1, am_st2, am_kl, am_kill, am_mem, am_fv, am_tk, am_wt, am_bk, Option.toList, List.cons_append, List.nil_append, Nat.reduceAdd, Nat.reduceEqDiff, Nat.reduceLeDiff, reduceIte, Nat.reduceLT, or_self, true_or, or_true, if_true, if_false, and_self, and_true, true_and, not_false_eq_true, not_true_eq_false]
    exact rx_mn_none (d := d + 1) C2 R2 F02 i32 t1
  · have l0 : (0 : Int32) < nI M.length := nI_gt0 (List.length_pos_iff.mpr hE) (by omega)
    simp only [l0, am_wp, am_stp, am_en, am_as, am_pad, am_nth, am_set, am_st1, am_st2, am_kl, am_kill, am_mem, am_fv, am_tk, am_wt, am_bk, Option.toList, List.cons_append, List.nil_append, Nat.reduceAdd, Nat.reduceEqDiff, Nat.reduceLeDiff, reduceIte, Nat.reduceLT, or_self, true_or, or_true, if_true, if_false, and_self, and_true, true_and, not_false_eq_true, not_true_eq_false]
    refine am_go [] 3 ?_
    simp only [am_wp, am_stp, am_en, am_as, am_pad, am_nth, am_set, am_st1, am_st2, am_kl, am_kill, am_mem, am_fv, am_tk, am_wt, am_bk, Option.toList, List.cons_append, List.nil_append, Nat.reduceAdd, Nat.reduceEqDiff, Nat.reduceLeDiff, reduceIte, Nat.reduceLT, or_self, true_or, or_true, if_true, if_false, and_self, and_true, true_and, not_false_eq_true, not_true_eq_false, fd_Mo_mergeNow_216, fd_Mo_mergeNow_217, fd_Mo_mergeNow_218, S2.all]
    refine am_call (rx_writeRun (d := d) (lv := nI to) C2 Ky2 hE kM2.2.1 (R2.W P1024) R2.slot) (fun o g3 q => ?_)
    rcases q with ⟨s, ps, rfl, Q⟩ | ⟨rfl, F3⟩ | ⟨rfl, q1, q2⟩
    · have S3 := S2.fi Q.1
      have hs := Q.2.2.2.1.1
      have pos : ¬ nI s < 0 := nI_pos (by omega)
      simp only [am_wp, am_stp, am_en, am_as, am_pad, am_nth, am_set, am_st1, am_st2, am_kl, am_kill, am_mem, am_fv, am_tk, am_wt, am_bk, Option.toList, List.cons_append, List.nil_append, Nat.reduceAdd, Nat.reduceEqDiff, Nat.reduceLeDiff, reduceIte, Nat.reduceLT, or_self, true_or, or_true, if_true, if_false, and_self, and_true, true_and, not_false_eq_true, not_true_eq_false]
      refine am_go [228, 245] 3 ?_
      simp only [am_wp, am_stp, am_en, am_as, am_pad, am_nth, am_set, am_st1, am_st2, am_kl, am_kill, am_mem, am_fv, am_tk, am_wt, am_bk, Option.toList, List.cons_append, List.nil_append, Nat.reduceAdd, Nat.reduceEqDiff, Nat.reduceLeDiff, reduceIte, Nat.reduceLT, or_self, true_or, or_true, if_true, if_false, and_self, and_true, true_and, not_false_eq_true, not_true_eq_false, fd_Mo_mergeNow_221, fd_Mo_mergeNow_223, fd_Mo_mergeNow_225, S3.all, pos]
      exact rx_mn_one (d := d + 1) C2 R2 F02 i32 t1 t3 u1 hE kM2.1 kM2.2.1 Q
    · have neg : (-1 : Int32) < 0 := by decide
      have n12 : ¬ ((-1 : Int32) = -2) := by decide
      have S3 := S2.fi F3
      simp only [am_wp, am_stp, am_en, am_as, am_pad, am_nth, am_set, am_st1, am_st2, am_kl, am_kill, am_mem, am_fv, am_tk, am_wt, am_bk, Option.toList, List.cons_append, List.nil_append, Nat.reduceAdd, Nat.reduceEqDiff, Nat.reduceLeDiff, reduceIte, Nat.reduceLT, or_self, true_or, or_true, if_true, if_false, and_self, and_true, true_and, not_false_eq_true, not_true_eq_false]
      refine am_go [228, 245] 3 ?_
      simp only [am_wp, am_stp, am_en, am_as, am_pad, am_nth, am_set, am_st1, am_st2, am_kl, am_kill, am_mem, am_fv, am_tk, am_wt, am_bk, Option.toList, List.cons_append, List.nil_append, Nat.reduceAdd, Nat.reduceEqDiff, Nat.reduceLeDiff, reduceIte, Nat.reduceLT, or_self, true_or, or_true, if_true, if_false, and_self, and_true, true_and, not_false_eq_true, not_true_eq_false, fd_Mo_mergeNow_221, fd_Mo_mergeNow_223, fd_Mo_mergeNow_225, S3.all, neg]
      refine am_go [235, 241] 3 ?_
      simp only [am_wp, am_stp, am_en, am_as, am_pad, am_nth, am_set, am_st1, am_st2, am_kl, am_kill, am_mem, am_fv, am_tk, am_wt, am_bk, Option.toList, List.cons_append, List.nil_append, Nat.reduceAdd, Nat.reduceEqDiff, Nat.reduceLeDiff, reduceIte, Nat.reduceLT, or_self, true_or, or_true, if_true, if_false, and_self, and_true, true_and, not_false_eq_true, not_true_eq_false, fd_Mo_mergeNow_228, fd_Mo_mergeNow_230, fd_Mo_mergeNow_232, S3.all, n12]
      refine am_go [] 2 ?_
      simp only [am_wp, am_stp, am_en, am_as, am_pad, am_nth, am_set, am_st1, am_st2, am_kl, am_kill, am_mem, am_fv, am_tk, am_wt, am_bk, Option.toList, List.cons_append, List.nil_append, Nat.reduceAdd, Nat.reduceEqDiff, Nat.reduceLeDiff, reduceIte, Nat.reduceLT, or_self, true_or, or_true, if_true, if_false, and_self, and_true, true_and, not_false_eq_true, not_true_eq_false, fd_Mo_mergeNow_241, fd_Mo_mergeNow_244, S3.all]
      exact ⟨⟨_, rfl⟩, I2.rq.trans (rq.fr I2.rI F3 (by simp [rB]) (fun j _ => by rw [F3.2.2.2.2.2.2.1 72 (by simp)]))⟩
    · have neg : (-2 : Int32) < 0 := by decide
      have S3 := S2.fi q1.2
      simp only [am_wp, am_stp, am_en, am_as, am_pad, am_nth, am_set, am_st1, am_st2, am_kl, am_kill, am_mem, am_fv, am_tk, am_wt, am_bk, Option.toList, List.cons_append, List.nil_append, Nat.reduceAdd, Nat.reduceEqDiff, Nat.reduceLeDiff, reduceIte, Nat.reduceLT, or_self, true_or, or_true, if_true, if_false, and_self, and_true, true_and, not_false_eq_true, not_true_eq_false]
      refine am_go [228, 245] 3 ?_
      simp only [am_wp, am_stp, am_en, am_as, am_pad, am_nth, am_set, am_st1, am_st2, am_kl, am_kill, am_mem, am_fv, am_tk, am_wt, am_bk, Option.toList, List.cons_append, List.nil_append, Nat.reduceAdd, Nat.reduceEqDiff, Nat.reduceLeDiff, reduceIte, Nat.reduceLT, or_self, true_or, or_true, if_true, if_false, and_self, and_true, true_and, not_false_eq_true, not_true_eq_false, fd_Mo_mergeNow_221, fd_Mo_mergeNow_223, fd_Mo_mergeNow_225, S3.all, neg]
      refine am_go [235, 241] 3 ?_
      simp only [am_wp, am_stp, am_en, am_as, am_pad, am_nth, am_set, am_st1, am_st2, am_kl, am_kill, am_mem, am_fv, am_tk, am_wt, am_bk, Option.toList, List.cons_append, List.nil_append, Nat.reduceAdd, Nat.reduceEqDiff, Nat.reduceLeDiff, reduceIte, Nat.reduceLT, or_self, true_or, or_true, if_true, if_false, and_self, and_true, true_and, not_false_eq_true, not_true_eq_false, fd_Mo_mergeNow_228, fd_Mo_mergeNow_230, fd_Mo_mergeNow_232, S3.all]
      refine am_go [] 3 ?_
      simp only [am_wp, am_stp, am_en, am_as, am_pad, am_nth, am_set, am_st1, am_st2, am_kl, am_kill, am_mem, am_fv, am_tk, am_wt, am_bk, Option.toList, List.cons_append, List.nil_append, Nat.reduceAdd, Nat.reduceEqDiff, Nat.reduceLeDiff, reduceIte, Nat.reduceLT, or_self, true_or, or_true, if_true, if_false, and_self, and_true, true_and, not_false_eq_true, not_true_eq_false, fd_Mo_mergeNow_235, fd_Mo_mergeNow_238, fd_Mo_mergeNow_244, S3.all]
      exact ⟨⟨_, rfl⟩, I2.rq.trans q1⟩
