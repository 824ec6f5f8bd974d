/-! THE REFERENCE'S mergeNow: its end -/
def rm_0 (P : Nat) (h : am_H) (r : rn) : Prop := rs_M P h r.1 r.2.2 ∧ am_I h 79 r.1 = nI r.2.1 ∧ r.2.1 ≤ 3 ∧ r.2.2.length = npg (ch_E r.2.2) ∧ so (ch_E r.2.2) ∧ ∀ e ∈ ch_E r.2.2, eo e
/-- the new list of runs: mk, then what is left of Rs -/
theorem nm_R.fin {P k : Nat} {h G : am_H} {Rs mk : List rn} (N : nm_R P h Rs) (hk1 : 1 ≤ k) (hk : k ≤ Rs.length) (hm1 : mk.length ≤ 1) (M : ∀ r ∈ mk, rm_0 P h r ∧ r.1 ∉ Rs.map (·.1) ∧ ∀ p ∈ rn_p r, p ∉ pgs Rs) (hmn : (mk.map (·.1)).Nodup) (hmp : (pgs mk).Nodup)
    (e79 : am_I G 79 = am_I h 79) (e80 : am_I G 80 = am_I h 80) (e82 : am_I G 82 = am_I h 82) (e73 : am_I G 73 = am_I h 73) (e77 : am_I G 77 = fun x => if x ∈ mk.map (·.1) then 1 else if x ∈ (Rs.take k).map (·.1) then 0 else am_I h 77 x) (e86 : ∀ i r, (mk ++ Rs.drop k)[i]? = some r → am_I G 86 i = nI r.1) (e24 : am_I G 72 24 = nI (mk ++ Rs.drop k).length) : nm_R P G (mk ++ Rs.drop k) := by
  obtain ⟨c1, c2, c3, c4, c5, c6⟩ := N
  have c4' : (((Rs.take k) ++ Rs.drop k).map (·.1)).Nodup := by rw [List.take_append_drop]; exact c4
  rw [List.map_append] at c4'
  obtain ⟨d1, d2, d3⟩ := List.nodup_append.mp c4'
  have c5' : (pgs (Rs.take k ++ Rs.drop k)).Nodup := by rw [List.take_append_drop]; exact c5
  rw [pgs_app] at c5'
  obtain ⟨f1, f2, f3⟩ := List.nodup_append.mp c5'
  have sub1 : ∀ x ∈ (Rs.drop k).map (·.1), x ∈ Rs.map (·.1) := fun x hx => by
    obtain ⟨r, r1, r2⟩ := List.mem_map.mp hx
    exact List.mem_map.mpr ⟨r, List.mem_of_mem_drop r1, r2⟩
  have sub2 : ∀ x ∈ pgs (Rs.drop k), x ∈ pgs Rs := fun x hx => by
    obtain ⟨r, r1, r2⟩ := List.mem_flatMap.mp hx
    exact List.mem_flatMap.mpr ⟨r, List.mem_of_mem_drop r1, r2⟩
  refine ⟨fun i r hr => ⟨e86 i r hr, ?_⟩, e24, ?_, ?_, ?_, fun s h1 h2 => ?_⟩
  · have hmem := List.mem_of_getElem? hr
    rcases List.mem_append.mp hmem with hm | hm
    · obtain ⟨⟨⟨a1, a2, a3, a4⟩, a5, a6, a7⟩, m2, m3⟩ := M r hm
      refine ⟨⟨a1, by rw [e80]; exact a2, a3, fun j q hj => ⟨by rw [e82]; exact (a4 j q hj).1, (a4 j q hj).2.mono (fun x _ => by rw [e73])⟩⟩, by rw [e79]; exact a5, a6, ?_, a7⟩
      rw [e77]
      dsimp only
      rw [if_pos (List.mem_map_of_mem hm)]
    · obtain ⟨j, hj⟩ := List.getElem?_of_mem (List.mem_of_mem_drop hm)
      obtain ⟨x1, x2⟩ := c1 j r hj
      refine x2.fr (by rw [e79]) (by rw [e80]) ?_ (fun _ _ => by rw [e82]) (fun _ _ _ _ => by rw [e73])
      rw [e77]
      dsimp only
      have hin : r.1 ∈ (Rs.drop k).map (·.1) := List.mem_map_of_mem hm
      rw [if_neg (fun hq => by
        obtain ⟨y, y1, y2⟩ := List.mem_map.mp hq
        have := (M y y1).2.1
        rw [y2] at this
        exact this (sub1 _ hin)), if_neg (fun hq => d3 r.1 hq r.1 hin rfl)]
  · rw [List.length_append, List.length_drop]
    omega
  · rw [List.map_append]
    refine List.nodup_append.mpr ⟨hmn, d2, fun x hx y hy e => ?_⟩
    obtain ⟨r, r1, r2⟩ := List.mem_map.mp hx
    exact (M r r1).2.1 (by rw [r2, e]; exact sub1 y hy)
  · rw [pgs_app]
    refine List.nodup_append.mpr ⟨hmp, f2, fun x hx y hy e => ?_⟩
    obtain ⟨r, r1, r2⟩ := List.mem_flatMap.mp hx
    exact (M r r1).2.2 x r2 (by rw [e]; exact sub2 y hy)
  · rw [List.map_append] at h2
    have n1 : s ∉ mk.map (·.1) := fun z => h2 (List.mem_append_left _ z)
    have n2 : s ∉ (Rs.drop k).map (·.1) := fun z => h2 (List.mem_append_right _ z)
    rw [e77]
    dsimp only
    rw [if_neg n1]
    by_cases q : s ∈ (Rs.take k).map (·.1)
    · rw [if_pos q]
    · rw [if_neg q]
      refine c6 s h1 (fun z => ?_)
      rw [← List.take_append_drop k Rs, List.map_append] at z
      rcases List.mem_append.mp z with z | z
      · exact q z
      · exact n2 z
theorem l2_users_loop {d P k : Nat} {x2 x3 x4 x5 : Int32} {w7 w8 : Value} {Rs : List rn} {h : am_H} {Q : am_O → am_H → Prop} (hS : mo_Sk h) (N : nm_R P h Rs) (hk : k ≤ Rs.length) (hx : ∀ g, am_fi [77] h g → (am_I g 77 = fun x => if x ∈ (Rs.take k).map (·.1) then 0 else am_I h 77 x) → am_Ex nm_pr d mt_Mo_mergeNow (276, [.ref 72, .int (nI k), .int x2, .int x3, .int x4, .int x5, .int (nI k), w7, w8], [], g) Q) : ∀ (m i : Nat) (g : am_H), m + i = k → am_fi [77] h g → (am_I g 77 = fun x => if x ∈ (Rs.take i).map (·.1) then 0 else am_I h 77 x) →
    am_Ex nm_pr d mt_Mo_mergeNow (248, [.ref 72, .int (nI k), .int x2, .int x3, .int x4, .int x5, .int (nI i), w7, w8], [], g) Q
  | 0, i, g, hm, F, e77 => by
    have e : i = k := by omega
    subst e
    have c3 := N.2.2.1
    have l1 : ¬ nI i < nI i := nI_nlt (Nat.le_refl _) (by omega)
    refine am_go [254, 276] 3 ?_
    simp only [am_wp, am_stp, am_en, am_as, am_pad, am_nth, am_set, am_st1, am_st2, am_kl, am_kill, am_mem, am_fv, am_tk, am_wt, am_bk, Option.toList, List.cons_append, List.nil_append, Nat.reduceAdd, Nat.reduceEqDiff, Nat.reduceLeDiff, reduceIte, Nat.reduceLT, or_self, true_or, or_true, if_true, if_false, and_self, and_true, true_and, not_false_eq_true, not_true_eq_false, fd_Mo_mergeNow_248, fd_Mo_mergeNow_250, fd_Mo_mergeNow_251, l1]
    exact hx g F e77
  | m + 1, i, g, hm, F, e77 => by
    obtain ⟨c1, c2, c3, c4, c5, c6⟩ := id N
    obtain ⟨k72, ⟨r15, k77, n77⟩, -, -, -, -, -, -, -, -, ⟨r25, k86, n86⟩, -⟩ := mo_sl_ (hS.fi F)
    obtain ⟨r, hr⟩ : ∃ r, Rs[i]? = some r := ⟨Rs[i]'(by omega), List.getElem?_eq_getElem (by omega)⟩
    obtain ⟨x1, x2'⟩ := c1 i r hr
    have hs := x2'.1.1
    have g86 : am_I g 86 i = nI r.1 := by rw [F.2.2.2.2.2.2.1 86 (by simp)]; exact x1
    have hnot : r.1 ∉ (Rs.take i).map (·.1) := fun hq => by
      obtain ⟨y, y1, y2⟩ := List.mem_map.mp hq
      obtain ⟨j, hj⟩ := List.getElem?_of_mem y1
      rw [List.getElem?_take] at hj
      split at hj
      · exact adr_get c4 hj hr (by omega) y2.symm
      · cases hj
    have g77 : am_I g 77 r.1 = 1 := by
      rw [e77]
      dsimp only
      rw [if_neg hnot]
      exact x2'.2.2.2.1
    have l1 : nI i < nI k := nI_lt (by omega) (by omega)
    have i1 := am_inb (c := i) (N := 9) (by omega) (by omega)
    have q1 : (nI i).toNatClampNeg = i := nI_clamp (by omega)
    have i2 := am_inb (c := r.1) (N := 100) (by omega) (by omega)
    have q2 : (nI r.1).toNatClampNeg = r.1 := nI_clamp (by omega)
    have e10 : (1 : Int32) - 1 = 0 := by decide
    refine am_go [254, 276] 3 ?_
    simp only [am_wp, am_stp, am_en, am_as, am_pad, am_nth, am_set, am_st1, am_st2, am_kl, am_kill, am_mem, am_fv, am_tk, am_wt, am_bk, Option.toList, List.cons_append, List.nil_append, Nat.reduceAdd, Nat.reduceEqDiff, Nat.reduceLeDiff, reduceIte, Nat.reduceLT, or_self, true_or, or_true, if_true, if_false, and_self, and_true, true_and, not_false_eq_true, not_true_eq_false, fd_Mo_mergeNow_248, fd_Mo_mergeNow_250, fd_Mo_mergeNow_251, l1]
    refine am_go [248] 13 ?_
    simp only [am_wp, am_stp, am_en, am_as, am_pad, am_nth, am_set, am_st1, am_st2, am_kl, am_kill, am_mem, am_fv, am_tk, am_wt, am_bk, Option.toList, List.cons_append, List.nil_append, Nat.reduceAdd, Nat.reduceEqDiff, Nat.reduceLeDiff, reduceIte, Nat.reduceLT, or_self, true_or, or_true, if_true, if_false, and_self, and_true, true_and, not_false_eq_true, not_true_eq_false, fd_Mo_mergeNow_254, fd_Mo_mergeNow_255, fd_Mo_mergeNow_258, fd_Mo_mergeNow_259, fd_Mo_mergeNow_262, fd_Mo_mergeNow_264, fd_Mo_mergeNow_265, fd_Mo_mergeNow_266, fd_Mo_mergeNow_267, fd_Mo_mergeNow_268, fd_Mo_mergeNow_269, fd_Mo_mergeNow_270, fd_Mo_mergeNow_273, k72, r15, r25, k86, n86, i1, q1, g86, k77, n77, i2, q2, g77, e10, nI_1]
    refine l2_users_loop hS N hk hx m (i + 1) _ (by omega) (F.sI (by simp)) ?_
    funext x
    simp only [hx_nx_sI, hx_ce_sI, hx_sl_sI, hx_kd_sI, hx_ln_sI, hx_I_sI, hx_L_sI, hx_R_sI, hx_nx_sL, hx_ce_sL, hx_sl_sL, hx_kd_sL, hx_ln_sL, hx_I_sL, hx_L_sL, hx_R_sL, hx_nx_sR, hx_ce_sR, hx_sl_sR, hx_kd_sR, hx_ln_sR, hx_I_sR, hx_L_sR, hx_R_sR, hx_nx_al, hx_ce_al, hx_sl_al, hx_kd_al, hx_ln_al, hx_I_al, hx_L_al, hx_R_al, hx_nx_row, hx_ce_row, hx_sl_row, hx_kd_row, hx_ln_row, hx_I_row, hx_L_row, hx_R_row, hx_nx_mk, hx_kd_mk, hx_ln_mk, hx_I_mk, hx_L_mk, hx_R_mk, am_wp, am_stp, am_en, am_as, am_pad, am_nth, am_set, am_st1, am_st2, am_kl, am_kill, am_mem, am_fv, am_tk, am_wt, am_bk, Option.toList, List.cons_append, List.nil_append, Nat.reduceAdd, Nat.reduceEqDiff, Nat.reduceLeDiff, reduceIte, Nat.reduceLT, or_self, true_or, or_true, if_true, if_false, and_self, and_true, true_and, not_false_eq_true, not_true_eq_false]
    rw [e77, take_snoc hr, List.map_append]
    dsimp only
    by_cases e : x = r.1
    · rw [if_pos e, if_pos (by rw [e]; simp)]
    · rw [if_neg e]
      by_cases q : x ∈ (Rs.take i).map (·.1)
      · rw [if_pos q, if_pos (List.mem_append_left _ q)]
      · rw [if_neg q, if_neg (fun z => by
          rcases List.mem_append.mp z with z | z
          · exact q z
          · exact e (by simpa using z))]
theorem l2_sh0_loop {d k n' : Nat} {x2 x3 x4 x5 x6 : Int32} {h : am_H} {Q : am_O → am_H → Prop} (hS : mo_Sk h) (hk : k ≤ n') (hn : n' ≤ 9) (hx : ∀ g, am_fi [86] h g → (am_I g 86 = fun j => if j < n' - k then am_I h 86 (j + k) else am_I h 86 j) → am_Ex nm_pr d mt_Mo_mergeNow (397, [.ref 72, .int (nI k), .int x2, .int x3, .int x4, .int x5, .int x6, .int (nI (n' - k)), .int (nI (n' - k))], [], g) Q) : ∀ (m i : Nat) (g : am_H), m + i = n' - k → am_fi [86] h g → (am_I g 86 = fun j => if j < i then am_I h 86 (j + k) else am_I h 86 j) →
    am_Ex nm_pr d mt_Mo_mergeNow (305, [.ref 72, .int (nI k), .int x2, .int x3, .int x4, .int x5, .int x6, .int (nI (n' - k)), .int (nI i)], [], g) Q
  | 0, i, g, hm, F, e86 => by
    have e : i = n' - k := by omega
    subst e
    have l1 : ¬ nI (n' - k) < nI (n' - k) := nI_nlt (Nat.le_refl _) (by omega)
    refine am_go [312, 397] 4 ?_
    simp only [am_wp, am_stp, am_en, am_as, am_pad, am_nth, am_set, am_st1, am_st2, am_kl, am_kill, am_mem, am_fv, am_tk, am_wt, am_bk, Option.toList, List.cons_append, List.nil_append, Nat.reduceAdd, Nat.reduceEqDiff, Nat.reduceLeDiff, reduceIte, Nat.reduceLT, or_self, true_or, or_true, if_true, if_false, and_self, and_true, true_and, not_false_eq_true, not_true_eq_false, fd_Mo_mergeNow_305, fd_Mo_mergeNow_307, fd_Mo_mergeNow_309, fd_Mo_mergeNow_334, l1]
    exact hx g F e86
  | m + 1, i, g, hm, F, e86 => by
    obtain ⟨k72, -, -, -, -, -, -, -, -, -, ⟨r25, k86, n86⟩, -⟩ := mo_sl_ (hS.fi F)
    have l1 : nI i < nI (n' - k) := nI_lt (by omega) (by omega)
    have i1 := am_inb (c := i) (N := 9) (by omega) (by omega)
    have q1 : (nI i).toNatClampNeg = i := nI_clamp (by omega)
    have i2 := am_inb (c := i + k) (N := 9) (by omega) (by omega)
    have q2 : (nI (i + k)).toNatClampNeg = i + k := nI_clamp (by omega)
    have v : am_I g 86 (i + k) = am_I h 86 (i + k) := by rw [e86]; dsimp only; rw [if_neg (by omega)]
    refine am_go [312, 334] 3 ?_
    simp only [am_wp, am_stp, am_en, am_as, am_pad, am_nth, am_set, am_st1, am_st2, am_kl, am_kill, am_mem, am_fv, am_tk, am_wt, am_bk, Option.toList, List.cons_append, List.nil_append, Nat.reduceAdd, Nat.reduceEqDiff, Nat.reduceLeDiff, reduceIte, Nat.reduceLT, or_self, true_or, or_true, if_true, if_false, and_self, and_true, true_and, not_false_eq_true, not_true_eq_false, fd_Mo_mergeNow_305, fd_Mo_mergeNow_307, fd_Mo_mergeNow_309, l1]
    refine am_go [305] 12 ?_
    simp only [am_wp, am_stp, am_en, am_as, am_pad, am_nth, am_set, am_st1, am_st2, am_kl, am_kill, am_mem, am_fv, am_tk, am_wt, am_bk, Option.toList, List.cons_append, List.nil_append, Nat.reduceAdd, Nat.reduceEqDiff, Nat.reduceLeDiff, reduceIte, Nat.reduceLT, or_self, true_or, or_true, if_true, if_false, and_self, and_true, true_and, not_false_eq_true, not_true_eq_false, fd_Mo_mergeNow_312, fd_Mo_mergeNow_313, fd_Mo_mergeNow_316, fd_Mo_mergeNow_318, fd_Mo_mergeNow_319, fd_Mo_mergeNow_322, fd_Mo_mergeNow_324, fd_Mo_mergeNow_325, fd_Mo_mergeNow_326, fd_Mo_mergeNow_327, fd_Mo_mergeNow_328, fd_Mo_mergeNow_331, k72, r25, nI_add, k86, n86, i2, q2, v, i1, q1, nI_1]
    refine l2_sh0_loop hS hk hn hx m (i + 1) _ (by omega) (F.sI (by simp)) ?_
    funext j
    simp only [hx_nx_sI, hx_ce_sI, hx_sl_sI, hx_kd_sI, hx_ln_sI, hx_I_sI, hx_L_sI, hx_R_sI, hx_nx_sL, hx_ce_sL, hx_sl_sL, hx_kd_sL, hx_ln_sL, hx_I_sL, hx_L_sL, hx_R_sL, hx_nx_sR, hx_ce_sR, hx_sl_sR, hx_kd_sR, hx_ln_sR, hx_I_sR, hx_L_sR, hx_R_sR, hx_nx_al, hx_ce_al, hx_sl_al, hx_kd_al, hx_ln_al, hx_I_al, hx_L_al, hx_R_al, hx_nx_row, hx_ce_row, hx_sl_row, hx_kd_row, hx_ln_row, hx_I_row, hx_L_row, hx_R_row, hx_nx_mk, hx_kd_mk, hx_ln_mk, hx_I_mk, hx_L_mk, hx_R_mk, am_wp, am_stp, am_en, am_as, am_pad, am_nth, am_set, am_st1, am_st2, am_kl, am_kill, am_mem, am_fv, am_tk, am_wt, am_bk, Option.toList, List.cons_append, List.nil_append, Nat.reduceAdd, Nat.reduceEqDiff, Nat.reduceLeDiff, reduceIte, Nat.reduceLT, or_self, true_or, or_true, if_true, if_false, and_self, and_true, true_and, not_false_eq_true, not_true_eq_false]
    rw [e86]
    dsimp only
    by_cases e : j = i
    · subst e; rw [if_pos rfl, if_pos (by omega)]
    · rw [if_neg e]
      by_cases e2 : j < i
      · rw [if_pos e2, if_pos (by omega)]
      · rw [if_neg e2, if_neg (by omega)]
theorem l2_sh1_loop {d k n' : Nat} {x2 x3 x4 x5 x6 : Int32} {h : am_H} {Q : am_O → am_H → Prop} (hS : mo_Sk h) (hk1 : 1 ≤ k) (hk : k ≤ n') (hn : n' ≤ 9) (hx : ∀ g, am_fi [86] h g → (am_I g 86 = fun j => if 1 ≤ j ∧ j ≤ n' - k then am_I h 86 (j - 1 + k) else am_I h 86 j) → am_Ex nm_pr d mt_Mo_mergeNow (371, [.ref 72, .int (nI k), .int x2, .int x3, .int x4, .int x5, .int x6, .int (nI (n' - k)), .int (nI (n' - k))], [], g) Q) : ∀ (m i : Nat) (g : am_H), m + i = n' - k → am_fi [86] h g → (am_I g 86 = fun j => if 1 ≤ j ∧ j ≤ i then am_I h 86 (j - 1 + k) else am_I h 86 j) →
    am_Ex nm_pr d mt_Mo_mergeNow (340, [.ref 72, .int (nI k), .int x2, .int x3, .int x4, .int x5, .int x6, .int (nI (n' - k)), .int (nI i)], [], g) Q
  | 0, i, g, hm, F, e86 => by
    have e : i = n' - k := by omega
    subst e
    have l1 : ¬ nI (n' - k) < nI (n' - k) := nI_nlt (Nat.le_refl _) (by omega)
    refine am_go [347, 371] 3 ?_
    simp only [am_wp, am_stp, am_en, am_as, am_pad, am_nth, am_set, am_st1, am_st2, am_kl, am_kill, am_mem, am_fv, am_tk, am_wt, am_bk, Option.toList, List.cons_append, List.nil_append, Nat.reduceAdd, Nat.reduceEqDiff, Nat.reduceLeDiff, reduceIte, Nat.reduceLT, or_self, true_or, or_true, if_true, if_false, and_self, and_true, true_and, not_false_eq_true, not_true_eq_false, fd_Mo_mergeNow_340, fd_Mo_mergeNow_342, fd_Mo_mergeNow_344, l1]
    exact hx g F e86
  | m + 1, i, g, hm, F, e86 => by
    obtain ⟨k72, -, -, -, -, -, -, -, -, -, ⟨r25, k86, n86⟩, -⟩ := mo_sl_ (hS.fi F)
    have l1 : nI i < nI (n' - k) := nI_lt (by omega) (by omega)
    have i1 : (nI (i + 1) < 0 ∨ 8 ≤ i) = False := eq_false (fun q => by rcases q with q | q; exact nI_pos (by omega) q; omega)
    have q1 : (nI (i + 1)).toNatClampNeg = i + 1 := nI_clamp (by omega)
    have i2 := am_inb (c := i + k) (N := 9) (by omega) (by omega)
    have q2 : (nI (i + k)).toNatClampNeg = i + k := nI_clamp (by omega)
    have v : am_I g 86 (i + k) = am_I h 86 (i + k) := by rw [e86]; dsimp only; rw [if_neg (by omega)]
    refine am_go [347, 371] 3 ?_
    simp only [am_wp, am_stp, am_en, am_as, am_pad, am_nth, am_set, am_st1, am_st2, am_kl, am_kill, am_mem, am_fv, am_tk, am_wt, am_bk, Option.toList, List.cons_append, List.nil_append, Nat.reduceAdd, Nat.reduceEqDiff, Nat.reduceLeDiff, reduceIte, Nat.reduceLT, or_self, true_or, or_true, if_true, if_false, and_self, and_true, true_and, not_false_eq_true, not_true_eq_false, fd_Mo_mergeNow_340, fd_Mo_mergeNow_342, fd_Mo_mergeNow_344, l1]
    refine am_go [340] 14 ?_
    simp only [am_wp, am_stp, am_en, am_as, am_pad, am_nth, am_set, am_st1, am_st2, am_kl, am_kill, am_mem, am_fv, am_tk, am_wt, am_bk, Option.toList, List.cons_append, List.nil_append, Nat.reduceAdd, Nat.reduceEqDiff, Nat.reduceLeDiff, reduceIte, Nat.reduceLT, or_self, true_or, or_true, if_true, if_false, and_self, and_true, true_and, not_false_eq_true, not_true_eq_false, fd_Mo_mergeNow_347, fd_Mo_mergeNow_348, fd_Mo_mergeNow_351, fd_Mo_mergeNow_353, fd_Mo_mergeNow_354, fd_Mo_mergeNow_355, fd_Mo_mergeNow_356, fd_Mo_mergeNow_359, fd_Mo_mergeNow_361, fd_Mo_mergeNow_362, fd_Mo_mergeNow_363, fd_Mo_mergeNow_364, fd_Mo_mergeNow_365, fd_Mo_mergeNow_368, k72, r25, nI_add, k86, n86, i2, q2, v, nI_1, q1, i1]
    refine l2_sh1_loop hS hk1 hk hn hx m (i + 1) _ (by omega) (F.sI (by simp)) ?_
    funext j
    simp only [hx_nx_sI, hx_ce_sI, hx_sl_sI, hx_kd_sI, hx_ln_sI, hx_I_sI, hx_L_sI, hx_R_sI, hx_nx_sL, hx_ce_sL, hx_sl_sL, hx_kd_sL, hx_ln_sL, hx_I_sL, hx_L_sL, hx_R_sL, hx_nx_sR, hx_ce_sR, hx_sl_sR, hx_kd_sR, hx_ln_sR, hx_I_sR, hx_L_sR, hx_R_sR, hx_nx_al, hx_ce_al, hx_sl_al, hx_kd_al, hx_ln_al, hx_I_al, hx_L_al, hx_R_al, hx_nx_row, hx_ce_row, hx_sl_row, hx_kd_row, hx_ln_row, hx_I_row, hx_L_row, hx_R_row, hx_nx_mk, hx_kd_mk, hx_ln_mk, hx_I_mk, hx_L_mk, hx_R_mk, am_wp, am_stp, am_en, am_as, am_pad, am_nth, am_set, am_st1, am_st2, am_kl, am_kill, am_mem, am_fv, am_tk, am_wt, am_bk, Option.toList, List.cons_append, List.nil_append, Nat.reduceAdd, Nat.reduceEqDiff, Nat.reduceLeDiff, reduceIte, Nat.reduceLT, or_self, true_or, or_true, if_true, if_false, and_self, and_true, true_and, not_false_eq_true, not_true_eq_false]
    rw [e86]
    dsimp only
    by_cases e : j = i + 1
    · subst e; rw [if_pos rfl, if_pos (by omega), Nat.add_sub_cancel]
    · rw [if_neg e]
      by_cases e2 : 1 ≤ j ∧ j ≤ i
      · rw [if_pos e2, if_pos (by omega)]
      · rw [if_neg e2, if_neg (by omega)]
/-- from the runs let go on -/
theorem l2_mn_rest {d P n k : Nat} {x2 x3 x4 x5 : Int32} {w6 w7 w8 : Value} {Rs mk : List rn} {h : am_H} (R : rf_S P h n Rs) (hk1 : 1 ≤ k) (hk : k ≤ Rs.length) (hmk : (mk = [] ∧ x5 = -1) ∨ (∃ r, mk = [r] ∧ x5 = nI r.1)) (M : ∀ r ∈ mk, rm_0 P h r ∧ r.1 ∉ Rs.map (·.1) ∧ ∀ p ∈ rn_p r, p ∉ pgs Rs) (hmp : (pgs mk).Nodup) :
    am_Ex nm_pr (d + 4) mt_Mo_mergeNow (245, [.ref 72, .int (nI k), .int x2, .int x3, .int x4, .int x5, w6, w7, w8], [], h) (fun o h' => (∃ x, o = .inl (some (.int x))) ∧ am_fi rf_w h h' ∧ am_I h' 72 0 = am_I h 72 0 ∧ rf_S P h' n (mk ++ Rs.drop k)) := by
  obtain ⟨hK, T, N⟩ := id R
  obtain ⟨hS, jP, j8, j3, P4, P1024⟩ := id hK
  have c3 := N.2.2.1
  have c24 := N.2.1
  refine am_go [248] 2 ?_
  simp only [am_wp, am_stp, am_en, am_as, am_pad, am_nth, am_set, am_st1, am_st2, am_kl, am_kill, am_mem, am_fv, am_tk, am_wt, am_bk, Option.toList, List.cons_append, List.nil_append, Nat.reduceAdd, Nat.reduceEqDiff, Nat.reduceLeDiff, reduceIte, Nat.reduceLT, or_self, true_or, or_true, if_true, if_false, and_self, and_true, true_and, not_false_eq_true, not_true_eq_false, fd_Mo_mergeNow_245, fd_Mo_mergeNow_246]
  refine l2_users_loop hS N hk (fun g F e77 => ?_) k 0 h (by omega) am_fi.refl (by funext x; simp)
  have S1 := hS.fi F
  have g24 : am_I g 72 24 = nI Rs.length := by rw [F.2.2.2.2.2.2.1 72 (by simp)]; exact c24
  -- the end
  have fin : ∀ (G : am_H) (x6 x8 : Int32) (m : Nat), am_fi [72, 77, 86] h G → (∀ j, j ≠ 5 → am_I G 72 j = am_I h 72 j) → m = mk.length → x6 = nI m → (am_I G 77 = fun x => if x ∈ mk.map (·.1) then 1 else if x ∈ (Rs.take k).map (·.1) then 0 else am_I h 77 x) → (∀ i r, (mk ++ Rs.drop k)[i]? = some r → am_I G 86 i = nI r.1) → am_Ex nm_pr (d + 4) mt_Mo_mergeNow (397, [.ref 72, .int (nI k), .int x2, .int x3, .int x4, .int x5, .int x6, .int (nI (Rs.length - k)), .int x8], [], G) (fun o h' => (∃ x, o = .inl (some (.int x))) ∧ am_fi rf_w h h' ∧ am_I h' 72 0 = am_I h 72 0 ∧ rf_S P h' n (mk ++ Rs.drop k)) := by
    intro G x6 x8 m FG v hm hx6 y77 y86
    subst hx6
    subst hm
    have SG := hS.fi FG
    refine am_go [] 5 ?_
    simp only [am_wp, am_stp, am_en, am_as, am_pad, am_nth, am_set, am_st1, am_st2, am_kl, am_kill, am_mem, am_fv, am_tk, am_wt, am_bk, Option.toList, List.cons_append, List.nil_append, Nat.reduceAdd, Nat.reduceEqDiff, Nat.reduceLeDiff, reduceIte, Nat.reduceLT, or_self, true_or, or_true, if_true, if_false, and_self, and_true, true_and, not_false_eq_true, not_true_eq_false, fd_Mo_mergeNow_397, fd_Mo_mergeNow_398, fd_Mo_mergeNow_400, fd_Mo_mergeNow_402, fd_Mo_mergeNow_403, SG.1, nI_add]
    have F2 : am_fi [72] G (am_sI G 72 24 (nI (Rs.length - k + mk.length))) := am_fi.refl.sI (by simp)
    have u24 : am_I (am_sI G 72 24 (nI (Rs.length - k + mk.length))) 72 24 = nI (Rs.length - k + mk.length) := by simp only [hx_nx_sI, hx_ce_sI, hx_sl_sI, hx_kd_sI, hx_ln_sI, hx_I_sI, hx_L_sI, hx_R_sI, hx_nx_sL, hx_ce_sL, hx_sl_sL, hx_kd_sL, hx_ln_sL, hx_I_sL, hx_L_sL, hx_R_sL, hx_nx_sR, hx_ce_sR, hx_sl_sR, hx_kd_sR, hx_ln_sR, hx_I_sR, hx_L_sR, hx_R_sR, hx_nx_al, hx_ce_al, hx_sl_al, hx_kd_al, hx_ln_al, hx_I_al, hx_L_al, hx_R_al, hx_nx_row, hx_ce_row, hx_sl_row, hx_kd_row, hx_ln_row, hx_I_row, hx_L_row, hx_R_row, hx_nx_mk, hx_kd_mk, hx_ln_mk, hx_I_mk, hx_L_mk, hx_R_mk, am_wp, am_stp, am_en, am_as, am_pad, am_nth, am_set, am_st1, am_st2, am_kl, am_kill, am_mem, am_fv, am_tk, am_wt, am_bk, Option.toList, List.cons_append, List.nil_append, Nat.reduceAdd, Nat.reduceEqDiff, Nat.reduceLeDiff, reduceIte, Nat.reduceLT, or_self, true_or, or_true, if_true, if_false, and_self, and_true, true_and, not_false_eq_true, not_true_eq_false]
    have uj : ∀ j, j ≠ 24 → am_I (am_sI G 72 24 (nI (Rs.length - k + mk.length))) 72 j = am_I G 72 j := fun j hj => by simp only [hx_nx_sI, hx_ce_sI, hx_sl_sI, hx_kd_sI, hx_ln_sI, hx_I_sI, hx_L_sI, hx_R_sI, hx_nx_sL, hx_ce_sL, hx_sl_sL, hx_kd_sL, hx_ln_sL, hx_I_sL, hx_L_sL, hx_R_sL, hx_nx_sR, hx_ce_sR, hx_sl_sR, hx_kd_sR, hx_ln_sR, hx_I_sR, hx_L_sR, hx_R_sR, hx_nx_al, hx_ce_al, hx_sl_al, hx_kd_al, hx_ln_al, hx_I_al, hx_L_al, hx_R_al, hx_nx_row, hx_ce_row, hx_sl_row, hx_kd_row, hx_ln_row, hx_I_row, hx_L_row, hx_R_row, hx_nx_mk, hx_kd_mk, hx_ln_mk, hx_I_mk, hx_L_mk, hx_R_mk, am_wp, am_stp, am_en, am_as, am_pad, am_nth, am_set, am_st1, am_st2, am_kl, am_kill, am_mem, am_fv, am_tk, am_wt, am_bk, Option.toList, List.cons_append, List.nil_append, Nat.reduceAdd, Nat.reduceEqDiff, Nat.reduceLeDiff, reduceIte, Nat.reduceLT, or_self, true_or, or_true, if_true, if_false, and_self, and_true, true_and, not_false_eq_true, not_true_eq_false, hj]
    generalize am_sI G 72 24 (nI (Rs.length - k + mk.length)) = G2 at F2 u24 uj ⊢
    have F02 : am_fi [72, 77, 86] h G2 := FG.trans (F2.sub (by simp))
    have S2 := hS.fi F02
    have hm1 : mk.length ≤ 1 := by
      rcases hmk with ⟨e, -⟩ | ⟨r, e, -⟩ <;> rw [e] <;> simp
    have hmn : (mk.map (·.1)).Nodup := by
      rcases hmk with ⟨e, -⟩ | ⟨r, e, -⟩ <;> rw [e] <;> simp
    have NN : nm_R P G2 (mk ++ Rs.drop k) := N.fin hk1 hk hm1 M hmn hmp (F02.2.2.2.2.2.2.1 79 (by simp)) (F02.2.2.2.2.2.2.1 80 (by simp)) (F02.2.2.2.2.2.2.1 82 (by simp)) (F02.2.2.2.2.2.2.1 73 (by simp)) (by rw [F2.2.2.2.2.2.2.1 77 (by simp)]; exact y77) (fun i r hr => by rw [F2.2.2.2.2.2.2.1 86 (by simp)]; exact y86 i r hr) (by rw [u24, List.length_append, List.length_drop]; congr 1; omega)
    have K2 : rf_K P G2 := hK.mv F02 (by rw [uj 1 (by decide), v 1 (by decide)]) (by rw [uj 8 (by decide), v 8 (by decide)]) (by rw [uj 3 (by decide), v 3 (by decide)])
    refine am_go [] 5 ?_
    simp only [am_wp, am_stp, am_en, am_as, am_pad, am_nth, am_set, am_st1, am_st2, am_kl, am_kill, am_mem, am_fv, am_tk, am_wt, am_bk, Option.toList, List.cons_append, List.nil_append, Nat.reduceAdd, Nat.reduceEqDiff, Nat.reduceLeDiff, reduceIte, Nat.reduceLT, or_self, true_or, or_true, if_true, if_false, and_self, and_true, true_and, not_false_eq_true, not_true_eq_false, fd_Mo_mergeNow_406, fd_Mo_mergeNow_407, fd_Mo_mergeNow_410, fd_Mo_mergeNow_412, fd_Mo_mergeNow_413, S2.1]
    refine am_call (l2_Mo_writeHead (d := d + 1) S2 NN K2.2.2.1) (fun o G3 z => ?_)
    obtain ⟨rfl, F3, m1, m2⟩ := z
    have one0 : ¬ (1 : Int32) = 0 := by decide
    have K3 : rf_K P G3 := K2.mv F3 (m1 1 (by decide) (by decide)) (m1 8 (by decide) (by decide)) (m1 3 (by decide) (by decide))
    have N3 : nm_R P G3 (mk ++ Rs.drop k) := NN.fr (m1 24 (by decide) (by decide)) (F3.2.2.2.2.2.2.1 77 (by simp)) (F3.2.2.2.2.2.2.1 79 (by simp)) (F3.2.2.2.2.2.2.1 80 (by simp)) (F3.2.2.2.2.2.2.1 82 (by simp)) (F3.2.2.2.2.2.2.1 86 (by simp)) (fun x hx j hj => m2 x (NN.pg x hx).1 j hj)
    simp only [am_wp, am_stp, am_en, am_as, am_pad, am_nth, am_set, am_st1, am_st2, am_kl, am_kill, am_mem, am_fv, am_tk, am_wt, am_bk, Option.toList, List.cons_append, List.nil_append, Nat.reduceAdd, Nat.reduceEqDiff, Nat.reduceLeDiff, reduceIte, Nat.reduceLT, or_self, true_or, or_true, if_true, if_false, and_self, and_true, true_and, not_false_eq_true, not_true_eq_false]
    refine am_go [419, 429] 1 ?_
    simp only [am_wp, am_stp, am_en, am_as, am_pad, am_nth, am_set, am_st1, am_st2, am_kl, am_kill, am_mem, am_fv, am_tk, am_wt, am_bk, Option.toList, List.cons_append, List.nil_append, Nat.reduceAdd, Nat.reduceEqDiff, Nat.reduceLeDiff, reduceIte, Nat.reduceLT, or_self, true_or, or_true, if_true, if_false, and_self, and_true, true_and, not_false_eq_true, not_true_eq_false, fd_Mo_mergeNow_416, one0]
    refine am_go [] 2 ?_
    simp only [am_wp, am_stp, am_en, am_as, am_pad, am_nth, am_set, am_st1, am_st2, am_kl, am_kill, am_mem, am_fv, am_tk, am_wt, am_bk, Option.toList, List.cons_append, List.nil_append, Nat.reduceAdd, Nat.reduceEqDiff, Nat.reduceLeDiff, reduceIte, Nat.reduceLT, or_self, true_or, or_true, if_true, if_false, and_self, and_true, true_and, not_false_eq_true, not_true_eq_false, fd_Mo_mergeNow_429, fd_Mo_mergeNow_430, K3.1.1]
    refine am_call (l2_Mo_freeCount (d := d + 2) (by omega) P1024 K3.1 K3.2.1 (N3.us P1024).1) (fun o G4 z => ?_)
    obtain ⟨rfl, F4, L4, v4⟩ := z
    simp only [am_wp, am_stp, am_en, am_as, am_pad, am_nth, am_set, am_st1, am_st2, am_kl, am_kill, am_mem, am_fv, am_tk, am_wt, am_bk, Option.toList, List.cons_append, List.nil_append, Nat.reduceAdd, Nat.reduceEqDiff, Nat.reduceLeDiff, reduceIte, Nat.reduceLT, or_self, true_or, or_true, if_true, if_false, and_self, and_true, true_and, not_false_eq_true, not_true_eq_false]
    refine am_go [] 3 ?_
    simp only [am_wp, am_stp, am_en, am_as, am_pad, am_nth, am_set, am_st1, am_st2, am_kl, am_kill, am_mem, am_fv, am_tk, am_wt, am_bk, Option.toList, List.cons_append, List.nil_append, Nat.reduceAdd, Nat.reduceEqDiff, Nat.reduceLeDiff, reduceIte, Nat.reduceLT, or_self, true_or, or_true, if_true, if_false, and_self, and_true, true_and, not_false_eq_true, not_true_eq_false, fd_Mo_mergeNow_433, fd_Mo_mergeNow_435, fd_Mo_mergeNow_436]
    have j72 : am_I G4 72 = am_I G3 72 := F4.2.2.2.2.2.2.1 72 (by simp)
    have F04 : am_fi rf_w h G4 := (F02.sub (by unfold rf_w; simp)).trans ((F3.sub (by unfold rf_w; simp)).trans (F4.sub (by unfold rf_w; simp)))
    refine ⟨⟨_, rfl⟩, F04, ?_, K3.mv F4 (by rw [j72]) (by rw [j72]) (by rw [j72]), T.mv F04 ?_, N3.fi F4 (by rw [j72]) (by simp)⟩
    · rw [j72, m1 0 (by decide) (by decide), uj 0 (by decide), v 0 (by decide)]
    · rw [j72, m1 11 (by decide) (by decide), uj 11 (by decide), v 11 (by decide)]
  have esub : nI Rs.length - nI k = nI (Rs.length - k) := nI_sub hk
  rcases hmk with ⟨e1, e2⟩ | ⟨r, e1, e2⟩
  · subst e1
    subst e2
    have m1 : ((-1 : Int32) = -1) = True := eq_true rfl
    refine am_go [286, 287] 5 ?_
    simp only [am_wp, am_stp, am_en, am_as, am_pad, am_nth, am_set, am_st1, am_st2, am_kl, am_kill, am_mem, am_fv, am_tk, am_wt, am_bk, Option.toList, List.cons_append, List.nil_append, Nat.reduceAdd, Nat.reduceEqDiff, Nat.reduceLeDiff, reduceIte, Nat.reduceLT, or_self, true_or, or_true, if_true, if_false, and_self, and_true, true_and, not_false_eq_true, not_true_eq_false, fd_Mo_mergeNow_276, fd_Mo_mergeNow_278, fd_Mo_mergeNow_279, fd_Mo_mergeNow_282, fd_Mo_mergeNow_283, m1]
    refine am_go [302, 337] 8 ?_
    simp only [am_wp, am_stp, am_en, am_as, am_pad, am_nth, am_set, am_st1, am_st2, am_kl, am_kill, am_mem, am_fv, am_tk, am_wt, am_bk, Option.toList, List.cons_append, List.nil_append, Nat.reduceAdd, Nat.reduceEqDiff, Nat.reduceLeDiff, reduceIte, Nat.reduceLT, or_self, true_or, or_true, if_true, if_false, and_self, and_true, true_and, not_false_eq_true, not_true_eq_false, fd_Mo_mergeNow_287, fd_Mo_mergeNow_289, fd_Mo_mergeNow_290, fd_Mo_mergeNow_293, fd_Mo_mergeNow_294, fd_Mo_mergeNow_295, fd_Mo_mergeNow_297, fd_Mo_mergeNow_299, S1.1, g24, esub]
    refine am_go [305] 2 ?_
    simp only [am_wp, am_stp, am_en, am_as, am_pad, am_nth, am_set, am_st1, am_st2, am_kl, am_kill, am_mem, am_fv, am_tk, am_wt, am_bk, Option.toList, List.cons_append, List.nil_append, Nat.reduceAdd, Nat.reduceEqDiff, Nat.reduceLeDiff, reduceIte, Nat.reduceLT, or_self, true_or, or_true, if_true, if_false, and_self, and_true, true_and, not_false_eq_true, not_true_eq_false, fd_Mo_mergeNow_302, fd_Mo_mergeNow_303]
    refine l2_sh0_loop S1 hk c3 (fun g2 F2 e86 => ?_) (Rs.length - k) 0 g (by omega) am_fi.refl (by funext j; rw [if_neg (by omega)])
    refine fin g2 0 _ 0 ((F.sub (by simp)).trans (F2.sub (by simp))) (fun j _ => by rw [F2.2.2.2.2.2.2.1 72 (by simp), F.2.2.2.2.2.2.1 72 (by simp)]) rfl rfl ?_ (fun i x hx => ?_)
    · rw [F2.2.2.2.2.2.2.1 77 (by simp), e77]
      funext x
      simp
    · have hx' : (Rs.drop k)[i]? = some x := by simpa using hx
      rw [List.getElem?_drop] at hx'
      have hi := (List.getElem?_eq_some_iff.mp hx').1
      rw [e86]
      dsimp only
      rw [if_pos (by omega), F.2.2.2.2.2.2.1 86 (by simp), Nat.add_comm i k]
      exact (N.1 _ _ hx').1
  · subst e1
    subst e2
    obtain ⟨m1, m2, m3⟩ := M r (by simp)
    have hs := m1.1.1
    have n1 : (nI r.1 = -1) = False := eq_false (fun q => by
      have h0 := nI_pos (n := r.1) (by omega)
      rw [q] at h0
      exact h0 (by decide))
    have one0 : ¬ (1 : Int32) = 0 := by decide
    refine am_go [282, 287] 4 ?_
    simp only [am_wp, am_stp, am_en, am_as, am_pad, am_nth, am_set, am_st1, am_st2, am_kl, am_kill, am_mem, am_fv, am_tk, am_wt, am_bk, Option.toList, List.cons_append, List.nil_append, Nat.reduceAdd, Nat.reduceEqDiff, Nat.reduceLeDiff, reduceIte, Nat.reduceLT, or_self, true_or, or_true, if_true, if_false, and_self, and_true, true_and, not_false_eq_true, not_true_eq_false, fd_Mo_mergeNow_276, fd_Mo_mergeNow_278, fd_Mo_mergeNow_279, fd_Mo_mergeNow_286, n1]
    refine am_go [302, 337] 8 ?_
    simp only [am_wp, am_stp, am_en, am_as, am_pad, am_nth, am_set, am_st1, am_st2, am_kl, am_kill, am_mem, am_fv, am_tk, am_wt, am_bk, Option.toList, List.cons_append, List.nil_append, Nat.reduceAdd, Nat.reduceEqDiff, Nat.reduceLeDiff, reduceIte, Nat.reduceLT, or_self, true_or, or_true, if_true, if_false, and_self, and_true, true_and, not_false_eq_true, not_true_eq_false, fd_Mo_mergeNow_287, fd_Mo_mergeNow_289, fd_Mo_mergeNow_290, fd_Mo_mergeNow_293, fd_Mo_mergeNow_294, fd_Mo_mergeNow_295, fd_Mo_mergeNow_297, fd_Mo_mergeNow_299, S1.1, g24, esub, one0]
    refine am_go [340] 2 ?_
    simp only [am_wp, am_stp, am_en, am_as, am_pad, am_nth, am_set, am_st1, am_st2, am_kl, am_kill, am_mem, am_fv, am_tk, am_wt, am_bk, Option.toList, List.cons_append, List.nil_append, Nat.reduceAdd, Nat.reduceEqDiff, Nat.reduceLeDiff, reduceIte, Nat.reduceLT, or_self, true_or, or_true, if_true, if_false, and_self, and_true, true_and, not_false_eq_true, not_true_eq_false, fd_Mo_mergeNow_337, fd_Mo_mergeNow_338]
    refine l2_sh1_loop S1 hk1 hk c3 (fun g2 F2 e86 => ?_) (Rs.length - k) 0 g (by omega) am_fi.refl (by funext j; rw [if_neg (by omega)])
    have S2 := S1.fi F2
    obtain ⟨k72, ⟨r15, k77, n77⟩, -, -, -, -, -, -, -, -, ⟨r25, k86, n86⟩, -⟩ := mo_sl_ S2
    have i0 : ((0 : Int32) < 0 ∨ 9 ≤ (0 : Int32).toNatClampNeg) = False := by decide
    have c0 : (0 : Int32).toNatClampNeg = 0 := by decide
    have iS := am_inb (c := r.1) (N := 100) (by omega) (by omega)
    have qS : (nI r.1).toNatClampNeg = r.1 := nI_clamp (by omega)
    refine am_go [] 5 ?_
    simp only [am_wp, am_stp, am_en, am_as, am_pad, am_nth, am_set, am_st1, am_st2, am_kl, am_kill, am_mem, am_fv, am_tk, am_wt, am_bk, Option.toList, List.cons_append, List.nil_append, Nat.reduceAdd, Nat.reduceEqDiff, Nat.reduceLeDiff, reduceIte, Nat.reduceLT, or_self, true_or, or_true, if_true, if_false, and_self, and_true, true_and, not_false_eq_true, not_true_eq_false, fd_Mo_mergeNow_371, fd_Mo_mergeNow_372, fd_Mo_mergeNow_375, fd_Mo_mergeNow_376, fd_Mo_mergeNow_378, k72, r25, k86, n86, i0]
    rw [c0]
    refine am_go [] 5 ?_
    simp only [am_wp, am_stp, am_en, am_as, am_pad, am_nth, am_set, am_st1, am_st2, am_kl, am_kill, am_mem, am_fv, am_tk, am_wt, am_bk, Option.toList, List.cons_append, List.nil_append, Nat.reduceAdd, Nat.reduceEqDiff, Nat.reduceLeDiff, reduceIte, Nat.reduceLT, or_self, true_or, or_true, if_true, if_false, and_self, and_true, true_and, not_false_eq_true, not_true_eq_false, fd_Mo_mergeNow_379, fd_Mo_mergeNow_380, fd_Mo_mergeNow_383, fd_Mo_mergeNow_385, fd_Mo_mergeNow_386, hx_nx_sI, hx_ce_sI, hx_sl_sI, hx_kd_sI, hx_ln_sI, hx_I_sI, hx_L_sI, hx_R_sI, hx_nx_sL, hx_ce_sL, hx_sl_sL, hx_kd_sL, hx_ln_sL, hx_I_sL, hx_L_sL, hx_R_sL, hx_nx_sR, hx_ce_sR, hx_sl_sR, hx_kd_sR, hx_ln_sR, hx_I_sR, hx_L_sR, hx_R_sR, hx_nx_al, hx_ce_al, hx_sl_al, hx_kd_al, hx_ln_al, hx_I_al, hx_L_al, hx_R_al, hx_nx_row, hx_ce_row, hx_sl_row, hx_kd_row, hx_ln_row, hx_I_row, hx_L_row, hx_R_row, hx_nx_mk, hx_kd_mk, hx_ln_mk, hx_I_mk, hx_L_mk, hx_R_mk, k72, r15, k77, n77, iS, qS]
    refine am_go [397] 6 ?_
    simp only [am_wp, am_stp, am_en, am_as, am_pad, am_nth, am_set, am_st1, am_st2, am_kl, am_kill, am_mem, am_fv, am_tk, am_wt, am_bk, Option.toList, List.cons_append, List.nil_append, Nat.reduceAdd, Nat.reduceEqDiff, Nat.reduceLeDiff, reduceIte, Nat.reduceLT, or_self, true_or, or_true, if_true, if_false, and_self, and_true, true_and, not_false_eq_true, not_true_eq_false, fd_Mo_mergeNow_387, fd_Mo_mergeNow_388, fd_Mo_mergeNow_389, fd_Mo_mergeNow_392, fd_Mo_mergeNow_393, fd_Mo_mergeNow_394, hx_kd_sI, k72]
    refine fin _ 1 _ 1 ((((F.sub (by simp)).trans (F2.sub (by simp))).sI (by simp)).sI (by simp) |>.sI (by simp)) (fun j hj => ?_) rfl rfl ?_ (fun i x hx => ?_)
    · simp only [hx_nx_sI, hx_ce_sI, hx_sl_sI, hx_kd_sI, hx_ln_sI, hx_I_sI, hx_L_sI, hx_R_sI, hx_nx_sL, hx_ce_sL, hx_sl_sL, hx_kd_sL, hx_ln_sL, hx_I_sL, hx_L_sL, hx_R_sL, hx_nx_sR, hx_ce_sR, hx_sl_sR, hx_kd_sR, hx_ln_sR, hx_I_sR, hx_L_sR, hx_R_sR, hx_nx_al, hx_ce_al, hx_sl_al, hx_kd_al, hx_ln_al, hx_I_al, hx_L_al, hx_R_al, hx_nx_row, hx_ce_row, hx_sl_row, hx_kd_row, hx_ln_row, hx_I_row, hx_L_row, hx_R_row, hx_nx_mk, hx_kd_mk, hx_ln_mk, hx_I_mk, hx_L_mk, hx_R_mk, am_wp, am_stp, am_en, am_as, am_pad, am_nth, am_set, am_st1, am_st2, am_kl, am_kill, am_mem, am_fv, am_tk, am_wt, am_bk, Option.toList, List.cons_append, List.nil_append, Nat.reduceAdd, Nat.reduceEqDiff, Nat.reduceLeDiff, reduceIte, Nat.reduceLT, or_self, true_or, or_true, if_true, if_false, and_self, and_true, true_and, not_false_eq_true, not_true_eq_false, hj]
      rw [F2.2.2.2.2.2.2.1 72 (by simp), F.2.2.2.2.2.2.1 72 (by simp)]
    · funext x
      simp only [hx_nx_sI, hx_ce_sI, hx_sl_sI, hx_kd_sI, hx_ln_sI, hx_I_sI, hx_L_sI, hx_R_sI, hx_nx_sL, hx_ce_sL, hx_sl_sL, hx_kd_sL, hx_ln_sL, hx_I_sL, hx_L_sL, hx_R_sL, hx_nx_sR, hx_ce_sR, hx_sl_sR, hx_kd_sR, hx_ln_sR, hx_I_sR, hx_L_sR, hx_R_sR, hx_nx_al, hx_ce_al, hx_sl_al, hx_kd_al, hx_ln_al, hx_I_al, hx_L_al, hx_R_al, hx_nx_row, hx_ce_row, hx_sl_row, hx_kd_row, hx_ln_row, hx_I_row, hx_L_row, hx_R_row, hx_nx_mk, hx_kd_mk, hx_ln_mk, hx_I_mk, hx_L_mk, hx_R_mk, am_wp, am_stp, am_en, am_as, am_pad, am_nth, am_set, am_st1, am_st2, am_kl, am_kill, am_mem, am_fv, am_tk, am_wt, am_bk, Option.toList, List.cons_append, List.nil_append, Nat.reduceAdd, Nat.reduceEqDiff, Nat.reduceLeDiff, reduceIte, Nat.reduceLT, or_self, true_or, or_true, if_true, if_false, and_self, and_true, true_and, not_false_eq_true, not_true_eq_false]
      rw [F2.2.2.2.2.2.2.1 77 (by simp), e77]
      by_cases e : x = r.1
      · simp [e]
      · simp [e]
    · simp only [hx_nx_sI, hx_ce_sI, hx_sl_sI, hx_kd_sI, hx_ln_sI, hx_I_sI, hx_L_sI, hx_R_sI, hx_nx_sL, hx_ce_sL, hx_sl_sL, hx_kd_sL, hx_ln_sL, hx_I_sL, hx_L_sL, hx_R_sL, hx_nx_sR, hx_ce_sR, hx_sl_sR, hx_kd_sR, hx_ln_sR, hx_I_sR, hx_L_sR, hx_R_sR, hx_nx_al, hx_ce_al, hx_sl_al, hx_kd_al, hx_ln_al, hx_I_al, hx_L_al, hx_R_al, hx_nx_row, hx_ce_row, hx_sl_row, hx_kd_row, hx_ln_row, hx_I_row, hx_L_row, hx_R_row, hx_nx_mk, hx_kd_mk, hx_ln_mk, hx_I_mk, hx_L_mk, hx_R_mk, am_wp, am_stp, am_en, am_as, am_pad, am_nth, am_set, am_st1, am_st2, am_kl, am_kill, am_mem, am_fv, am_tk, am_wt, am_bk, Option.toList, List.cons_append, List.nil_append, Nat.reduceAdd, Nat.reduceEqDiff, Nat.reduceLeDiff, reduceIte, Nat.reduceLT, or_self, true_or, or_true, if_true, if_false, and_self, and_true, true_and, not_false_eq_true, not_true_eq_false]
      cases i with
      | zero =>
        have : r = x := by simpa using hx
        rw [if_pos rfl, this]
      | succ i =>
        have hx' : (Rs.drop k)[i]? = some x := by simpa using hx
        rw [List.getElem?_drop] at hx'
        have hi := (List.getElem?_eq_some_iff.mp hx').1
        rw [if_neg (by omega), e86]
        dsimp only
        rw [if_pos (by omega), Nat.add_sub_cancel, F.2.2.2.2.2.2.1 86 (by simp), Nat.add_comm i k]
        exact (N.1 _ _ hx').1
