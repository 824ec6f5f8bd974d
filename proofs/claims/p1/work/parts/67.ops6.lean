/-! hidden ON A NEW OBJECT -/
theorem op_hidden (xs : Nat → Int32) : lw_op xs 1237 := by
  intro d h G
  obtain ⟨g1, g2, g3, g4, g5, g6, g7, g8, g9, g10⟩ := id G
  obtain ⟨s1, s2, s3⟩ := g4.2.2.2.2.2.2.2.2.2.2.2.2.2.2
  have i15 : am_I h 2 15 = 0 := by rw [s3]; rfl
  have r3 : am_R h 2 3 = 8 := by rw [s2]; rfl
  have k8 : am_kd h 8 = 6 := g4.1.2.1.1
  have i8 : am_I h 8 1 = 0 := g4.1.2.1.2.2.1.1 1
  have le0 : ¬ ((0 : Int32) < 0) := by decide
  have n1 : ¬ (99 = 100) := by decide
  have e1 : (1 : Int32) + 1 = nI 2 := by decide
  obtain ⟨i1, c1⟩ := lw_rd 2 (by decide)
  have e2 : (1 : Int32) + 2 = nI 3 := by decide
  obtain ⟨i2, c2⟩ := lw_rd 3 (by decide)
  have x1 : am_I h 1 2 = xs 2 := by rw [g8]
  have x2 : am_I h 1 3 = xs 3 := by rw [g8]
  have i0 : ¬ ((0 : Int32) < 0 ∨ 1 ≤ (0 : Int32).toNatClampNeg) := by decide
  have c0 : (0 : Int32).toNatClampNeg = 0 := by decide
  refine am_go [] 9 ?_
  simp only [am_wp, am_stp, am_en, am_as, am_pad, am_nth, am_set, am_st1, am_st2, am_kl, am_kill, am_mem, am_fv, am_tk, am_wt, am_bk, Option.toList, List.cons_append, List.nil_append, Nat.reduceAdd, Nat.reduceEqDiff, Nat.reduceLeDiff, reduceIte, Nat.reduceLT, or_self, true_or, or_true, if_true, if_false, and_self, and_true, true_and, not_false_eq_true, not_true_eq_false, fd_La_law_1237, fd_La_law_1238, fd_La_law_1239, fd_La_law_1241, fd_La_law_1242, fd_La_law_1243, fd_La_law_1244, fd_La_law_1245, fd_La_law_1247, g6, g7, n1, e1, i1, e2, i2]
  (try simp only [c1, x1, c2, x2, lg_eq])
  refine am_go [] 11 ?_
  simp only [am_wp, am_stp, am_en, am_as, am_pad, am_nth, am_set, am_st1, am_st2, am_kl, am_kill, am_mem, am_fv, am_tk, am_wt, am_bk, Option.toList, List.cons_append, List.nil_append, Nat.reduceAdd, Nat.reduceEqDiff, Nat.reduceLeDiff, reduceIte, Nat.reduceLT, or_self, true_or, or_true, if_true, if_false, and_self, and_true, true_and, not_false_eq_true, not_true_eq_false, fd_La_law_1248, fd_La_law_1249, fd_La_law_1251, fd_La_law_1252, fd_La_law_1253, fd_La_law_1254, fd_La_law_1255, fd_La_law_1258, fd_La_law_1259, fd_La_law_1260, fd_La_law_1261, g6, g7, n1, e1, i1, e2, i2]
  (try simp only [c1, x1, c2, x2, lg_eq])
  generalize lg_2 (xs 2) (xs 3) = key
  refine am_call (Q := fun o h' => o = .inl (some (.int 0)) ∧ h' = am_sL h 108 0 0) ?_ (fun o h1 q => ?_)
  · refine am_in' (d := d + 11) mt_La_hidden 5 rfl rfl rfl ?_
    refine am_go [] 5 ?_
    simp only [am_wp, am_stp, am_en, am_as, am_pad, am_nth, am_set, am_st1, am_st2, am_kl, am_kill, am_mem, am_fv, am_tk, am_wt, am_bk, Option.toList, List.cons_append, List.nil_append, Nat.reduceAdd, Nat.reduceEqDiff, Nat.reduceLeDiff, reduceIte, Nat.reduceLT, or_self, true_or, or_true, if_true, if_false, and_self, and_true, true_and, not_false_eq_true, not_true_eq_false, fd_La_hidden_0, fd_La_hidden_1, fd_La_hidden_2, fd_La_hidden_3, fd_La_hidden_4, s1]
    refine am_call (Q := fun o h' => o = .inl (some (.int 0)) ∧ h' = h) ?_ (fun o h1 q => ?_)
    · refine am_in' (d := d + 10) mt_SR_hidden 4 rfl rfl rfl ?_
      refine am_go [] 2 ?_
      simp only [am_wp, am_stp, am_en, am_as, am_pad, am_nth, am_set, am_st1, am_st2, am_kl, am_kill, am_mem, am_fv, am_tk, am_wt, am_bk, Option.toList, List.cons_append, List.nil_append, Nat.reduceAdd, Nat.reduceEqDiff, Nat.reduceLeDiff, reduceIte, Nat.reduceLT, or_self, true_or, or_true, if_true, if_false, and_self, and_true, true_and, not_false_eq_true, not_true_eq_false, fd_SR_hidden_0, fd_SR_hidden_1, s1]
      refine am_call (l2_requireUp s1 i15) (fun o h1 q => ?_)
      obtain ⟨rfl, rfl⟩ := q
      simp only [am_wp, am_stp, am_en, am_as, am_pad, am_nth, am_set, am_st1, am_st2, am_kl, am_kill, am_mem, am_fv, am_tk, am_wt, am_bk, Option.toList, List.cons_append, List.nil_append, Nat.reduceAdd, Nat.reduceEqDiff, Nat.reduceLeDiff, reduceIte, Nat.reduceLT, or_self, true_or, or_true, if_true, if_false, and_self, and_true, true_and, not_false_eq_true, not_true_eq_false]
      refine am_go [17] 10 ?_
      have o1 : (0 : Int32) = 0 ∨ (0 : Int32) = 1 := by decide
      simp only [am_wp, am_stp, am_en, am_as, am_pad, am_nth, am_set, am_st1, am_st2, am_kl, am_kill, am_mem, am_fv, am_tk, am_wt, am_bk, Option.toList, List.cons_append, List.nil_append, Nat.reduceAdd, Nat.reduceEqDiff, Nat.reduceLeDiff, reduceIte, Nat.reduceLT, or_self, true_or, or_true, if_true, if_false, and_self, and_true, true_and, not_false_eq_true, not_true_eq_false, fd_SR_hidden_4, fd_SR_hidden_5, fd_SR_hidden_6, fd_SR_hidden_7, fd_SR_hidden_8, fd_SR_hidden_11, fd_SR_hidden_14, fd_SR_hidden_63, fd_SR_hidden_64, s1, r3, k8, i8, le0, o1]
    · obtain ⟨rfl, rfl⟩ := q
      simp only [am_wp, am_stp, am_en, am_as, am_pad, am_nth, am_set, am_st1, am_st2, am_kl, am_kill, am_mem, am_fv, am_tk, am_wt, am_bk, Option.toList, List.cons_append, List.nil_append, Nat.reduceAdd, Nat.reduceEqDiff, Nat.reduceLeDiff, reduceIte, Nat.reduceLT, or_self, true_or, or_true, if_true, if_false, and_self, and_true, true_and, not_false_eq_true, not_true_eq_false]
      refine am_go [10] 10 ?_
      simp only [am_wp, am_stp, am_en, am_as, am_pad, am_nth, am_set, am_st1, am_st2, am_kl, am_kill, am_mem, am_fv, am_tk, am_wt, am_bk, Option.toList, List.cons_append, List.nil_append, Nat.reduceAdd, Nat.reduceEqDiff, Nat.reduceLeDiff, reduceIte, Nat.reduceLT, or_self, true_or, or_true, if_true, if_false, and_self, and_true, true_and, not_false_eq_true, not_true_eq_false, fd_La_hidden_7, fd_La_hidden_10, fd_La_hidden_11, fd_La_hidden_14, fd_La_hidden_15, fd_La_hidden_16, fd_La_hidden_19, fd_La_hidden_21, fd_La_hidden_22, fd_La_hidden_23, fd_La_hidden_24, g9, g10, i0, c0, le0]
  obtain ⟨rfl, rfl⟩ := q
  simp only [am_wp, am_stp, am_en, am_as, am_pad, am_nth, am_set, am_st1, am_st2, am_kl, am_kill, am_mem, am_fv, am_tk, am_wt, am_bk, Option.toList, List.cons_append, List.nil_append, Nat.reduceAdd, Nat.reduceEqDiff, Nat.reduceLeDiff, reduceIte, Nat.reduceLT, or_self, true_or, or_true, if_true, if_false, and_self, and_true, true_and, not_false_eq_true, not_true_eq_false]
  have C := lw_C.out (v := 0) G
  obtain ⟨m1, m2, m3, m4, m5, m6, m7⟩ := C.mo g5
  have k72 := m1.1
  have j3 : am_I (am_sL h 108 0 0) 72 3 = 0 := by rw [m2]; rfl
  have j24 : am_I (am_sL h 108 0 0) 72 24 = 0 := by rw [m2]; rfl
  have v0 : am_L (am_sL h 108 0 0) 108 0 = 0 := by simp only [hx_nx_sI, hx_ce_sI, hx_sl_sI, hx_kd_sI, hx_ln_sI, hx_I_sI, hx_L_sI, hx_R_sI, hx_nx_sL, hx_ce_sL, hx_sl_sL, hx_kd_sL, hx_ln_sL, hx_I_sL, hx_L_sL, hx_R_sL, hx_nx_sR, hx_ce_sR, hx_sl_sR, hx_kd_sR, hx_ln_sR, hx_I_sR, hx_L_sR, hx_R_sR, hx_nx_al, hx_ce_al, hx_sl_al, hx_kd_al, hx_ln_al, hx_I_al, hx_L_al, hx_R_al, hx_nx_row, hx_ce_row, hx_sl_row, hx_kd_row, hx_ln_row, hx_I_row, hx_L_row, hx_R_row, hx_nx_mk, hx_kd_mk, hx_ln_mk, hx_I_mk, hx_L_mk, hx_R_mk, am_wp, am_stp, am_en, am_as, am_pad, am_nth, am_set, am_st1, am_st2, am_kl, am_kill, am_mem, am_fv, am_tk, am_wt, am_bk, Option.toList, List.cons_append, List.nil_append, Nat.reduceAdd, Nat.reduceEqDiff, Nat.reduceLeDiff, reduceIte, Nat.reduceLT, or_self, true_or, or_true, if_true, if_false, and_self, and_true, true_and, not_false_eq_true, not_true_eq_false]
  obtain ⟨b1, b2, b3, -, -⟩ := C.1 1 (Or.inl (by decide))
  rw [g6] at b1
  rw [g7] at b2
  rw [g8] at b3
  have hce := C.2.2.2.1
  have hsl := C.2.2.2.2
  have o1 := C.2.1
  have o2 := C.2.2.1
  generalize am_sL h 108 0 0 = g at *
  have y1 : am_I g 1 2 = xs 2 := by rw [b3]
  have y2 : am_I g 1 3 = xs 3 := by rw [b3]
  refine am_go [] 10 ?_
  simp only [am_wp, am_stp, am_en, am_as, am_pad, am_nth, am_set, am_st1, am_st2, am_kl, am_kill, am_mem, am_fv, am_tk, am_wt, am_bk, Option.toList, List.cons_append, List.nil_append, Nat.reduceAdd, Nat.reduceEqDiff, Nat.reduceLeDiff, reduceIte, Nat.reduceLT, or_self, true_or, or_true, if_true, if_false, and_self, and_true, true_and, not_false_eq_true, not_true_eq_false, fd_La_law_1264, fd_La_law_1266, fd_La_law_1267, fd_La_law_1268, fd_La_law_1270, fd_La_law_1271, fd_La_law_1272, fd_La_law_1273, fd_La_law_1274, fd_La_law_1276, b1, b2, n1, e1, i1, e2, i2]
  (try simp only [c1, y1, c2, y2, lg_eq])
  refine am_go [] 10 ?_
  simp only [am_wp, am_stp, am_en, am_as, am_pad, am_nth, am_set, am_st1, am_st2, am_kl, am_kill, am_mem, am_fv, am_tk, am_wt, am_bk, Option.toList, List.cons_append, List.nil_append, Nat.reduceAdd, Nat.reduceEqDiff, Nat.reduceLeDiff, reduceIte, Nat.reduceLT, or_self, true_or, or_true, if_true, if_false, and_self, and_true, true_and, not_false_eq_true, not_true_eq_false, fd_La_law_1277, fd_La_law_1278, fd_La_law_1280, fd_La_law_1281, fd_La_law_1282, fd_La_law_1283, fd_La_law_1284, fd_La_law_1287, fd_La_law_1288, fd_La_law_1289, b1, b2, k72, n1, e1, i1, e2, i2]
  (try simp only [c1, y1, c2, y2, lg_eq])
  generalize lg_2 (xs 2) (xs 3) = key
  refine am_call (Q := fun o h' => o = .inl (some (.int 0)) ∧ h' = am_sI g 72 0 0) ?_ (fun o h2 q => ?_)
  · refine am_in' (d := d + 11) mt_Mo_hidden 5 rfl rfl rfl ?_
    refine am_go [8, 16] 7 ?_
    simp only [am_wp, am_stp, am_en, am_as, am_pad, am_nth, am_set, am_st1, am_st2, am_kl, am_kill, am_mem, am_fv, am_tk, am_wt, am_bk, Option.toList, List.cons_append, List.nil_append, Nat.reduceAdd, Nat.reduceEqDiff, Nat.reduceLeDiff, reduceIte, Nat.reduceLT, or_self, true_or, or_true, if_true, if_false, and_self, and_true, true_and, not_false_eq_true, not_true_eq_false, fd_Mo_hidden_0, fd_Mo_hidden_1, fd_Mo_hidden_2, fd_Mo_hidden_5, fd_Mo_hidden_12, fd_Mo_hidden_13, k72, j3]
    refine am_go [26] 10 ?_
    have o1 : (0 : Int32) = 0 ∨ (0 : Int32) = 1 := by decide
    simp only [am_wp, am_stp, am_en, am_as, am_pad, am_nth, am_set, am_st1, am_st2, am_kl, am_kill, am_mem, am_fv, am_tk, am_wt, am_bk, Option.toList, List.cons_append, List.nil_append, Nat.reduceAdd, Nat.reduceEqDiff, Nat.reduceLeDiff, reduceIte, Nat.reduceLT, or_self, true_or, or_true, if_true, if_false, and_self, and_true, true_and, not_false_eq_true, not_true_eq_false, fd_Mo_hidden_16, fd_Mo_hidden_17, fd_Mo_hidden_18, fd_Mo_hidden_19, fd_Mo_hidden_20, fd_Mo_hidden_23, fd_Mo_hidden_80, fd_Mo_hidden_81, hx_nx_sI, hx_ce_sI, hx_sl_sI, hx_kd_sI, hx_ln_sI, hx_I_sI, hx_L_sI, hx_R_sI, hx_nx_sL, hx_ce_sL, hx_sl_sL, hx_kd_sL, hx_ln_sL, hx_I_sL, hx_L_sL, hx_R_sL, hx_nx_sR, hx_ce_sR, hx_sl_sR, hx_kd_sR, hx_ln_sR, hx_I_sR, hx_L_sR, hx_R_sR, hx_nx_al, hx_ce_al, hx_sl_al, hx_kd_al, hx_ln_al, hx_I_al, hx_L_al, hx_R_al, hx_nx_row, hx_ce_row, hx_sl_row, hx_kd_row, hx_ln_row, hx_I_row, hx_L_row, hx_R_row, hx_nx_mk, hx_kd_mk, hx_ln_mk, hx_I_mk, hx_L_mk, hx_R_mk, k72, j24, le0, o1]
  obtain ⟨rfl, rfl⟩ := q
  simp only [am_wp, am_stp, am_en, am_as, am_pad, am_nth, am_set, am_st1, am_st2, am_kl, am_kill, am_mem, am_fv, am_tk, am_wt, am_bk, Option.toList, List.cons_append, List.nil_append, Nat.reduceAdd, Nat.reduceEqDiff, Nat.reduceLeDiff, reduceIte, Nat.reduceLT, or_self, true_or, or_true, if_true, if_false, and_self, and_true, true_and, not_false_eq_true, not_true_eq_false]
  refine am_go [] 3 ?_
  simp only [am_wp, am_stp, am_en, am_as, am_pad, am_nth, am_set, am_st1, am_st2, am_kl, am_kill, am_mem, am_fv, am_tk, am_wt, am_bk, Option.toList, List.cons_append, List.nil_append, Nat.reduceAdd, Nat.reduceEqDiff, Nat.reduceLeDiff, reduceIte, Nat.reduceLT, or_self, true_or, or_true, if_true, if_false, and_self, and_true, true_and, not_false_eq_true, not_true_eq_false, fd_La_law_1292, fd_La_law_1294, fd_La_law_1295, hx_nx_sI, hx_ce_sI, hx_sl_sI, hx_kd_sI, hx_ln_sI, hx_I_sI, hx_L_sI, hx_R_sI, hx_nx_sL, hx_ce_sL, hx_sl_sL, hx_kd_sL, hx_ln_sL, hx_I_sL, hx_L_sL, hx_R_sL, hx_nx_sR, hx_ce_sR, hx_sl_sR, hx_kd_sR, hx_ln_sR, hx_I_sR, hx_L_sR, hx_R_sR, hx_nx_al, hx_ce_al, hx_sl_al, hx_kd_al, hx_ln_al, hx_I_al, hx_L_al, hx_R_al, hx_nx_row, hx_ce_row, hx_sl_row, hx_kd_row, hx_ln_row, hx_I_row, hx_L_row, hx_R_row, hx_nx_mk, hx_kd_mk, hx_ln_mk, hx_I_mk, hx_L_mk, hx_R_mk, k72]
  refine am_call (Q := fun o h' => o = .inl (some (.int 0)) ∧ h' = am_sI g 72 0 0) ?_ (fun o h3 q => ?_)
  · refine am_in' (d := d + 11) mt_Mo_thrown 1 rfl rfl rfl ?_
    refine am_go [] 10 ?_
    simp only [am_wp, am_stp, am_en, am_as, am_pad, am_nth, am_set, am_st1, am_st2, am_kl, am_kill, am_mem, am_fv, am_tk, am_wt, am_bk, Option.toList, List.cons_append, List.nil_append, Nat.reduceAdd, Nat.reduceEqDiff, Nat.reduceLeDiff, reduceIte, Nat.reduceLT, or_self, true_or, or_true, if_true, if_false, and_self, and_true, true_and, not_false_eq_true, not_true_eq_false, fd_Mo_thrown_0, fd_Mo_thrown_1, fd_Mo_thrown_4, hx_nx_sI, hx_ce_sI, hx_sl_sI, hx_kd_sI, hx_ln_sI, hx_I_sI, hx_L_sI, hx_R_sI, hx_nx_sL, hx_ce_sL, hx_sl_sL, hx_kd_sL, hx_ln_sL, hx_I_sL, hx_L_sL, hx_R_sL, hx_nx_sR, hx_ce_sR, hx_sl_sR, hx_kd_sR, hx_ln_sR, hx_I_sR, hx_L_sR, hx_R_sR, hx_nx_al, hx_ce_al, hx_sl_al, hx_kd_al, hx_ln_al, hx_I_al, hx_L_al, hx_R_al, hx_nx_row, hx_ce_row, hx_sl_row, hx_kd_row, hx_ln_row, hx_I_row, hx_L_row, hx_R_row, hx_nx_mk, hx_kd_mk, hx_ln_mk, hx_I_mk, hx_L_mk, hx_R_mk, k72]
  obtain ⟨rfl, rfl⟩ := q
  simp only [am_wp, am_stp, am_en, am_as, am_pad, am_nth, am_set, am_st1, am_st2, am_kl, am_kill, am_mem, am_fv, am_tk, am_wt, am_bk, Option.toList, List.cons_append, List.nil_append, Nat.reduceAdd, Nat.reduceEqDiff, Nat.reduceLeDiff, reduceIte, Nat.reduceLT, or_self, true_or, or_true, if_true, if_false, and_self, and_true, true_and, not_false_eq_true, not_true_eq_false]
  refine am_go [1303, 1305] 2 ?_
  simp only [am_wp, am_stp, am_en, am_as, am_pad, am_nth, am_set, am_st1, am_st2, am_kl, am_kill, am_mem, am_fv, am_tk, am_wt, am_bk, Option.toList, List.cons_append, List.nil_append, Nat.reduceAdd, Nat.reduceEqDiff, Nat.reduceLeDiff, reduceIte, Nat.reduceLT, or_self, true_or, or_true, if_true, if_false, and_self, and_true, true_and, not_false_eq_true, not_true_eq_false, fd_La_law_1298, fd_La_law_1300]
  refine am_go [1329, 1318, 1322] 8 ?_
  simp only [am_wp, am_stp, am_en, am_as, am_pad, am_nth, am_set, am_st1, am_st2, am_kl, am_kill, am_mem, am_fv, am_tk, am_wt, am_bk, Option.toList, List.cons_append, List.nil_append, Nat.reduceAdd, Nat.reduceEqDiff, Nat.reduceLeDiff, reduceIte, Nat.reduceLT, or_self, true_or, or_true, if_true, if_false, and_self, and_true, true_and, not_false_eq_true, not_true_eq_false, fd_La_law_1305, fd_La_law_1307, fd_La_law_1310, fd_La_law_1311, fd_La_law_1312, fd_La_law_1313, fd_La_law_1315, hx_nx_sI, hx_ce_sI, hx_sl_sI, hx_kd_sI, hx_ln_sI, hx_I_sI, hx_L_sI, hx_R_sI, hx_nx_sL, hx_ce_sL, hx_sl_sL, hx_kd_sL, hx_ln_sL, hx_I_sL, hx_L_sL, hx_R_sL, hx_nx_sR, hx_ce_sR, hx_sl_sR, hx_kd_sR, hx_ln_sR, hx_I_sR, hx_L_sR, hx_R_sR, hx_nx_al, hx_ce_al, hx_sl_al, hx_kd_al, hx_ln_al, hx_I_al, hx_L_al, hx_R_al, hx_nx_row, hx_ce_row, hx_sl_row, hx_kd_row, hx_ln_row, hx_I_row, hx_L_row, hx_R_row, hx_nx_mk, hx_kd_mk, hx_ln_mk, hx_I_mk, hx_L_mk, hx_R_mk, o1, o2, i0, c0, le0]
  refine am_go [1327, 1634] 8 ?_
  have nl : ¬ (0 : Int64) < 0 := by decide
  simp only [am_wp, am_stp, am_en, am_as, am_pad, am_nth, am_set, am_st1, am_st2, am_kl, am_kill, am_mem, am_fv, am_tk, am_wt, am_bk, Option.toList, List.cons_append, List.nil_append, Nat.reduceAdd, Nat.reduceEqDiff, Nat.reduceLeDiff, reduceIte, Nat.reduceLT, or_self, true_or, or_true, if_true, if_false, and_self, and_true, true_and, not_false_eq_true, not_true_eq_false, fd_La_law_1322, fd_La_law_1323, fd_La_law_1324, fd_La_law_1329, v0, nl]
  exact lw_fin G b1 b2 (by simp only [hx_nx_sI, hx_ce_sI, hx_sl_sI, hx_kd_sI, hx_ln_sI, hx_I_sI, hx_L_sI, hx_R_sI, hx_nx_sL, hx_ce_sL, hx_sl_sL, hx_kd_sL, hx_ln_sL, hx_I_sL, hx_L_sL, hx_R_sL, hx_nx_sR, hx_ce_sR, hx_sl_sR, hx_kd_sR, hx_ln_sR, hx_I_sR, hx_L_sR, hx_R_sR, hx_nx_al, hx_ce_al, hx_sl_al, hx_kd_al, hx_ln_al, hx_I_al, hx_L_al, hx_R_al, hx_nx_row, hx_ce_row, hx_sl_row, hx_kd_row, hx_ln_row, hx_I_row, hx_L_row, hx_R_row, hx_nx_mk, hx_kd_mk, hx_ln_mk, hx_I_mk, hx_L_mk, hx_R_mk]; omega) (by simp only [hx_nx_sI, hx_ce_sI, hx_sl_sI, hx_kd_sI, hx_ln_sI, hx_I_sI, hx_L_sI, hx_R_sI, hx_nx_sL, hx_ce_sL, hx_sl_sL, hx_kd_sL, hx_ln_sL, hx_I_sL, hx_L_sL, hx_R_sL, hx_nx_sR, hx_ce_sR, hx_sl_sR, hx_kd_sR, hx_ln_sR, hx_I_sR, hx_L_sR, hx_R_sR, hx_nx_al, hx_ce_al, hx_sl_al, hx_kd_al, hx_ln_al, hx_I_al, hx_L_al, hx_R_al, hx_nx_row, hx_ce_row, hx_sl_row, hx_kd_row, hx_ln_row, hx_I_row, hx_L_row, hx_R_row, hx_nx_mk, hx_kd_mk, hx_ln_mk, hx_I_mk, hx_L_mk, hx_R_mk]; omega)
