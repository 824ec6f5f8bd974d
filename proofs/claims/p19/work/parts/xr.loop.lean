/-! CUT, THE LOOP, THE LAW -/
theorem lo_cut : lo_op 1065 := by
  intro d L P c i xs g Q w5 w6 w7 hL hi I hk
  obtain ⟨w, r, k1, l1, i1, k8, l8, -, -⟩ := id I
  have n1 : ¬ (99 = 100) := by decide
  obtain ⟨e1, j1, c1⟩ := lo_rd 1 hL hi (by decide)
  have e1 : nI i + 1 = nI (i + 1) := e1
  obtain ⟨e2, j2, c2⟩ := lo_rd 2 hL hi (by decide)
  have e2 : nI i + 2 = nI (i + 2) := e2
  refine am_go [] 12 ?_
  simp only [am_wp, am_stp, am_en, am_as, am_pad, am_nth, am_set, am_st1, am_st2, am_kl, am_kill, am_mem, am_fv, am_tk, am_wt, am_bk, Option.toList, List.cons_append, List.nil_append, Nat.reduceAdd, Nat.reduceEqDiff, Nat.reduceLeDiff, reduceIte, Nat.reduceLT, or_self, true_or, or_true, if_true, if_false, and_self, and_true, true_and, not_false_eq_true, not_true_eq_false, fd_La_law_1065, fd_La_law_1066, fd_La_law_1067, fd_La_law_1069, fd_La_law_1070, fd_La_law_1071, fd_La_law_1072, fd_La_law_1073, fd_La_law_1075, fd_La_law_1076, fd_La_law_1077, fd_La_law_1078, k1, l1, n1, e1, j1, e2, j2]
  simp only [c1, c2, i1]
  refine am_call (ww_cut (d := d + 10) w) (fun o h1 q => ?_)
  obtain ⟨rfl, q⟩ := q
  have I1 := I.wp q (by omega)
  obtain ⟨-, r1, k11, l11, i11, -, -, -, -⟩ := id I1
  have k72 : am_kd h1 72 = 12 := r1.1.1.1
  simp only [am_wp, am_stp, am_en, am_as, am_pad, am_nth, am_set, am_st1, am_st2, am_kl, am_kill, am_mem, am_fv, am_tk, am_wt, am_bk, Option.toList, List.cons_append, List.nil_append, Nat.reduceAdd, Nat.reduceEqDiff, Nat.reduceLeDiff, reduceIte, Nat.reduceLT, or_self, true_or, or_true, if_true, if_false, and_self, and_true, true_and, not_false_eq_true, not_true_eq_false]
  refine am_go [] 13 ?_
  simp only [am_wp, am_stp, am_en, am_as, am_pad, am_nth, am_set, am_st1, am_st2, am_kl, am_kill, am_mem, am_fv, am_tk, am_wt, am_bk, Option.toList, List.cons_append, List.nil_append, Nat.reduceAdd, Nat.reduceEqDiff, Nat.reduceLeDiff, reduceIte, Nat.reduceLT, or_self, true_or, or_true, if_true, if_false, and_self, and_true, true_and, not_false_eq_true, not_true_eq_false, fd_La_law_1081, fd_La_law_1083, fd_La_law_1084, fd_La_law_1085, fd_La_law_1087, fd_La_law_1088, fd_La_law_1089, fd_La_law_1090, fd_La_law_1091, fd_La_law_1093, fd_La_law_1094, fd_La_law_1095, fd_La_law_1096, k11, l11, k72, n1, e1, j1, e2, j2]
  simp only [c1, c2, i11]
  refine am_call (rx_cut (d := d + 11) r1) (fun o h2 q => ?_)
  obtain ⟨rfl, q, q2⟩ := q
  have I2 := I1.rq q
  have k722 : am_kd h2 72 = 12 := q.1.1.1.1
  simp only [am_wp, am_stp, am_en, am_as, am_pad, am_nth, am_set, am_st1, am_st2, am_kl, am_kill, am_mem, am_fv, am_tk, am_wt, am_bk, Option.toList, List.cons_append, List.nil_append, Nat.reduceAdd, Nat.reduceEqDiff, Nat.reduceLeDiff, reduceIte, Nat.reduceLT, or_self, true_or, or_true, if_true, if_false, and_self, and_true, true_and, not_false_eq_true, not_true_eq_false]
  refine am_go [] 2 ?_
  simp only [am_wp, am_stp, am_en, am_as, am_pad, am_nth, am_set, am_st1, am_st2, am_kl, am_kill, am_mem, am_fv, am_tk, am_wt, am_bk, Option.toList, List.cons_append, List.nil_append, Nat.reduceAdd, Nat.reduceEqDiff, Nat.reduceLeDiff, reduceIte, Nat.reduceLT, or_self, true_or, or_true, if_true, if_false, and_self, and_true, true_and, not_false_eq_true, not_true_eq_false, fd_La_law_1099, fd_La_law_1100, k722]
  refine am_call (Q := fun o h' => o = .inl (some (.int (am_I h2 72 0))) ∧ h' = h2) ?_ (fun o h3 q => ?_)
  · refine am_in' (d := d + 11) mt_Mo_thrown 1 rfl rfl rfl ?_
    refine am_go [] 10 ?_
    simp only [am_wp, am_stp, am_en, am_as, am_pad, am_nth, am_set, am_st1, am_st2, am_kl, am_kill, am_mem, am_fv, am_tk, am_wt, am_bk, Option.toList, List.cons_append, List.nil_append, Nat.reduceAdd, Nat.reduceEqDiff, Nat.reduceLeDiff, reduceIte, Nat.reduceLT, or_self, true_or, or_true, if_true, if_false, and_self, and_true, true_and, not_false_eq_true, not_true_eq_false, fd_Mo_thrown_0, fd_Mo_thrown_1, fd_Mo_thrown_4, k722]
  · obtain ⟨rfl, rfl⟩ := q
    simp only [am_wp, am_stp, am_en, am_as, am_pad, am_nth, am_set, am_st1, am_st2, am_kl, am_kill, am_mem, am_fv, am_tk, am_wt, am_bk, Option.toList, List.cons_append, List.nil_append, Nat.reduceAdd, Nat.reduceEqDiff, Nat.reduceLeDiff, reduceIte, Nat.reduceLT, or_self, true_or, or_true, if_true, if_false, and_self, and_true, true_and, not_false_eq_true, not_true_eq_false]
    rw [q2]
    refine am_go [1108, 1170] 3 ?_
    simp only [am_wp, am_stp, am_en, am_as, am_pad, am_nth, am_set, am_st1, am_st2, am_kl, am_kill, am_mem, am_fv, am_tk, am_wt, am_bk, Option.toList, List.cons_append, List.nil_append, Nat.reduceAdd, Nat.reduceEqDiff, Nat.reduceLeDiff, reduceIte, Nat.reduceLT, or_self, true_or, or_true, if_true, if_false, and_self, and_true, true_and, not_false_eq_true, not_true_eq_false, fd_La_law_1103, fd_La_law_1105, fd_La_law_1110]
    exact (if_pos (by cases ct_ok (xs (i + 1)) (xs (i + 2)) <;> rfl)).mpr (hk _ _ _ _ I2)
theorem nI_sub7 {L : Nat} (hL : L ≤ 3585) : (nI L - 7).toInt = (L : Int) - 7 := by
  rw [Int32.toInt_sub, nI_toInt (by omega), show (7 : Int32).toInt = 7 by decide, Int.bmod_def]
  split <;> omega
def lw_Q1 (o : am_O) (h : am_H) : Prop := o = .inl (some (.int 1)) ∧ am_ce h ≤ 601024 ∧ am_sl h ≤ 7293000
def lo_ts : List Nat := [148, 252, 312, 416, 546, 562, 578, 594, 622, 694, 707, 823, 863, 903, 963, 1003, 1052, 1065, 1113, 1126, 1142]
theorem lo_all : ∀ t ∈ lo_ts, lo_op t := by
  intro t ht
  simp only [lo_ts, List.mem_cons, List.not_mem_nil, or_false] at ht
  rcases ht with e | e | e | e | e | e | e | e | e | e | e | e | e | e | e | e | e | e | e | e | e <;> subst e
  · exact lo_put
  · exact lo_remove
  · exact lo_fold
  · exact lo_many
  · exact lo_flush
  · exact lo_merge
  · exact lo_mark
  · exact lo_release
  · exact lo_get
  · exact lo_state
  · exact lo_range
  · exact lo_at
  · exact lo_run
  · exact lo_hidden
  · exact lo_octet
  · exact lo_poke
  · exact lo_badAt
  · exact lo_cut
  · exact lo_down
  · exact lo_open
  · exact lo_told
theorem lo_loop {d L P : Nat} {xs : Nat → Int32} (hL : L ≤ 3585) : ∀ (n c : Nat) (w5 w6 w7 : Value) (g : am_H), n + c = 512 → lw_I P c L xs g →
    am_Ex nm_pr (d + 12) mt_La_law (33, [.ref 1, .ref 2, .ref 72, .ref 108, .int (nI (1 + 7 * c)), w5, w6, w7], [], g) lw_Q1 := by
  intro n
  induction n with
  | zero =>
    intro c w5 w6 w7 g hn I
    obtain ⟨w, r, k1, l1, i1, k8, l8, z1, z2⟩ := id I
    have n1 : ¬ (99 = 100) := by decide
    have n2 : ¬ (99 = 102) := by decide
    have o1 : (1 : Int32) = 0 ∨ (1 : Int32) = 1 := by decide
    have hi : L.toInt32 - 7 < nI (1 + 7 * c) := by
      rw [Int32.lt_iff_toInt_lt, show (L.toInt32 - 7).toInt = (L : Int) - 7 from nI_sub7 hL, nI_toInt (by omega)]
      omega
    refine am_go [43] 10 ?_
    simp only [am_wp, am_stp, am_en, am_as, am_pad, am_nth, am_set, am_st1, am_st2, am_kl, am_kill, am_mem, am_fv, am_tk, am_wt, am_bk, Option.toList, List.cons_append, List.nil_append, Nat.reduceAdd, Nat.reduceEqDiff, Nat.reduceLeDiff, reduceIte, Nat.reduceLT, or_self, true_or, or_true, if_true, if_false, and_self, and_true, true_and, not_false_eq_true, not_true_eq_false, fd_La_law_33, fd_La_law_35, fd_La_law_36, fd_La_law_37, fd_La_law_39, fd_La_law_40, fd_La_law_1176, fd_La_law_1177, k1, l1, n1, n2, hi, o1]
    exact ⟨rfl, by omega, by omega⟩
  | succ n ih =>
    intro c w5 w6 w7 g hn I
    obtain ⟨w, r, k1, l1, i1, k8, l8, z1, z2⟩ := id I
    have n1 : ¬ (99 = 100) := by decide
    have n2 : ¬ (99 = 102) := by decide
    have o1 : (1 : Int32) = 0 ∨ (1 : Int32) = 1 := by decide
    have ei : (L.toInt32 - 7 < nI (1 + 7 * c)) ↔ L < 8 + 7 * c := by
      rw [Int32.lt_iff_toInt_lt, show (L.toInt32 - 7).toInt = (L : Int) - 7 from nI_sub7 hL, nI_toInt (by omega)]
      omega
    by_cases hc : L < 8 + 7 * c
    · have hi := ei.mpr hc
      refine am_go [43] 10 ?_
      simp only [am_wp, am_stp, am_en, am_as, am_pad, am_nth, am_set, am_st1, am_st2, am_kl, am_kill, am_mem, am_fv, am_tk, am_wt, am_bk, Option.toList, List.cons_append, List.nil_append, Nat.reduceAdd, Nat.reduceEqDiff, Nat.reduceLeDiff, reduceIte, Nat.reduceLT, or_self, true_or, or_true, if_true, if_false, and_self, and_true, true_and, not_false_eq_true, not_true_eq_false, fd_La_law_33, fd_La_law_35, fd_La_law_36, fd_La_law_37, fd_La_law_39, fd_La_law_40, fd_La_law_1176, fd_La_law_1177, k1, l1, n1, n2, hi, o1]
      exact ⟨rfl, by omega, by omega⟩
    · have hi : ¬ (L.toInt32 - 7 < nI (1 + 7 * c)) := fun q => hc (ei.mp q)
      have h2 : ¬ (nI (1 + 7 * c) < 0 ∨ L ≤ (nI (1 + 7 * c)).toNatClampNeg) := by
        rw [nI_clamp (by omega)]
        exact of_eq_false (am_inb (c := 1 + 7 * c) (N := L) (by omega) (by omega))
      have next : ∀ (g1 : am_H) (w5 w6 w7 : Value), lw_I P (c + 1) L xs g1 → am_Ex nm_pr (d + 12) mt_La_law (1170, [.ref 1, .ref 2, .ref 72, .ref 108, .int (nI (1 + 7 * c)), w5, w6, w7], [], g1) lw_Q1 := by
        intro g1 w5 w6 w7 I1
        have e : nI (1 + 7 * c) + 7 = nI (1 + 7 * (c + 1)) := (Int32.ofNat_add (1 + 7 * c) 7).symm
        refine am_go [33] 2 ?_
        simp only [am_wp, am_stp, am_en, am_as, am_pad, am_nth, am_set, am_st1, am_st2, am_kl, am_kill, am_mem, am_fv, am_tk, am_wt, am_bk, Option.toList, List.cons_append, List.nil_append, Nat.reduceAdd, Nat.reduceEqDiff, Nat.reduceLeDiff, reduceIte, Nat.reduceLT, or_self, true_or, or_true, if_true, if_false, and_self, and_true, true_and, not_false_eq_true, not_true_eq_false, fd_La_law_1170, fd_La_law_1173, e]
        exact ih (c + 1) w5 w6 w7 g1 (by omega) I1
      refine am_go [43] 6 ?_
      simp only [am_wp, am_stp, am_en, am_as, am_pad, am_nth, am_set, am_st1, am_st2, am_kl, am_kill, am_mem, am_fv, am_tk, am_wt, am_bk, Option.toList, List.cons_append, List.nil_append, Nat.reduceAdd, Nat.reduceEqDiff, Nat.reduceLeDiff, reduceIte, Nat.reduceLT, or_self, true_or, or_true, if_true, if_false, and_self, and_true, true_and, not_false_eq_true, not_true_eq_false, fd_La_law_33, fd_La_law_35, fd_La_law_36, fd_La_law_37, fd_La_law_39, fd_La_law_40, k1, l1, n1, n2, hi]
      refine am_go [] 5 ?_
      simp only [am_wp, am_stp, am_en, am_as, am_pad, am_nth, am_set, am_st1, am_st2, am_kl, am_kill, am_mem, am_fv, am_tk, am_wt, am_bk, Option.toList, List.cons_append, List.nil_append, Nat.reduceAdd, Nat.reduceEqDiff, Nat.reduceLeDiff, reduceIte, Nat.reduceLT, or_self, true_or, or_true, if_true, if_false, and_self, and_true, true_and, not_false_eq_true, not_true_eq_false, fd_La_law_43, fd_La_law_44, fd_La_law_46, fd_La_law_47, fd_La_law_49, k1, l1, n1, n2, h2]
      generalize am_I g 1 (nI (1 + 7 * c)).toNatClampNeg &&& 31 = z
      refine am_go [] 1 ?_
      simp only [am_wp, am_stp, am_en, am_as, am_pad, am_nth, am_set, am_st1, am_st2, am_kl, am_kill, am_mem, am_fv, am_tk, am_wt, am_bk, Option.toList, List.cons_append, List.nil_append, Nat.reduceAdd, Nat.reduceEqDiff, Nat.reduceLeDiff, reduceIte, Nat.reduceLT, or_self, true_or, or_true, if_true, if_false, and_self, and_true, true_and, not_false_eq_true, not_true_eq_false, fd_La_law_50]
      refine am_sw_all (next g w5 w6 w7 I.up) _ _ (fun t ht => ?_)
      have ets : (List.map (fun o => ((50 : Int) + o).toNat) [98, 202, 262, 366, 496, 512, 528, 544, 572, 644, 657, 773, 813, 853, 913, 953, 1002, 1015, 1063, 1076, 1092]) = lo_ts := by decide
      exact lo_all t (ets ▸ ht) d L P c (1 + 7 * c) xs g lw_Q1 w5 w6 w7 hL (by omega) I next
theorem l2_law {d L : Nat} {xs : Nat → Int32} (hL : L ≤ 3585) : am_Ex nm_pr (d + 12) mt_La_law (0, am_en [.ref 1] 8, [], am_0 L xs) lw_Q1 := by
  refine l2_law_1 (d := d + 7) hL (fun h G => ?_)
  obtain ⟨g1, g2, g3, g4, g5, g6, g7, g8, g9, g10⟩ := id G
  have hP := (pg_spec (sc_0 L xs)).2.2
  exact lo_loop (P := pg_n (sc_0 L xs)) hL 512 0 _ _ _ h rfl ⟨g4, g5, g6, g7, g8, g9, g10, by omega, by omega⟩
theorem am_law_all {L : Nat} (xs : Nat → Int32) (hL : L ≤ 3585) : am_law L xs := by
  obtain ⟨N, o, h', e, q⟩ := l2_law (d := 0) (xs := xs) hL
  obtain ⟨rfl, q1, q2⟩ := q
  exact ⟨_, N, h', e, q1, q2⟩
