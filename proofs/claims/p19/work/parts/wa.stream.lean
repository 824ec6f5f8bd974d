/-! THE STREAMS, WEAKLY -/
theorem wk.st {P t : Nat} {h : am_H} (w : wk P h) (h1 : 30 ≤ t) (h2 : t ≤ 39) : am_kd h t = 7 ∧ am_R h t 4 = 18 ∧ am_R h t 5 = 21 := by
  have e : t = 30 ∨ t = 31 ∨ t = 32 ∨ t = 33 ∨ t = 34 ∨ t = 35 ∨ t = 36 ∨ t = 37 ∨ t = 38 ∨ t = 39 := by omega
  rcases e with e | e | e | e | e | e | e | e | e | e <;> subst e <;> exact ⟨w.kd _ 7 (by decide), w.R _ 4 18 (by decide), w.R _ 5 21 (by decide)⟩
theorem wp.st {P k t j : Nat} {v : Int32} {h g : am_H} (w : wp P k h g) (h1 : 30 ≤ t) (h2 : t ≤ 39) : wp P k h (am_sI g t j v) :=
  w.sI (cw_lt (by omega) (by omega)) (fun e => by omega) (wcell_free (by simp; omega) (by omega))
theorem wp.stL {P k t j : Nat} {v : Int64} {h g : am_H} (w : wp P k h g) (h1 : 30 ≤ t) (h2 : t ≤ 39) : wp P k h (am_sL g t j v) :=
  w.sL (cw_lt (by omega) (by omega)) (by omega)
theorem in_natL {v : Int32} {N : Nat} (hN : N < 2147483648) (h1 : ¬ v < 0) (h2 : v < nI N) : ∃ p, p < N ∧ v = nI p := by
  have a1 : (0 : Int32).toInt = 0 := by decide
  have a2 : (nI N).toInt = N := Int32.toInt_ofNat_of_lt (by omega)
  rw [Int32.lt_iff_toInt_lt, a1] at h1
  rw [Int32.lt_iff_toInt_lt, a2] at h2
  refine ⟨v.toInt.toNat, by omega, ?_⟩
  rw [← Int32.toInt_inj]
  show v.toInt = (Int32.ofNat v.toInt.toNat).toInt
  rw [Int32.toInt_ofNat_of_lt (by omega)]
  omega
theorem wand255 (x : Int32) : ∃ k, k < 256 ∧ x &&& 255 = nI k := by
  refine ⟨(x &&& 255).toBitVec.toNat, ?_, ?_⟩
  · rw [Int32.toBitVec_and, BitVec.toNat_and]
    have : ((255 : Int32).toBitVec).toNat = 255 := by decide
    rw [this]
    have := Nat.and_le_right (n := x.toBitVec.toNat) (m := 255)
    omega
  · apply Int32.toBitVec_inj.mp
    show _ = BitVec.ofNat 32 _
    rw [BitVec.ofNat_toNat]
    simp
def i255 (o : am_O) : Prop := ∃ n, n < 256 ∧ o = .inl (some (.int (nI n)))
theorem ww_nextOctet {d P t : Nat} {h : am_H} (w : wk P h) (h1 : 30 ≤ t) (h2 : t ≤ 39) : am_Rt nm_pr (d + 1) mi_RunStream_nextOctet [.ref t] h (fun o h' => i255 o ∧ wp P 0 h h') := by
  obtain ⟨kt, r4, r5⟩ := w.st h1 h2
  obtain ⟨k18, r1, r2, i0, k19, n19, k20, n20, P4, P1⟩ := id w.pg
  have one0 : ¬ (1 : Int32) = 0 := by decide
  have tail : ∀ (y x : Int32), (∃ n, n < 256 ∧ x = nI n) → am_Ex nm_pr d mt_RunStream_nextOctet (63, [.ref t, .int y, .retAddr 0], [.int x], h) (fun o h' => i255 o ∧ wp P 0 h h') := fun y x hx => by
    refine am_go [] 9 ?_
    simp only [am_wp, am_stp, am_en, am_as, am_pad, am_nth, am_set, am_st1, am_st2, am_kl, am_kill, am_mem, am_fv, am_tk, am_wt, am_bk, Option.toList, List.cons_append, List.nil_append, Nat.reduceAdd, Nat.reduceEqDiff, Nat.reduceLeDiff, reduceIte, Nat.reduceLT, or_self, true_or, or_true, if_true, if_false, and_self, and_true, true_and, not_false_eq_true, not_true_eq_false, fd_RunStream_nextOctet_63, fd_RunStream_nextOctet_64, fd_RunStream_nextOctet_65, fd_RunStream_nextOctet_66, fd_RunStream_nextOctet_69, fd_RunStream_nextOctet_70, fd_RunStream_nextOctet_71, fd_RunStream_nextOctet_74, fd_RunStream_nextOctet_75, kt]
    obtain ⟨n, hn, rfl⟩ := hx
    exact ⟨⟨n, hn, rfl⟩, (wp.refl w).st h1 h2⟩
  have zero : am_Ex nm_pr d mt_RunStream_nextOctet (37, [.ref t, .retAddr 0, .retAddr 0], [], h) (fun o h' => i255 o ∧ wp P 0 h h') := by
    refine am_go [43, 63] 5 ?_
    simp only [am_wp, am_stp, am_en, am_as, am_pad, am_nth, am_set, am_st1, am_st2, am_kl, am_kill, am_mem, am_fv, am_tk, am_wt, am_bk, Option.toList, List.cons_append, List.nil_append, Nat.reduceAdd, Nat.reduceEqDiff, Nat.reduceLeDiff, reduceIte, Nat.reduceLT, or_self, true_or, or_true, if_true, if_false, and_self, and_true, true_and, not_false_eq_true, not_true_eq_false, fd_RunStream_nextOctet_37, fd_RunStream_nextOctet_38, fd_RunStream_nextOctet_39, fd_RunStream_nextOctet_40, fd_RunStream_nextOctet_62]
    exact tail 0 0 ⟨0, by omega, rfl⟩
  refine am_in' mt_RunStream_nextOctet 3 rfl rfl rfl ?_
  refine am_go [7, 37] 3 ?_
  simp only [am_wp, am_stp, am_en, am_as, am_pad, am_nth, am_set, am_st1, am_st2, am_kl, am_kill, am_mem, am_fv, am_tk, am_wt, am_bk, Option.toList, List.cons_append, List.nil_append, Nat.reduceAdd, Nat.reduceEqDiff, Nat.reduceLeDiff, reduceIte, Nat.reduceLT, or_self, true_or, or_true, if_true, if_false, and_self, and_true, true_and, not_false_eq_true, not_true_eq_false, fd_RunStream_nextOctet_0, fd_RunStream_nextOctet_1, fd_RunStream_nextOctet_4, kt]
  by_cases e1 : am_I h t 9 < 0
  · simp only [e1, am_wp, am_stp, am_en, am_as, am_pad, am_nth, am_set, am_st1, am_st2, am_kl, am_kill, am_mem, am_fv, am_tk, am_wt, am_bk, Option.toList, List.cons_append, List.nil_append, Nat.reduceAdd, Nat.reduceEqDiff, Nat.reduceLeDiff, reduceIte, Nat.reduceLT, or_self, true_or, or_true, if_true, if_false, and_self, and_true, true_and, not_false_eq_true, not_true_eq_false]
    exact zero
  simp only [e1, am_wp, am_stp, am_en, am_as, am_pad, am_nth, am_set, am_st1, am_st2, am_kl, am_kill, am_mem, am_fv, am_tk, am_wt, am_bk, Option.toList, List.cons_append, List.nil_append, Nat.reduceAdd, Nat.reduceEqDiff, Nat.reduceLeDiff, reduceIte, Nat.reduceLT, or_self, true_or, or_true, if_true, if_false, and_self, and_true, true_and, not_false_eq_true, not_true_eq_false]
  refine am_go [18, 37] 5 ?_
  simp only [am_wp, am_stp, am_en, am_as, am_pad, am_nth, am_set, am_st1, am_st2, am_kl, am_kill, am_mem, am_fv, am_tk, am_wt, am_bk, Option.toList, List.cons_append, List.nil_append, Nat.reduceAdd, Nat.reduceEqDiff, Nat.reduceLeDiff, reduceIte, Nat.reduceLT, or_self, true_or, or_true, if_true, if_false, and_self, and_true, true_and, not_false_eq_true, not_true_eq_false, fd_RunStream_nextOctet_7, fd_RunStream_nextOctet_8, fd_RunStream_nextOctet_11, fd_RunStream_nextOctet_12, fd_RunStream_nextOctet_15, kt]
  refine wif ?_ zero
  refine am_go [33, 37] 7 ?_
  simp only [am_wp, am_stp, am_en, am_as, am_pad, am_nth, am_set, am_st1, am_st2, am_kl, am_kill, am_mem, am_fv, am_tk, am_wt, am_bk, Option.toList, List.cons_append, List.nil_append, Nat.reduceAdd, Nat.reduceEqDiff, Nat.reduceLeDiff, reduceIte, Nat.reduceLT, or_self, true_or, or_true, if_true, if_false, and_self, and_true, true_and, not_false_eq_true, not_true_eq_false, fd_RunStream_nextOctet_18, fd_RunStream_nextOctet_19, fd_RunStream_nextOctet_22, fd_RunStream_nextOctet_23, fd_RunStream_nextOctet_26, fd_RunStream_nextOctet_29, fd_RunStream_nextOctet_30, kt, r4, k18, r1, k19, n19]
  by_cases e2 : am_I h t 9 < (P * 128).toInt32
  · obtain ⟨x, x1, x2⟩ := in_natL (N := P * 128) (by omega) e1 e2
    have i1 := am_inb (c := x) (N := P * 128) (by omega) (by omega)
    have q1 : (nI x).toNatClampNeg = x := nI_clamp (by omega)
    simp only [e2, am_wp, am_stp, am_en, am_as, am_pad, am_nth, am_set, am_st1, am_st2, am_kl, am_kill, am_mem, am_fv, am_tk, am_wt, am_bk, Option.toList, List.cons_append, List.nil_append, Nat.reduceAdd, Nat.reduceEqDiff, Nat.reduceLeDiff, reduceIte, Nat.reduceLT, or_self, true_or, or_true, if_true, if_false, and_self, and_true, true_and, not_false_eq_true, not_true_eq_false]
    refine am_go [43, 62] 5 ?_
    simp only [am_wp, am_stp, am_en, am_as, am_pad, am_nth, am_set, am_st1, am_st2, am_kl, am_kill, am_mem, am_fv, am_tk, am_wt, am_bk, Option.toList, List.cons_append, List.nil_append, Nat.reduceAdd, Nat.reduceEqDiff, Nat.reduceLeDiff, reduceIte, Nat.reduceLT, or_self, true_or, or_true, if_true, if_false, and_self, and_true, true_and, not_false_eq_true, not_true_eq_false, fd_RunStream_nextOctet_33, fd_RunStream_nextOctet_34, fd_RunStream_nextOctet_38, fd_RunStream_nextOctet_39, fd_RunStream_nextOctet_40, one0]
    refine am_go [63] 9 ?_
    simp only [am_wp, am_stp, am_en, am_as, am_pad, am_nth, am_set, am_st1, am_st2, am_kl, am_kill, am_mem, am_fv, am_tk, am_wt, am_bk, Option.toList, List.cons_append, List.nil_append, Nat.reduceAdd, Nat.reduceEqDiff, Nat.reduceLeDiff, reduceIte, Nat.reduceLT, or_self, true_or, or_true, if_true, if_false, and_self, and_true, true_and, not_false_eq_true, not_true_eq_false, fd_RunStream_nextOctet_43, fd_RunStream_nextOctet_44, fd_RunStream_nextOctet_47, fd_RunStream_nextOctet_50, fd_RunStream_nextOctet_51, fd_RunStream_nextOctet_54, fd_RunStream_nextOctet_55, fd_RunStream_nextOctet_58, fd_RunStream_nextOctet_59, kt, r4, k18, r1, k19, n19, x2, i1, q1]
    exact tail 1 _ (wand255 _)
  · simp only [e2, am_wp, am_stp, am_en, am_as, am_pad, am_nth, am_set, am_st1, am_st2, am_kl, am_kill, am_mem, am_fv, am_tk, am_wt, am_bk, Option.toList, List.cons_append, List.nil_append, Nat.reduceAdd, Nat.reduceEqDiff, Nat.reduceLeDiff, reduceIte, Nat.reduceLT, or_self, true_or, or_true, if_true, if_false, and_self, and_true, true_and, not_false_eq_true, not_true_eq_false]
    exact zero
theorem ww_startPage {d P t : Nat} {v : Int32} {h : am_H} (w : wk P h) (h1 : 30 ≤ t) (h2 : t ≤ 39) : am_Rt nm_pr (d + 1) mi_RunStream_startPage [.ref t, .int v] h (fun o h' => o = .inl none ∧ wp P 0 h h') := by
  obtain ⟨kt, r4, r5⟩ := w.st h1 h2
  refine am_in' mt_RunStream_startPage 2 rfl rfl rfl ?_
  refine am_go [] 12 ?_
  simp only [am_wp, am_stp, am_en, am_as, am_pad, am_nth, am_set, am_st1, am_st2, am_kl, am_kill, am_mem, am_fv, am_tk, am_wt, am_bk, Option.toList, List.cons_append, List.nil_append, Nat.reduceAdd, Nat.reduceEqDiff, Nat.reduceLeDiff, reduceIte, Nat.reduceLT, or_self, true_or, or_true, if_true, if_false, and_self, and_true, true_and, not_false_eq_true, not_true_eq_false, fd_RunStream_startPage_0, fd_RunStream_startPage_1, fd_RunStream_startPage_2, fd_RunStream_startPage_5, fd_RunStream_startPage_6, fd_RunStream_startPage_7, fd_RunStream_startPage_10, fd_RunStream_startPage_11, fd_RunStream_startPage_12, fd_RunStream_startPage_15, hx_nx_sI, hx_ce_sI, hx_sl_sI, hx_kd_sI, hx_ln_sI, hx_I_sI, hx_L_sI, hx_R_sI, hx_nx_sL, hx_ce_sL, hx_sl_sL, hx_kd_sL, hx_ln_sL, hx_I_sL, hx_L_sL, hx_R_sL, hx_nx_sR, hx_ce_sR, hx_sl_sR, hx_kd_sR, hx_ln_sR, hx_I_sR, hx_L_sR, hx_R_sR, hx_nx_al, hx_ce_al, hx_sl_al, hx_kd_al, hx_ln_al, hx_I_al, hx_L_al, hx_R_al, hx_nx_row, hx_ce_row, hx_sl_row, hx_kd_row, hx_ln_row, hx_I_row, hx_L_row, hx_R_row, hx_nx_mk, hx_kd_mk, hx_ln_mk, hx_I_mk, hx_L_mk, hx_R_mk, kt]
  exact (((wp.refl w).st h1 h2).st h1 h2).st h1 h2
theorem ww_readValue_loop {d P t : Nat} {h : am_H} (h1 : 30 ≤ t) (h2 : t ≤ 39) : ∀ (m i : Nat) (z : Int64) (b : Int32) (x : Value) (g : am_H), m + i = 10 → wp P 0 h g →
    am_Ex nm_pr (d + 1) mt_RunStream_readValue (7, [.ref t, .long z, .retAddr 0, .int b, .int (nI i), x], [], g) (fun o h' => (∃ y, o = .inl (some (.long y))) ∧ wp P 0 h h')
  | m, i, z, b, x, g, hm, w => by
    have kt := (w.1.st h1 h2).1
    have fin : am_Ex nm_pr (d + 1) mt_RunStream_readValue (58, [.ref t, .long z, .retAddr 0, .int b, .int (nI i), x], [], g) (fun o h' => (∃ y, o = .inl (some (.long y))) ∧ wp P 0 h h') := by
      refine am_go [] 9 ?_
      simp only [am_wp, am_stp, am_en, am_as, am_pad, am_nth, am_set, am_st1, am_st2, am_kl, am_kill, am_mem, am_fv, am_tk, am_wt, am_bk, Option.toList, List.cons_append, List.nil_append, Nat.reduceAdd, Nat.reduceEqDiff, Nat.reduceLeDiff, reduceIte, Nat.reduceLT, or_self, true_or, or_true, if_true, if_false, and_self, and_true, true_and, not_false_eq_true, not_true_eq_false, fd_RunStream_readValue_58, fd_RunStream_readValue_59, fd_RunStream_readValue_60, fd_RunStream_readValue_61, fd_RunStream_readValue_62, fd_RunStream_readValue_63, fd_RunStream_readValue_64, fd_RunStream_readValue_65, fd_RunStream_readValue_66]
      exact ⟨⟨_, rfl⟩, w⟩
    cases m with
    | zero =>
      have e : i = 10 := by omega
      subst e
      have l1 : ¬ nI 10 < 10 := by decide
      refine am_go [14, 58] 3 ?_
      simp only [am_wp, am_stp, am_en, am_as, am_pad, am_nth, am_set, am_st1, am_st2, am_kl, am_kill, am_mem, am_fv, am_tk, am_wt, am_bk, Option.toList, List.cons_append, List.nil_append, Nat.reduceAdd, Nat.reduceEqDiff, Nat.reduceLeDiff, reduceIte, Nat.reduceLT, or_self, true_or, or_true, if_true, if_false, and_self, and_true, true_and, not_false_eq_true, not_true_eq_false, fd_RunStream_readValue_7, fd_RunStream_readValue_9, fd_RunStream_readValue_11, l1]
      exact fin
    | succ m =>
      have l1 : nI i < 10 := nI_lt (b := 10) (by omega) (by decide)
      refine am_go [14, 58] 3 ?_
      simp only [am_wp, am_stp, am_en, am_as, am_pad, am_nth, am_set, am_st1, am_st2, am_kl, am_kill, am_mem, am_fv, am_tk, am_wt, am_bk, Option.toList, List.cons_append, List.nil_append, Nat.reduceAdd, Nat.reduceEqDiff, Nat.reduceLeDiff, reduceIte, Nat.reduceLT, or_self, true_or, or_true, if_true, if_false, and_self, and_true, true_and, not_false_eq_true, not_true_eq_false, fd_RunStream_readValue_7, fd_RunStream_readValue_9, fd_RunStream_readValue_11, l1]
      refine am_go [18, 58] 2 ?_
      simp only [am_wp, am_stp, am_en, am_as, am_pad, am_nth, am_set, am_st1, am_st2, am_kl, am_kill, am_mem, am_fv, am_tk, am_wt, am_bk, Option.toList, List.cons_append, List.nil_append, Nat.reduceAdd, Nat.reduceEqDiff, Nat.reduceLeDiff, reduceIte, Nat.reduceLT, or_self, true_or, or_true, if_true, if_false, and_self, and_true, true_and, not_false_eq_true, not_true_eq_false, fd_RunStream_readValue_14, fd_RunStream_readValue_15]
      refine wif fin ?_
      refine am_go [] 2 ?_
      simp only [am_wp, am_stp, am_en, am_as, am_pad, am_nth, am_set, am_st1, am_st2, am_kl, am_kill, am_mem, am_fv, am_tk, am_wt, am_bk, Option.toList, List.cons_append, List.nil_append, Nat.reduceAdd, Nat.reduceEqDiff, Nat.reduceLeDiff, reduceIte, Nat.reduceLT, or_self, true_or, or_true, if_true, if_false, and_self, and_true, true_and, not_false_eq_true, not_true_eq_false, fd_RunStream_readValue_18, fd_RunStream_readValue_19, kt]
      refine am_call (ww_nextOctet w.1 h1 h2) (fun o g1 q => ?_)
      obtain ⟨⟨y, -, rfl⟩, w1⟩ := q
      have w2 := (w.trans w1).mono (l := 0) (by omega)
      simp only [am_wp, am_stp, am_en, am_as, am_pad, am_nth, am_set, am_st1, am_st2, am_kl, am_kill, am_mem, am_fv, am_tk, am_wt, am_bk, Option.toList, List.cons_append, List.nil_append, Nat.reduceAdd, Nat.reduceEqDiff, Nat.reduceLeDiff, reduceIte, Nat.reduceLT, or_self, true_or, or_true, if_true, if_false, and_self, and_true, true_and, not_false_eq_true, not_true_eq_false]
      refine am_go [46, 50] 15 ?_
      simp only [am_wp, am_stp, am_en, am_as, am_pad, am_nth, am_set, am_st1, am_st2, am_kl, am_kill, am_mem, am_fv, am_tk, am_wt, am_bk, Option.toList, List.cons_append, List.nil_append, Nat.reduceAdd, Nat.reduceEqDiff, Nat.reduceLeDiff, reduceIte, Nat.reduceLT, or_self, true_or, or_true, if_true, if_false, and_self, and_true, true_and, not_false_eq_true, not_true_eq_false, fd_RunStream_readValue_22, fd_RunStream_readValue_24, fd_RunStream_readValue_25, fd_RunStream_readValue_27, fd_RunStream_readValue_29, fd_RunStream_readValue_30, fd_RunStream_readValue_31, fd_RunStream_readValue_33, fd_RunStream_readValue_35, fd_RunStream_readValue_36, fd_RunStream_readValue_37, fd_RunStream_readValue_38, fd_RunStream_readValue_39, fd_RunStream_readValue_41, fd_RunStream_readValue_43]
      refine wif ?_ ?_
      · refine am_go [7] 5 ?_
        simp only [am_wp, am_stp, am_en, am_as, am_pad, am_nth, am_set, am_st1, am_st2, am_kl, am_kill, am_mem, am_fv, am_tk, am_wt, am_bk, Option.toList, List.cons_append, List.nil_append, Nat.reduceAdd, Nat.reduceEqDiff, Nat.reduceLeDiff, reduceIte, Nat.reduceLT, or_self, true_or, or_true, if_true, if_false, and_self, and_true, true_and, not_false_eq_true, not_true_eq_false, fd_RunStream_readValue_46, fd_RunStream_readValue_47, fd_RunStream_readValue_51, fd_RunStream_readValue_52, fd_RunStream_readValue_55, nI_1]
        exact ww_readValue_loop h1 h2 m (i + 1) _ _ _ g1 (by omega) w2
      · refine am_go [7] 4 ?_
        simp only [am_wp, am_stp, am_en, am_as, am_pad, am_nth, am_set, am_st1, am_st2, am_kl, am_kill, am_mem, am_fv, am_tk, am_wt, am_bk, Option.toList, List.cons_append, List.nil_append, Nat.reduceAdd, Nat.reduceEqDiff, Nat.reduceLeDiff, reduceIte, Nat.reduceLT, or_self, true_or, or_true, if_true, if_false, and_self, and_true, true_and, not_false_eq_true, not_true_eq_false, fd_RunStream_readValue_50, fd_RunStream_readValue_51, fd_RunStream_readValue_52, fd_RunStream_readValue_55, nI_1]
        exact ww_readValue_loop h1 h2 m (i + 1) _ _ _ g1 (by omega) w2
theorem ww_readValue {d P t : Nat} {h : am_H} (w : wk P h) (h1 : 30 ≤ t) (h2 : t ≤ 39) : am_Rt nm_pr (d + 2) mi_RunStream_readValue [.ref t] h (fun o h' => (∃ y, o = .inl (some (.long y))) ∧ wp P 0 h h') := by
  refine am_in' (d := d + 1) mt_RunStream_readValue 6 rfl rfl rfl ?_
  refine am_go [7] 6 ?_
  simp only [am_wp, am_stp, am_en, am_as, am_pad, am_nth, am_set, am_st1, am_st2, am_kl, am_kill, am_mem, am_fv, am_tk, am_wt, am_bk, Option.toList, List.cons_append, List.nil_append, Nat.reduceAdd, Nat.reduceEqDiff, Nat.reduceLeDiff, reduceIte, Nat.reduceLT, or_self, true_or, or_true, if_true, if_false, and_self, and_true, true_and, not_false_eq_true, not_true_eq_false, fd_RunStream_readValue_0, fd_RunStream_readValue_1, fd_RunStream_readValue_2, fd_RunStream_readValue_3, fd_RunStream_readValue_4, fd_RunStream_readValue_5]
  exact ww_readValue_loop h1 h2 10 0 _ _ _ h rfl (wp.refl w)
