/-! SortedRuns' OWN METHODS, WEAKLY, 4 -/
def rref (P k : Nat) (h : am_H) (o : am_O) (h' : am_H) : Prop := ∃ a, o = .inl (some (.ref a)) ∧ ruh h' a ∧ wp P k h h'
theorem ww_writeRun_loop {d P a : Nat} {lv : Int32} {h : am_H} : ∀ (m i : Nat) (p : Int32) (y : Value) (g : am_H), m + i = 1000000 → ruh g a → wp P 1 h g →
    am_Ex nm_pr (d + 4) mt_SR_writeRun (51, [.ref 2, .int lv, .ref a, .int p, .int (nI i), y], [], g) (rref P 1 h)
  | m, i, p, y, g, hm, r, w => by
    have fin : ∀ (g' : am_H), ruh g' a → wp P 1 h g' → am_Ex nm_pr (d + 4) mt_SR_writeRun (173, [.ref 2, .int lv, .ref a, .int p, .int (nI i), y], [], g') (rref P 1 h) := fun g' r' w' => by
      refine am_go [] 5 ?_
      simp only [am_wp, am_stp, am_en, am_as, am_pad, am_nth, am_set, am_st1, am_st2, am_kl, am_kill, am_mem, am_fv, am_tk, am_wt, am_bk, Option.toList, List.cons_append, List.nil_append, Nat.reduceAdd, Nat.reduceEqDiff, Nat.reduceLeDiff, reduceIte, Nat.reduceLT, or_self, true_or, or_true, if_true, if_false, and_self, and_true, true_and, not_false_eq_true, not_true_eq_false, fd_SR_writeRun_173, fd_SR_writeRun_174, fd_SR_writeRun_175, fd_SR_writeRun_176, fd_SR_writeRun_177, w'.1.kd 2 1 (by decide)]
      refine am_call (ww_writePage w'.1 r') (fun o g2 q => ?_)
      obtain ⟨rfl, w2⟩ := q
      simp only [am_wp, am_stp, am_en, am_as, am_pad, am_nth, am_set, am_st1, am_st2, am_kl, am_kill, am_mem, am_fv, am_tk, am_wt, am_bk, Option.toList, List.cons_append, List.nil_append, Nat.reduceAdd, Nat.reduceEqDiff, Nat.reduceLeDiff, reduceIte, Nat.reduceLT, or_self, true_or, or_true, if_true, if_false, and_self, and_true, true_and, not_false_eq_true, not_true_eq_false]
      refine am_go [] 2 ?_
      simp only [am_wp, am_stp, am_en, am_as, am_pad, am_nth, am_set, am_st1, am_st2, am_kl, am_kill, am_mem, am_fv, am_tk, am_wt, am_bk, Option.toList, List.cons_append, List.nil_append, Nat.reduceAdd, Nat.reduceEqDiff, Nat.reduceLeDiff, reduceIte, Nat.reduceLT, or_self, true_or, or_true, if_true, if_false, and_self, and_true, true_and, not_false_eq_true, not_true_eq_false, fd_SR_writeRun_180, fd_SR_writeRun_181]
      exact ⟨a, rfl, w2.2.ru r', (w'.trans w2).mono (by omega)⟩
    cases m with
    | zero =>
      have l1 : ¬ nI i < 1000000 := nI_nlt (b := 1000000) (by omega) (by omega)
      refine am_go [58, 173] 3 ?_
      simp only [am_wp, am_stp, am_en, am_as, am_pad, am_nth, am_set, am_st1, am_st2, am_kl, am_kill, am_mem, am_fv, am_tk, am_wt, am_bk, Option.toList, List.cons_append, List.nil_append, Nat.reduceAdd, Nat.reduceEqDiff, Nat.reduceLeDiff, reduceIte, Nat.reduceLT, or_self, true_or, or_true, if_true, if_false, and_self, and_true, true_and, not_false_eq_true, not_true_eq_false, fd_SR_writeRun_51, fd_SR_writeRun_53, fd_SR_writeRun_55, l1]
      exact fin _ r w
    | succ m =>
      have l1 : nI i < 1000000 := nI_lt (b := 1000000) (by omega) (by decide)
      refine am_go [58, 173] 3 ?_
      simp only [am_wp, am_stp, am_en, am_as, am_pad, am_nth, am_set, am_st1, am_st2, am_kl, am_kill, am_mem, am_fv, am_tk, am_wt, am_bk, Option.toList, List.cons_append, List.nil_append, Nat.reduceAdd, Nat.reduceEqDiff, Nat.reduceLeDiff, reduceIte, Nat.reduceLT, or_self, true_or, or_true, if_true, if_false, and_self, and_true, true_and, not_false_eq_true, not_true_eq_false, fd_SR_writeRun_51, fd_SR_writeRun_53, fd_SR_writeRun_55, l1]
      refine am_go [] 3 ?_
      simp only [am_wp, am_stp, am_en, am_as, am_pad, am_nth, am_set, am_st1, am_st2, am_kl, am_kill, am_mem, am_fv, am_tk, am_wt, am_bk, Option.toList, List.cons_append, List.nil_append, Nat.reduceAdd, Nat.reduceEqDiff, Nat.reduceLeDiff, reduceIte, Nat.reduceLT, or_self, true_or, or_true, if_true, if_false, and_self, and_true, true_and, not_false_eq_true, not_true_eq_false, fd_SR_writeRun_58, fd_SR_writeRun_59, fd_SR_writeRun_62, w.1.kd 2 1 (by decide), w.1.R 2 5 25 (by decide), w.1.kd 25 2 (by decide)]
      refine am_call (ww_advance w.1) (fun o g1 q => ?_)
      obtain ⟨b, w1⟩ := q
      have r1 := w1.2.ru r
      have w1 := (w.trans w1).mono (l := 1) (by omega)
      obtain ⟨v, rfl, -⟩ := b01_cases b
      simp only [am_wp, am_stp, am_en, am_as, am_pad, am_nth, am_set, am_st1, am_st2, am_kl, am_kill, am_mem, am_fv, am_tk, am_wt, am_bk, Option.toList, List.cons_append, List.nil_append, Nat.reduceAdd, Nat.reduceEqDiff, Nat.reduceLeDiff, reduceIte, Nat.reduceLT, or_self, true_or, or_true, if_true, if_false, and_self, and_true, true_and, not_false_eq_true, not_true_eq_false]
      refine am_go [68, 173] 1 ?_
      simp only [am_wp, am_stp, am_en, am_as, am_pad, am_nth, am_set, am_st1, am_st2, am_kl, am_kill, am_mem, am_fv, am_tk, am_wt, am_bk, Option.toList, List.cons_append, List.nil_append, Nat.reduceAdd, Nat.reduceEqDiff, Nat.reduceLeDiff, reduceIte, Nat.reduceLT, or_self, true_or, or_true, if_true, if_false, and_self, and_true, true_and, not_false_eq_true, not_true_eq_false, fd_SR_writeRun_65]
      refine wif (fin _ r1 w1) ?_
      have app : ∀ (p : Int32) (y : Value) (g' : am_H), ruh g' a → wp P 1 h g' → am_Ex nm_pr (d + 4) mt_SR_writeRun (135, [.ref 2, .int lv, .ref a, .int p, .int (nI i), y], [], g') (rref P 1 h) := fun p y g' r' w' => by
        refine am_go [] 9 ?_
        simp only [am_wp, am_stp, am_en, am_as, am_pad, am_nth, am_set, am_st1, am_st2, am_kl, am_kill, am_mem, am_fv, am_tk, am_wt, am_bk, Option.toList, List.cons_append, List.nil_append, Nat.reduceAdd, Nat.reduceEqDiff, Nat.reduceLeDiff, reduceIte, Nat.reduceLT, or_self, true_or, or_true, if_true, if_false, and_self, and_true, true_and, not_false_eq_true, not_true_eq_false, fd_SR_writeRun_135, fd_SR_writeRun_136, fd_SR_writeRun_139, fd_SR_writeRun_140, fd_SR_writeRun_143, fd_SR_writeRun_146, fd_SR_writeRun_147, fd_SR_writeRun_150, fd_SR_writeRun_153, w'.1.kd 2 1 (by decide), w'.1.R 2 5 25 (by decide), w'.1.kd 25 2 (by decide), w'.1.R 2 8 14 (by decide), w'.1.kd 14 8 (by decide), w'.1.R 25 0 26 (by decide)]
        refine am_call (ww_append w'.1 (by decide)) (fun o g2 q => ?_)
        obtain ⟨rfl, w2⟩ := q
        have r2 := w2.2.ru r'
        have w2 := (w'.trans w2).mono (l := 1) (by omega)
        simp only [am_wp, am_stp, am_en, am_as, am_pad, am_nth, am_set, am_st1, am_st2, am_kl, am_kill, am_mem, am_fv, am_tk, am_wt, am_bk, Option.toList, List.cons_append, List.nil_append, Nat.reduceAdd, Nat.reduceEqDiff, Nat.reduceLeDiff, reduceIte, Nat.reduceLT, or_self, true_or, or_true, if_true, if_false, and_self, and_true, true_and, not_false_eq_true, not_true_eq_false]
        refine am_go [] 5 ?_
        simp only [am_wp, am_stp, am_en, am_as, am_pad, am_nth, am_set, am_st1, am_st2, am_kl, am_kill, am_mem, am_fv, am_tk, am_wt, am_bk, Option.toList, List.cons_append, List.nil_append, Nat.reduceAdd, Nat.reduceEqDiff, Nat.reduceLeDiff, reduceIte, Nat.reduceLT, or_self, true_or, or_true, if_true, if_false, and_self, and_true, true_and, not_false_eq_true, not_true_eq_false, fd_SR_writeRun_156, fd_SR_writeRun_157, fd_SR_writeRun_158, fd_SR_writeRun_161, fd_SR_writeRun_164, w2.1.kd 2 1 (by decide), w2.1.R 2 5 25 (by decide), w2.1.kd 25 2 (by decide), r2.1]
        refine am_call (ww_note w2.1 r2) (fun o g3 q => ?_)
        obtain ⟨rfl, w3⟩ := q
        simp only [am_wp, am_stp, am_en, am_as, am_pad, am_nth, am_set, am_st1, am_st2, am_kl, am_kill, am_mem, am_fv, am_tk, am_wt, am_bk, Option.toList, List.cons_append, List.nil_append, Nat.reduceAdd, Nat.reduceEqDiff, Nat.reduceLeDiff, reduceIte, Nat.reduceLT, or_self, true_or, or_true, if_true, if_false, and_self, and_true, true_and, not_false_eq_true, not_true_eq_false]
        refine am_go [51] 2 ?_
        simp only [am_wp, am_stp, am_en, am_as, am_pad, am_nth, am_set, am_st1, am_st2, am_kl, am_kill, am_mem, am_fv, am_tk, am_wt, am_bk, Option.toList, List.cons_append, List.nil_append, Nat.reduceAdd, Nat.reduceEqDiff, Nat.reduceLeDiff, reduceIte, Nat.reduceLT, or_self, true_or, or_true, if_true, if_false, and_self, and_true, true_and, not_false_eq_true, not_true_eq_false, fd_SR_writeRun_167, fd_SR_writeRun_170, nI_1]
        exact ww_writeRun_loop m (i + 1) p y g3 (by omega) (w3.2.ru r2) ((w2.trans w3).mono (by omega))
      refine am_go [] 9 ?_
      simp only [am_wp, am_stp, am_en, am_as, am_pad, am_nth, am_set, am_st1, am_st2, am_kl, am_kill, am_mem, am_fv, am_tk, am_wt, am_bk, Option.toList, List.cons_append, List.nil_append, Nat.reduceAdd, Nat.reduceEqDiff, Nat.reduceLeDiff, reduceIte, Nat.reduceLT, or_self, true_or, or_true, if_true, if_false, and_self, and_true, true_and, not_false_eq_true, not_true_eq_false, fd_SR_writeRun_68, fd_SR_writeRun_69, fd_SR_writeRun_72, fd_SR_writeRun_73, fd_SR_writeRun_76, fd_SR_writeRun_79, fd_SR_writeRun_80, fd_SR_writeRun_83, fd_SR_writeRun_86, w1.1.kd 2 1 (by decide), w1.1.R 2 5 25 (by decide), w1.1.kd 25 2 (by decide), w1.1.R 2 8 14 (by decide), w1.1.kd 14 8 (by decide), w1.1.R 25 0 26 (by decide)]
      refine am_call (ww_fits w1.1 (w1.1.kd 26 3 (by decide))) (fun o g2 q => ?_)
      obtain ⟨b, rfl⟩ := q
      obtain ⟨v, rfl, -⟩ := b01_cases b
      simp only [am_wp, am_stp, am_en, am_as, am_pad, am_nth, am_set, am_st1, am_st2, am_kl, am_kill, am_mem, am_fv, am_tk, am_wt, am_bk, Option.toList, List.cons_append, List.nil_append, Nat.reduceAdd, Nat.reduceEqDiff, Nat.reduceLeDiff, reduceIte, Nat.reduceLT, or_self, true_or, or_true, if_true, if_false, and_self, and_true, true_and, not_false_eq_true, not_true_eq_false]
      refine am_go [92, 135] 1 ?_
      simp only [am_wp, am_stp, am_en, am_as, am_pad, am_nth, am_set, am_st1, am_st2, am_kl, am_kill, am_mem, am_fv, am_tk, am_wt, am_bk, Option.toList, List.cons_append, List.nil_append, Nat.reduceAdd, Nat.reduceEqDiff, Nat.reduceLeDiff, reduceIte, Nat.reduceLT, or_self, true_or, or_true, if_true, if_false, and_self, and_true, true_and, not_false_eq_true, not_true_eq_false, fd_SR_writeRun_89]
      refine wif ?_ (app _ _ _ r1 w1)
      refine am_go [] 6 ?_
      simp only [am_wp, am_stp, am_en, am_as, am_pad, am_nth, am_set, am_st1, am_st2, am_kl, am_kill, am_mem, am_fv, am_tk, am_wt, am_bk, Option.toList, List.cons_append, List.nil_append, Nat.reduceAdd, Nat.reduceEqDiff, Nat.reduceLeDiff, reduceIte, Nat.reduceLT, or_self, true_or, or_true, if_true, if_false, and_self, and_true, true_and, not_false_eq_true, not_true_eq_false, fd_SR_writeRun_92, fd_SR_writeRun_93, fd_SR_writeRun_96, fd_SR_writeRun_97, fd_SR_writeRun_98, fd_SR_writeRun_99, w1.1.kd 2 1 (by decide), w1.1.R 2 1 21 (by decide), w1.1.kd 21 9 (by decide)]
      refine am_call (ww_least w1.1) (fun o g3 q => ?_)
      obtain ⟨⟨n, rfl⟩, rfl⟩ := q
      simp only [am_wp, am_stp, am_en, am_as, am_pad, am_nth, am_set, am_st1, am_st2, am_kl, am_kill, am_mem, am_fv, am_tk, am_wt, am_bk, Option.toList, List.cons_append, List.nil_append, Nat.reduceAdd, Nat.reduceEqDiff, Nat.reduceLeDiff, reduceIte, Nat.reduceLT, or_self, true_or, or_true, if_true, if_false, and_self, and_true, true_and, not_false_eq_true, not_true_eq_false]
      refine am_go [] 6 ?_
      simp only [am_wp, am_stp, am_en, am_as, am_pad, am_nth, am_set, am_st1, am_st2, am_kl, am_kill, am_mem, am_fv, am_tk, am_wt, am_bk, Option.toList, List.cons_append, List.nil_append, Nat.reduceAdd, Nat.reduceEqDiff, Nat.reduceLeDiff, reduceIte, Nat.reduceLT, or_self, true_or, or_true, if_true, if_false, and_self, and_true, true_and, not_false_eq_true, not_true_eq_false, fd_SR_writeRun_102, fd_SR_writeRun_104, fd_SR_writeRun_105, fd_SR_writeRun_106, fd_SR_writeRun_107, fd_SR_writeRun_109, w1.1.kd 2 1 (by decide)]
      refine am_call (ww_writePage w1.1 r1) (fun o g4 q => ?_)
      obtain ⟨rfl, w4⟩ := q
      have r4 := w4.2.ru r1
      have w4 := (w1.trans w4).mono (l := 1) (by omega)
      simp only [am_wp, am_stp, am_en, am_as, am_pad, am_nth, am_set, am_st1, am_st2, am_kl, am_kill, am_mem, am_fv, am_tk, am_wt, am_bk, Option.toList, List.cons_append, List.nil_append, Nat.reduceAdd, Nat.reduceEqDiff, Nat.reduceLeDiff, reduceIte, Nat.reduceLT, or_self, true_or, or_true, if_true, if_false, and_self, and_true, true_and, not_false_eq_true, not_true_eq_false]
      refine am_go [119, 121] 3 ?_
      simp only [am_wp, am_stp, am_en, am_as, am_pad, am_nth, am_set, am_st1, am_st2, am_kl, am_kill, am_mem, am_fv, am_tk, am_wt, am_bk, Option.toList, List.cons_append, List.nil_append, Nat.reduceAdd, Nat.reduceEqDiff, Nat.reduceLeDiff, reduceIte, Nat.reduceLT, or_self, true_or, or_true, if_true, if_false, and_self, and_true, true_and, not_false_eq_true, not_true_eq_false, fd_SR_writeRun_112, fd_SR_writeRun_113, fd_SR_writeRun_116, w4.1.kd 2 1 (by decide)]
      refine wif ?_ ?_
      · refine am_go [] 7 ?_
        simp only [am_wp, am_stp, am_en, am_as, am_pad, am_nth, am_set, am_st1, am_st2, am_kl, am_kill, am_mem, am_fv, am_tk, am_wt, am_bk, Option.toList, List.cons_append, List.nil_append, Nat.reduceAdd, Nat.reduceEqDiff, Nat.reduceLeDiff, reduceIte, Nat.reduceLT, or_self, true_or, or_true, if_true, if_false, and_self, and_true, true_and, not_false_eq_true, not_true_eq_false, fd_SR_writeRun_121, fd_SR_writeRun_123, fd_SR_writeRun_124, fd_SR_writeRun_125, fd_SR_writeRun_128, fd_SR_writeRun_129, fd_SR_writeRun_132, w4.1.kd 2 1 (by decide), w4.1.R 2 8 14 (by decide), w4.1.kd 14 8 (by decide), r4.1]
        refine am_call (ww_beginPage w4.1) (fun o g5 q => ?_)
        obtain ⟨rfl, w5⟩ := q
        simp only [am_wp, am_stp, am_en, am_as, am_pad, am_nth, am_set, am_st1, am_st2, am_kl, am_kill, am_mem, am_fv, am_tk, am_wt, am_bk, Option.toList, List.cons_append, List.nil_append, Nat.reduceAdd, Nat.reduceEqDiff, Nat.reduceLeDiff, reduceIte, Nat.reduceLT, or_self, true_or, or_true, if_true, if_false, and_self, and_true, true_and, not_false_eq_true, not_true_eq_false]
        exact app _ _ _ (w5.2.ru r4) ((w4.trans w5).mono (by omega))
      · refine am_go [] 2 ?_
        simp only [am_wp, am_stp, am_en, am_as, am_pad, am_nth, am_set, am_st1, am_st2, am_kl, am_kill, am_mem, am_fv, am_tk, am_wt, am_bk, Option.toList, List.cons_append, List.nil_append, Nat.reduceAdd, Nat.reduceEqDiff, Nat.reduceLeDiff, reduceIte, Nat.reduceLT, or_self, true_or, or_true, if_true, if_false, and_self, and_true, true_and, not_false_eq_true, not_true_eq_false, fd_SR_writeRun_119, fd_SR_writeRun_120]
        exact ⟨a, rfl, r4, w4⟩
theorem ww_writeRun {d P : Nat} {lv : Int32} {h : am_H} (w : wk P h) : am_Rt nm_pr (d + 5) mi_SR_writeRun [.ref 2, .int lv] h (rref P 1 h) := by
  have h9 : 109 ≤ am_nx h := w.1.2.2.2.2.2.2.1
  have n0 : ¬ 2 = am_nx h := by omega
  refine am_in' (d := d + 4) mt_SR_writeRun 6 rfl rfl rfl ?_
  refine am_go [] 6 ?_
  simp only [am_wp, am_stp, am_en, am_as, am_pad, am_nth, am_set, am_st1, am_st2, am_kl, am_kill, am_mem, am_fv, am_tk, am_wt, am_bk, Option.toList, List.cons_append, List.nil_append, Nat.reduceAdd, Nat.reduceEqDiff, Nat.reduceLeDiff, reduceIte, Nat.reduceLT, or_self, true_or, or_true, if_true, if_false, and_self, and_true, true_and, not_false_eq_true, not_true_eq_false, fd_SR_writeRun_0, fd_SR_writeRun_3, fd_SR_writeRun_4, fd_SR_writeRun_5, fd_SR_writeRun_8, fd_SR_writeRun_9, hx_nx_sI, hx_ce_sI, hx_sl_sI, hx_kd_sI, hx_ln_sI, hx_I_sI, hx_L_sI, hx_R_sI, hx_nx_sL, hx_ce_sL, hx_sl_sL, hx_kd_sL, hx_ln_sL, hx_I_sL, hx_L_sL, hx_R_sL, hx_nx_sR, hx_ce_sR, hx_sl_sR, hx_kd_sR, hx_ln_sR, hx_I_sR, hx_L_sR, hx_R_sR, hx_nx_al, hx_ce_al, hx_sl_al, hx_kd_al, hx_ln_al, hx_I_al, hx_L_al, hx_R_al, hx_nx_row, hx_ce_row, hx_sl_row, hx_kd_row, hx_ln_row, hx_I_row, hx_L_row, hx_R_row, hx_nx_mk, hx_kd_mk, hx_ln_mk, hx_I_mk, hx_L_mk, hx_R_mk, w.kd 2 1 (by decide), n0]
  refine am_call (l2_Run_init (d := d + 3) (t := am_nx h) ?_ (by omega) am_zz.al (by rw [hx_nx_al]; omega)) (fun o h1 q => ?_)
  · simp only [hx_nx_sI, hx_ce_sI, hx_sl_sI, hx_kd_sI, hx_ln_sI, hx_I_sI, hx_L_sI, hx_R_sI, hx_nx_sL, hx_ce_sL, hx_sl_sL, hx_kd_sL, hx_ln_sL, hx_I_sL, hx_L_sL, hx_R_sL, hx_nx_sR, hx_ce_sR, hx_sl_sR, hx_kd_sR, hx_ln_sR, hx_I_sR, hx_L_sR, hx_R_sR, hx_nx_al, hx_ce_al, hx_sl_al, hx_kd_al, hx_ln_al, hx_I_al, hx_L_al, hx_R_al, hx_nx_row, hx_ce_row, hx_sl_row, hx_kd_row, hx_ln_row, hx_I_row, hx_L_row, hx_R_row, hx_nx_mk, hx_kd_mk, hx_ln_mk, hx_I_mk, hx_L_mk, hx_R_mk, am_wp, am_stp, am_en, am_as, am_pad, am_nth, am_set, am_st1, am_st2, am_kl, am_kill, am_mem, am_fv, am_tk, am_wt, am_bk, Option.toList, List.cons_append, List.nil_append, Nat.reduceAdd, Nat.reduceEqDiff, Nat.reduceLeDiff, reduceIte, Nat.reduceLT, or_self, true_or, or_true, if_true, if_false, and_self, and_true, true_and, not_false_eq_true, not_true_eq_false]
  obtain ⟨rfl, e1⟩ := q
  have e1' : h1 = nr_H h (am_I h 2 13) lv := e1
  clear e1
  obtain ⟨w1, r1⟩ := wp.new (n := am_I h 2 13) (l := lv) w
  rw [← e1'] at w1 r1
  clear e1'
  generalize am_nx h = a at *
  simp only [am_wp, am_stp, am_en, am_as, am_pad, am_nth, am_set, am_st1, am_st2, am_kl, am_kill, am_mem, am_fv, am_tk, am_wt, am_bk, Option.toList, List.cons_append, List.nil_append, Nat.reduceAdd, Nat.reduceEqDiff, Nat.reduceLeDiff, reduceIte, Nat.reduceLT, or_self, true_or, or_true, if_true, if_false, and_self, and_true, true_and, not_false_eq_true, not_true_eq_false]
  refine am_go [] 7 ?_
  simp only [am_wp, am_stp, am_en, am_as, am_pad, am_nth, am_set, am_st1, am_st2, am_kl, am_kill, am_mem, am_fv, am_tk, am_wt, am_bk, Option.toList, List.cons_append, List.nil_append, Nat.reduceAdd, Nat.reduceEqDiff, Nat.reduceLeDiff, reduceIte, Nat.reduceLT, or_self, true_or, or_true, if_true, if_false, and_self, and_true, true_and, not_false_eq_true, not_true_eq_false, fd_SR_writeRun_12, fd_SR_writeRun_13, fd_SR_writeRun_14, fd_SR_writeRun_15, fd_SR_writeRun_18, fd_SR_writeRun_19, fd_SR_writeRun_20, w1.1.kd 2 1 (by decide)]
  have w2 := w1.s2 (j := 13) (v := am_I h1 2 13 + 1) (by decide)
  have r2 : ruh (am_sI h1 2 13 (am_I h1 2 13 + 1)) a := r1
  generalize am_sI h1 2 13 (am_I h1 2 13 + 1) = g2 at *
  refine am_go [] 4 ?_
  simp only [am_wp, am_stp, am_en, am_as, am_pad, am_nth, am_set, am_st1, am_st2, am_kl, am_kill, am_mem, am_fv, am_tk, am_wt, am_bk, Option.toList, List.cons_append, List.nil_append, Nat.reduceAdd, Nat.reduceEqDiff, Nat.reduceLeDiff, reduceIte, Nat.reduceLT, or_self, true_or, or_true, if_true, if_false, and_self, and_true, true_and, not_false_eq_true, not_true_eq_false, fd_SR_writeRun_23, fd_SR_writeRun_24, fd_SR_writeRun_27, fd_SR_writeRun_28, w2.1.kd 2 1 (by decide), w2.1.R 2 1 21 (by decide), w2.1.kd 21 9 (by decide)]
  refine am_call (ww_least w2.1) (fun o g3 q => ?_)
  obtain ⟨⟨n, rfl⟩, rfl⟩ := q
  simp only [am_wp, am_stp, am_en, am_as, am_pad, am_nth, am_set, am_st1, am_st2, am_kl, am_kill, am_mem, am_fv, am_tk, am_wt, am_bk, Option.toList, List.cons_append, List.nil_append, Nat.reduceAdd, Nat.reduceEqDiff, Nat.reduceLeDiff, reduceIte, Nat.reduceLT, or_self, true_or, or_true, if_true, if_false, and_self, and_true, true_and, not_false_eq_true, not_true_eq_false]
  refine am_go [] 4 ?_
  simp only [am_wp, am_stp, am_en, am_as, am_pad, am_nth, am_set, am_st1, am_st2, am_kl, am_kill, am_mem, am_fv, am_tk, am_wt, am_bk, Option.toList, List.cons_append, List.nil_append, Nat.reduceAdd, Nat.reduceEqDiff, Nat.reduceLeDiff, reduceIte, Nat.reduceLT, or_self, true_or, or_true, if_true, if_false, and_self, and_true, true_and, not_false_eq_true, not_true_eq_false, fd_SR_writeRun_31, fd_SR_writeRun_32, fd_SR_writeRun_33, fd_SR_writeRun_34, r2.1]
  have w3 := w2.runI (j := 3) (v := n) r2
  have r3 : ruh (am_sI g3 a 3 n) a := r2
  generalize am_sI g3 a 3 n = g4 at *
  refine am_go [] 5 ?_
  simp only [am_wp, am_stp, am_en, am_as, am_pad, am_nth, am_set, am_st1, am_st2, am_kl, am_kill, am_mem, am_fv, am_tk, am_wt, am_bk, Option.toList, List.cons_append, List.nil_append, Nat.reduceAdd, Nat.reduceEqDiff, Nat.reduceLeDiff, reduceIte, Nat.reduceLT, or_self, true_or, or_true, if_true, if_false, and_self, and_true, true_and, not_false_eq_true, not_true_eq_false, fd_SR_writeRun_37, fd_SR_writeRun_38, fd_SR_writeRun_41, fd_SR_writeRun_42, fd_SR_writeRun_45, w3.1.kd 2 1 (by decide), w3.1.R 2 8 14 (by decide), w3.1.kd 14 8 (by decide), r3.1]
  refine am_call (ww_beginPage w3.1) (fun o g5 q => ?_)
  obtain ⟨rfl, w5⟩ := q
  simp only [am_wp, am_stp, am_en, am_as, am_pad, am_nth, am_set, am_st1, am_st2, am_kl, am_kill, am_mem, am_fv, am_tk, am_wt, am_bk, Option.toList, List.cons_append, List.nil_append, Nat.reduceAdd, Nat.reduceEqDiff, Nat.reduceLeDiff, reduceIte, Nat.reduceLT, or_self, true_or, or_true, if_true, if_false, and_self, and_true, true_and, not_false_eq_true, not_true_eq_false]
  refine am_go [51] 2 ?_
  simp only [am_wp, am_stp, am_en, am_as, am_pad, am_nth, am_set, am_st1, am_st2, am_kl, am_kill, am_mem, am_fv, am_tk, am_wt, am_bk, Option.toList, List.cons_append, List.nil_append, Nat.reduceAdd, Nat.reduceEqDiff, Nat.reduceLeDiff, reduceIte, Nat.reduceLT, or_self, true_or, or_true, if_true, if_false, and_self, and_true, true_and, not_false_eq_true, not_true_eq_false, fd_SR_writeRun_48, fd_SR_writeRun_49]
  exact ww_writeRun_loop 1000000 0 _ _ g5 rfl (w5.2.ru r3) ((w3.trans w5).mono (by omega))
