/-! THE LOOP OF many, THE CLASS'S SIDE -/
/-- the runs before the table goes out -/
def ar_1 (P : Nat) (As : List ar) : List ar := if up 0 (alv As) = 6 then amerge P As else As
/-- the table goes out -/
def ar_ok (P : Nat) (As : List ar) (T : List ent) : Prop := up 0 (alv (ar_1 P As)) < 6 ∧ npg T + apg (ar_1 P As) ≤ P - 2
theorem ar_1_up {P : Nat} {As : List ar} (hv : lv_ok 0 (alv As)) (h6 : up 0 (alv As) ≤ 6) : lv_ok 0 (alv (ar_1 P As)) ∧ up 0 (alv (ar_1 P As)) ≤ 6 := by
  unfold ar_1
  split
  · rcases amerge_lv (P := P) hv with e | ⟨e1, e2⟩
    · rw [e]; exact ⟨hv, h6⟩
    · exact ⟨e1, by omega⟩
  · exact ⟨hv, h6⟩
theorem ar_1_len (P : Nat) (As : List ar) : aen (ar_1 P As) ≤ aen As := by
  unfold ar_1
  split
  · exact amerge_len P As
  · exact Nat.le_refl _
theorem mc_in {d P n n0 i p : Nat} {Rs : List rn} {h : am_H} {kd : Int32} {fr st key : Int64} {Q : am_O → am_H → Prop} (c : cl_S P h n Rs) (S : ta_S n (am_L h 4) (am_I h 5) (am_L h 6)) (hp : tb_P (am_L h 4) n key p) (hpl : n < 64 ∨ tb_H (am_L h 4) n p key = true) (hi : i < 1000)
    (hx : ∀ h', cl_S P h' (ta_n n (am_L h 4) p key) Rs → am_L h' 4 = ta_K n (am_L h 4) p key → am_I h' 5 = ta_N n (am_L h 4) (am_I h 5) p key kd → am_L h' 6 = ta_V n (am_L h 4) (am_I h 5) (am_L h 6) p key kd (nI i).toInt64 → lf 0 h h' →
      am_Ex nm_pr (d + 8) mt_SR_many (39, [.ref 2, .int kd, .int (nI n0), .long fr, .retAddr 0, .long st, .retAddr 0, .long (key + st), .retAddr 0, .int (nI (i + 1))], [], h') Q) :
    am_Ex nm_pr (d + 8) mt_SR_many (93, [.ref 2, .int kd, .int (nI n0), .long fr, .retAddr 0, .long st, .retAddr 0, .long key, .retAddr 0, .int (nI i)], [], h) Q := by
  obtain ⟨hK, T, N, F, h9⟩ := id c
  obtain ⟨⟨k2, r0, r1, rr2, r3, r5, r8⟩, -⟩ := id hK
  have k3 := T.1
  refine am_go [] 7 ?_
  simp only [am_wp, am_stp, am_en, am_as, am_pad, am_nth, am_set, am_st1, am_st2, am_kl, am_kill, am_mem, am_fv, am_tk, am_wt, am_bk, Option.toList, List.cons_append, List.nil_append, Nat.reduceAdd, Nat.reduceEqDiff, Nat.reduceLeDiff, reduceIte, Nat.reduceLT, or_self, true_or, or_true, if_true, if_false, and_self, and_true, true_and, not_false_eq_true, not_true_eq_false, fd_SR_many_93, fd_SR_many_94, fd_SR_many_97, fd_SR_many_99, fd_SR_many_100, fd_SR_many_102, fd_SR_many_103, k2, rr2, k3]
  refine am_call (l2_enter (d := d + 6) T S.2.1 (fun p' hp' => by rw [hp'.uniq hp]; exact hpl)) (fun o h1 q => ?_)
  obtain ⟨p', hp', rfl, f, hQ⟩ := q
  have e := hp'.uniq hp
  subst e
  simp only [am_wp, am_stp, am_en, am_as, am_pad, am_nth, am_set, am_st1, am_st2, am_kl, am_kill, am_mem, am_fv, am_tk, am_wt, am_bk, Option.toList, List.cons_append, List.nil_append, Nat.reduceAdd, Nat.reduceEqDiff, Nat.reduceLeDiff, reduceIte, Nat.reduceLT, or_self, true_or, or_true, if_true, if_false, and_self, and_true, true_and, not_false_eq_true, not_true_eq_false]
  refine am_go [39] 6 ?_
  simp only [am_wp, am_stp, am_en, am_as, am_pad, am_nth, am_set, am_st1, am_st2, am_kl, am_kill, am_mem, am_fv, am_tk, am_wt, am_bk, Option.toList, List.cons_append, List.nil_append, Nat.reduceAdd, Nat.reduceEqDiff, Nat.reduceLeDiff, reduceIte, Nat.reduceLT, or_self, true_or, or_true, if_true, if_false, and_self, and_true, true_and, not_false_eq_true, not_true_eq_false, fd_SR_many_106, fd_SR_many_108, fd_SR_many_110, fd_SR_many_111, fd_SR_many_113, fd_SR_many_116, nI_1]
  have hK' : sk_K P h1 := hK.fi f (by decide)
  have N' : nw_R P h1 Rs := N.fi f (by decide)
  have F' : sp_F P h1 (pgs Rs).length := by
    unfold sp_F
    rw [f.2.2.2.2.2.2.1 21 (by decide), f.2.2.2.2.2.2.1 22 (by decide)]
    exact F
  have h9' : 109 ≤ am_nx h1 := by rw [f.1]; exact h9
  have l0 : lf 0 h h1 := lf.fi f (by decide)
  refine hx h1 ?_ ?_ ?_ ?_ l0
  · unfold ta_n
    unfold en_Q at hQ
    cases hH : tb_H (am_L h 4) n p' key with
    | true => rw [hH] at hQ; exact ⟨hK', hQ.1, N', F', h9'⟩
    | false => rw [hH] at hQ; exact ⟨hK', hQ.1, N', F', h9'⟩
  · unfold ta_K
    unfold en_Q at hQ
    cases hH : tb_H (am_L h 4) n p' key with
    | true => rw [hH] at hQ; exact hQ.2.1
    | false => rw [hH] at hQ; exact hQ.2.1
  · unfold ta_N
    unfold en_Q at hQ
    cases hH : tb_H (am_L h 4) n p' key with
    | true => rw [hH] at hQ; exact hQ.2.2.1
    | false => rw [hH] at hQ; exact hQ.2.2.1
  · unfold ta_V
    unfold en_Q at hQ
    cases hH : tb_H (am_L h 4) n p' key with
    | true => rw [hH] at hQ; exact hQ.2.2.2
    | false => rw [hH] at hQ; exact hQ.2.2.2
theorem mc_flush {d P n0 i k : Nat} {As : List ar} {Rs : List rn} {h0 h : am_H} {kd : Int32} {fr st key : Int64} {Q : am_O → am_H → Prop} (c : cl_S P h 64 Rs) (S : ta_S 64 (am_L h0 4) (am_I h0 5) (am_L h0 6)) (E : tb_E h0 h) (L : lf k h0 h) (hv : lv_ok 0 (alv As)) (h6 : up 0 (alv As) ≤ 6) (ea : ab Rs = As)
    (hy : up 0 (alv As) < 6 ∧ npg (tf (am_L h0 4) (am_I h0 5) (am_L h0 6) 0 64) + apg As ≤ P - 2 → ∀ h' Rs', cl_S P h' 0 Rs' → ab Rs' = (0, tf (am_L h0 4) (am_I h0 5) (am_L h0 6) 0 64) :: As → tb_E h0 h' → lf (k + 1) h0 h' →
      am_Ex nm_pr (d + 8) mt_SR_many (93, [.ref 2, .int kd, .int (nI n0), .long fr, .retAddr 0, .long st, .retAddr 0, .long key, .retAddr 0, .int (nI i)], [], h') Q)
    (hn : ¬ (up 0 (alv As) < 6 ∧ npg (tf (am_L h0 4) (am_I h0 5) (am_L h0 6) 0 64) + apg As ≤ P - 2) → ∀ h', lf (k + 1) h0 h' → Q (.inl (some (.int (nI i)))) h') :
    am_Ex nm_pr (d + 8) mt_SR_many (75, [.ref 2, .int kd, .int (nI n0), .long fr, .retAddr 0, .long st, .retAddr 0, .long key, .retAddr 0, .int (nI i)], [], h) Q := by
  obtain ⟨hK, T, N, F, h9⟩ := id c
  obtain ⟨⟨k2, r0, r1, rr2, r3, r5, r8⟩, -, -, -, -, -, -, i215⟩ := id hK
  have m1 : ¬ (-1 : Int32) = 1 := by decide
  have eT : tl h 0 64 = tf (am_L h0 4) (am_I h0 5) (am_L h0 6) 0 64 := by rw [tl_tf, E.1, E.2.1, E.2.2]
  have hsT : so (tl h 0 64) := by rw [eT]; exact tf_so S.2.1 64 0 (by omega)
  have hoT : ∀ e ∈ tl h 0 64, eo e := fun e he => by
    rw [eT] at he
    obtain ⟨j, -, j2, j3⟩ := tf_mem 64 0 e he
    rw [j3]
    exact S.2.2 j (by omega)
  have ep : apg As = (pgs Rs).length := by rw [← ea]; exact apg_ab N.all
  have el : alv As = lvs Rs := by rw [← ea]; exact alv_ab Rs
  refine am_go [] 5 ?_
  simp only [am_wp, am_stp, am_en, am_as, am_pad, am_nth, am_set, am_st1, am_st2, am_kl, am_kill, am_mem, am_fv, am_tk, am_wt, am_bk, Option.toList, List.cons_append, List.nil_append, Nat.reduceAdd, Nat.reduceEqDiff, Nat.reduceLeDiff, reduceIte, Nat.reduceLT, or_self, true_or, or_true, if_true, if_false, and_self, and_true, true_and, not_false_eq_true, not_true_eq_false, fd_SR_many_75, fd_SR_many_76, fd_SR_many_79, fd_SR_many_82, fd_SR_many_83, k2, i215]
  by_cases c6 : up 0 (alv As) < 6
  · have hl : Rs.length < 9 := by
      have := lv_len0 (alv As) hv
      rw [el] at this c6
      have e : (lvs Rs).length = Rs.length := by simp [lvs]
      omega
    refine am_call (l2_flushTable (d := d + 1) c (by decide) hsT hoT (by rw [← el]; exact c6) hl) (fun o h1 q => ?_)
    obtain ⟨q1, q2, q3⟩ := q
    have E1 : tb_E h0 h1 := ⟨q2.1.trans E.1, q2.2.1.trans E.2.1, q2.2.2.trans E.2.2⟩
    rcases q3 with ⟨rfl, q4, ps, q5, q6⟩ | ⟨rfl, q4⟩
    · simp only [am_wp, am_stp, am_en, am_as, am_pad, am_nth, am_set, am_st1, am_st2, am_kl, am_kill, am_mem, am_fv, am_tk, am_wt, am_bk, Option.toList, List.cons_append, List.nil_append, Nat.reduceAdd, Nat.reduceEqDiff, Nat.reduceLeDiff, reduceIte, Nat.reduceLT, or_self, true_or, or_true, if_true, if_false, and_self, and_true, true_and, not_false_eq_true, not_true_eq_false]
      refine am_go [93] 2 ?_
      simp only [am_wp, am_stp, am_en, am_as, am_pad, am_nth, am_set, am_st1, am_st2, am_kl, am_kill, am_mem, am_fv, am_tk, am_wt, am_bk, Option.toList, List.cons_append, List.nil_append, Nat.reduceAdd, Nat.reduceEqDiff, Nat.reduceLeDiff, reduceIte, Nat.reduceLT, or_self, true_or, or_true, if_true, if_false, and_self, and_true, true_and, not_false_eq_true, not_true_eq_false, fd_SR_many_86, fd_SR_many_87]
      refine hy ⟨c6, ?_⟩ h1 _ q5 ?_ E1 (L.trans q1)
      · rw [← eT, ep]; exact q4
      · rw [← ea, ← eT, ← q6]; rfl
    · simp only [am_wp, am_stp, am_en, am_as, am_pad, am_nth, am_set, am_st1, am_st2, am_kl, am_kill, am_mem, am_fv, am_tk, am_wt, am_bk, Option.toList, List.cons_append, List.nil_append, Nat.reduceAdd, Nat.reduceEqDiff, Nat.reduceLeDiff, reduceIte, Nat.reduceLT, or_self, true_or, or_true, if_true, if_false, and_self, and_true, true_and, not_false_eq_true, not_true_eq_false]
      refine am_go [93] 4 ?_
      simp only [am_wp, am_stp, am_en, am_as, am_pad, am_nth, am_set, am_st1, am_st2, am_kl, am_kill, am_mem, am_fv, am_tk, am_wt, am_bk, Option.toList, List.cons_append, List.nil_append, Nat.reduceAdd, Nat.reduceEqDiff, Nat.reduceLeDiff, reduceIte, Nat.reduceLT, or_self, true_or, or_true, if_true, if_false, and_self, and_true, true_and, not_false_eq_true, not_true_eq_false, fd_SR_many_86, fd_SR_many_87, fd_SR_many_90, fd_SR_many_92, m1]
      refine hn (fun q => ?_) h1 (L.trans q1)
      rw [← eT, ep] at q
      omega
  · refine am_call (l2_flush6 (d := d + 1) c (by decide) (by rw [← el]; omega)) (fun o h1 q => ?_)
    obtain ⟨rfl, rfl⟩ := q
    simp only [am_wp, am_stp, am_en, am_as, am_pad, am_nth, am_set, am_st1, am_st2, am_kl, am_kill, am_mem, am_fv, am_tk, am_wt, am_bk, Option.toList, List.cons_append, List.nil_append, Nat.reduceAdd, Nat.reduceEqDiff, Nat.reduceLeDiff, reduceIte, Nat.reduceLT, or_self, true_or, or_true, if_true, if_false, and_self, and_true, true_and, not_false_eq_true, not_true_eq_false]
    refine am_go [93] 4 ?_
    simp only [am_wp, am_stp, am_en, am_as, am_pad, am_nth, am_set, am_st1, am_st2, am_kl, am_kill, am_mem, am_fv, am_tk, am_wt, am_bk, Option.toList, List.cons_append, List.nil_append, Nat.reduceAdd, Nat.reduceEqDiff, Nat.reduceLeDiff, reduceIte, Nat.reduceLT, or_self, true_or, or_true, if_true, if_false, and_self, and_true, true_and, not_false_eq_true, not_true_eq_false, fd_SR_many_86, fd_SR_many_87, fd_SR_many_90, fd_SR_many_92, m1]
    exact hn (fun q => c6 q.1) h1 (L.mono (by omega))
theorem mc_room {d P n0 i : Nat} {Rs : List rn} {h : am_H} {kd : Int32} {fr st key : Int64} {Q : am_O → am_H → Prop} (c : cl_S P h 64 Rs) (S : ta_S 64 (am_L h 4) (am_I h 5) (am_L h 6)) (hv : lv_ok 0 (alv (ab Rs))) (h6 : up 0 (alv (ab Rs)) ≤ 6) (hen : aen (ab Rs) < 900000)
    (hy : ar_ok P (ab Rs) (tf (am_L h 4) (am_I h 5) (am_L h 6) 0 64) → ∀ h' Rs', cl_S P h' 0 Rs' → ab Rs' = (0, tf (am_L h 4) (am_I h 5) (am_L h 6) 0 64) :: ar_1 P (ab Rs) → tb_E h h' → lf 2 h h' →
      am_Ex nm_pr (d + 8) mt_SR_many (93, [.ref 2, .int kd, .int (nI n0), .long fr, .retAddr 0, .long st, .retAddr 0, .long key, .retAddr 0, .int (nI i)], [], h') Q)
    (hn : ¬ ar_ok P (ab Rs) (tf (am_L h 4) (am_I h 5) (am_L h 6) 0 64) → ∀ h', lf 2 h h' → Q (.inl (some (.int (nI i)))) h') :
    am_Ex nm_pr (d + 8) mt_SR_many (57, [.ref 2, .int kd, .int (nI n0), .long fr, .retAddr 0, .long st, .retAddr 0, .long key, .retAddr 0, .int (nI i)], [], h) Q := by
  obtain ⟨hK, T, N, F, h9⟩ := id c
  obtain ⟨⟨k2, r0, r1, rr2, r3, r5, r8⟩, -, -, -, -, ⟨k8, -⟩, -, -⟩ := id hK
  have u1 := ar_1_up (P := P) hv h6
  unfold ar_ok at hy hn
  refine am_go [] 4 ?_
  simp only [am_wp, am_stp, am_en, am_as, am_pad, am_nth, am_set, am_st1, am_st2, am_kl, am_kill, am_mem, am_fv, am_tk, am_wt, am_bk, Option.toList, List.cons_append, List.nil_append, Nat.reduceAdd, Nat.reduceEqDiff, Nat.reduceLeDiff, reduceIte, Nat.reduceLT, or_self, true_or, or_true, if_true, if_false, and_self, and_true, true_and, not_false_eq_true, not_true_eq_false, fd_SR_many_57, fd_SR_many_58, fd_SR_many_61, fd_SR_many_62, k2, r3, k8]
  refine am_call (l2_countUpTo (d := d + 7) (L := 0) hK (by decide) N) (fun o h1 q => ?_)
  obtain ⟨rfl, rfl⟩ := q
  simp only [am_wp, am_stp, am_en, am_as, am_pad, am_nth, am_set, am_st1, am_st2, am_kl, am_kill, am_mem, am_fv, am_tk, am_wt, am_bk, Option.toList, List.cons_append, List.nil_append, Nat.reduceAdd, Nat.reduceEqDiff, Nat.reduceLeDiff, reduceIte, Nat.reduceLT, or_self, true_or, or_true, if_true, if_false, and_self, and_true, true_and, not_false_eq_true, not_true_eq_false]
  have el := alv_ab Rs
  by_cases c6 : up 0 (alv (ab Rs)) = 6
  · have e6 : (nI (up 0 (lvs Rs)) = 6) = True := eq_true (by rw [← el, c6]; rfl)
    have e1 : ar_1 P (ab Rs) = amerge P (ab Rs) := by unfold ar_1; rw [if_pos c6]
    refine am_go [75, 70] 2 ?_
    simp only [am_wp, am_stp, am_en, am_as, am_pad, am_nth, am_set, am_st1, am_st2, am_kl, am_kill, am_mem, am_fv, am_tk, am_wt, am_bk, Option.toList, List.cons_append, List.nil_append, Nat.reduceAdd, Nat.reduceEqDiff, Nat.reduceLeDiff, reduceIte, Nat.reduceLT, or_self, true_or, or_true, if_true, if_false, and_self, and_true, true_and, not_false_eq_true, not_true_eq_false, fd_SR_many_65, fd_SR_many_67, e6]
    refine am_go [] 2 ?_
    simp only [am_wp, am_stp, am_en, am_as, am_pad, am_nth, am_set, am_st1, am_st2, am_kl, am_kill, am_mem, am_fv, am_tk, am_wt, am_bk, Option.toList, List.cons_append, List.nil_append, Nat.reduceAdd, Nat.reduceEqDiff, Nat.reduceLeDiff, reduceIte, Nat.reduceLT, or_self, true_or, or_true, if_true, if_false, and_self, and_true, true_and, not_false_eq_true, not_true_eq_false, fd_SR_many_70, fd_SR_many_71, k2]
    refine am_call (l2_mergeRuns (d := d) c (by rw [← el]; omega) hen) (fun o h2 q => ?_)
    obtain ⟨⟨x, rfl⟩, q2, q3, Rs', q4, q5⟩ := q
    simp only [am_wp, am_stp, am_en, am_as, am_pad, am_nth, am_set, am_st1, am_st2, am_kl, am_kill, am_mem, am_fv, am_tk, am_wt, am_bk, Option.toList, List.cons_append, List.nil_append, Nat.reduceAdd, Nat.reduceEqDiff, Nat.reduceLeDiff, reduceIte, Nat.reduceLT, or_self, true_or, or_true, if_true, if_false, and_self, and_true, true_and, not_false_eq_true, not_true_eq_false]
    refine am_go [75] 1 ?_
    simp only [am_wp, am_stp, am_en, am_as, am_pad, am_nth, am_set, am_st1, am_st2, am_kl, am_kill, am_mem, am_fv, am_tk, am_wt, am_bk, Option.toList, List.cons_append, List.nil_append, Nat.reduceAdd, Nat.reduceEqDiff, Nat.reduceLeDiff, reduceIte, Nat.reduceLT, or_self, true_or, or_true, if_true, if_false, and_self, and_true, true_and, not_false_eq_true, not_true_eq_false, fd_SR_many_74]
    rw [e1] at u1 hy hn
    exact mc_flush q4 S q3 q2 u1.1 u1.2 q5 hy hn
  · have e6 : (nI (up 0 (lvs Rs)) = 6) = False := eq_false (by
      rw [← el]
      exact fun e => c6 (by
        have e2 := congrArg Int32.toNatClampNeg e
        rw [nI_clamp (by omega), show (6 : Int32).toNatClampNeg = 6 by decide] at e2
        exact e2))
    have e1 : ar_1 P (ab Rs) = ab Rs := by unfold ar_1; rw [if_neg c6]
    refine am_go [75, 70] 2 ?_
    simp only [am_wp, am_stp, am_en, am_as, am_pad, am_nth, am_set, am_st1, am_st2, am_kl, am_kill, am_mem, am_fv, am_tk, am_wt, am_bk, Option.toList, List.cons_append, List.nil_append, Nat.reduceAdd, Nat.reduceEqDiff, Nat.reduceLeDiff, reduceIte, Nat.reduceLT, or_self, true_or, or_true, if_true, if_false, and_self, and_true, true_and, not_false_eq_true, not_true_eq_false, fd_SR_many_65, fd_SR_many_67, e6]
    rw [e1] at u1 hy hn
    exact mc_flush (k := 1) c S ⟨rfl, rfl, rfl⟩ (lf.refl.mono (by omega)) u1.1 u1.2 rfl hy hn
