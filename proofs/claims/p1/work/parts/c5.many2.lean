/-! THE LOOP OF many, THE REFERENCE'S SIDE -/
def rf_v : List Nat := rf_w ++ [74, 75, 76]
theorem rf_w_T {h h' : am_H} (f : am_fi rf_w h h') : am_L h' 74 = am_L h 74 ∧ am_I h' 75 = am_I h 75 ∧ am_L h' 76 = am_L h 76 :=
  ⟨f.2.2.2.2.2.2.2 74 (by decide), f.2.2.2.2.2.2.1 75 (by decide), f.2.2.2.2.2.2.2 76 (by decide)⟩
theorem rf_w_v {h h' : am_H} (f : am_fi rf_w h h') : am_fi rf_v h h' := f.sub (by decide)
theorem mr_in {d P n n0 i p : Nat} {Rs : List rn} {h : am_H} {kd : Int32} {fr st key : Int64} {t : Value} {Q : am_O → am_H → Prop} (c : rf_S P h n Rs) (S : ta_S n (am_L h 74) (am_I h 75) (am_L h 76)) (hk : kd ≠ 0) (hp : tb_P (am_L h 74) n key p) (hpl : n < 64 ∨ tb_H (am_L h 74) n p key = true) (hi : i < 1000)
    (hx : ∀ h', rf_S P h' (ta_n n (am_L h 74) p key) Rs → am_L h' 74 = ta_K n (am_L h 74) p key → am_I h' 75 = ta_N n (am_L h 74) (am_I h 75) p key kd → am_L h' 76 = ta_V n (am_L h 74) (am_I h 75) (am_L h 76) p key kd (nI i).toInt64 → am_fi rf_v h h' → am_I h' 72 0 = am_I h 72 0 →
      am_Ex nm_pr (d + 6) mt_Mo_many (57, [.ref 72, .int kd, .int (nI n0), .long fr, .retAddr 0, .long st, .retAddr 0, .long (key + st), .retAddr 0, .int (nI (i + 1)), t], [], h') Q) :
    am_Ex nm_pr (d + 6) mt_Mo_many (119, [.ref 72, .int kd, .int (nI n0), .long fr, .retAddr 0, .long st, .retAddr 0, .long key, .retAddr 0, .int (nI i), t], [], h) Q := by
  obtain ⟨hK, T, N⟩ := id c
  have k72 := hK.1.1
  refine am_go [] 6 ?_
  simp only [am_wp, am_stp, am_en, am_as, am_pad, am_nth, am_set, am_st1, am_st2, am_kl, am_kill, am_mem, am_fv, am_tk, am_wt, am_bk, Option.toList, List.cons_append, List.nil_append, Nat.reduceAdd, Nat.reduceEqDiff, Nat.reduceLeDiff, reduceIte, Nat.reduceLT, or_self, true_or, or_true, if_true, if_false, and_self, and_true, true_and, not_false_eq_true, not_true_eq_false, fd_Mo_many_119, fd_Mo_many_120, fd_Mo_many_122, fd_Mo_many_123, fd_Mo_many_125, fd_Mo_many_126, k72]
  refine am_call (l2_Mo_come (d := d + 4) T S.2.1 hk (fun p' hp' => by rw [hp'.uniq hp]; exact hpl)) (fun o h1 q => ?_)
  obtain ⟨p', hp', rfl, f, hj, hQ⟩ := q
  have e := hp'.uniq hp
  subst e
  simp only [am_wp, am_stp, am_en, am_as, am_pad, am_nth, am_set, am_st1, am_st2, am_kl, am_kill, am_mem, am_fv, am_tk, am_wt, am_bk, Option.toList, List.cons_append, List.nil_append, Nat.reduceAdd, Nat.reduceEqDiff, Nat.reduceLeDiff, reduceIte, Nat.reduceLT, or_self, true_or, or_true, if_true, if_false, and_self, and_true, true_and, not_false_eq_true, not_true_eq_false]
  refine am_go [57] 6 ?_
  simp only [am_wp, am_stp, am_en, am_as, am_pad, am_nth, am_set, am_st1, am_st2, am_kl, am_kill, am_mem, am_fv, am_tk, am_wt, am_bk, Option.toList, List.cons_append, List.nil_append, Nat.reduceAdd, Nat.reduceEqDiff, Nat.reduceLeDiff, reduceIte, Nat.reduceLT, or_self, true_or, or_true, if_true, if_false, and_self, and_true, true_and, not_false_eq_true, not_true_eq_false, fd_Mo_many_129, fd_Mo_many_131, fd_Mo_many_133, fd_Mo_many_134, fd_Mo_many_136, fd_Mo_many_139, nI_1]
  have hK' : rf_K P h1 := hK.mv f (hj 1 (by decide)) (hj 8 (by decide)) (hj 3 (by decide))
  have N' : nm_R P h1 Rs := N.fi f (hj 24 (by decide)) (by decide)
  refine hx h1 ?_ ?_ ?_ ?_ (f.sub (by decide)) (hj 0 (by decide))
  · unfold ta_n
    unfold co_Q at hQ
    cases hH : tb_H (am_L h 74) n p' key with
    | true => rw [hH] at hQ; exact ⟨hK', hQ.1, N'⟩
    | false => rw [hH] at hQ; exact ⟨hK', hQ.1, N'⟩
  · unfold ta_K
    unfold co_Q at hQ
    cases hH : tb_H (am_L h 74) n p' key with
    | true => rw [hH] at hQ; exact hQ.2.1
    | false => rw [hH] at hQ; exact hQ.2.1
  · unfold ta_N
    unfold co_Q at hQ
    cases hH : tb_H (am_L h 74) n p' key with
    | true => rw [hH] at hQ; exact hQ.2.2.1
    | false => rw [hH] at hQ; exact hQ.2.2.1
  · unfold ta_V
    unfold co_Q at hQ
    cases hH : tb_H (am_L h 74) n p' key with
    | true => rw [hH] at hQ; exact hQ.2.2.2
    | false => rw [hH] at hQ; exact hQ.2.2.2
/-- behind the flush -/
theorem mr_full {d P n0 i p : Nat} {Rs : List rn} {h : am_H} {kd : Int32} {fr st key : Int64} {x : Int32} {Q : am_O → am_H → Prop} (c : rf_S P h 64 Rs) (hO : tb_O (am_L h 74) 64) (hp : tb_P (am_L h 74) 64 key p) (hH : tb_H (am_L h 74) 64 p key = false) (hn : Q (.inl (some (.int (nI i)))) h) :
    am_Ex nm_pr (d + 6) mt_Mo_many (100, [.ref 72, .int kd, .int (nI n0), .long fr, .retAddr 0, .long st, .retAddr 0, .long key, .retAddr 0, .int (nI i), .int x], [], h) Q := by
  obtain ⟨hK, T, N⟩ := id c
  have k72 := hK.1.1
  have j3 := hK.2.2.2.1
  refine am_go [116] 6 ?_
  simp only [am_wp, am_stp, am_en, am_as, am_pad, am_nth, am_set, am_st1, am_st2, am_kl, am_kill, am_mem, am_fv, am_tk, am_wt, am_bk, Option.toList, List.cons_append, List.nil_append, Nat.reduceAdd, Nat.reduceEqDiff, Nat.reduceLeDiff, reduceIte, Nat.reduceLT, or_self, true_or, or_true, if_true, if_false, and_self, and_true, true_and, not_false_eq_true, not_true_eq_false, fd_Mo_many_100, fd_Mo_many_101, fd_Mo_many_104, fd_Mo_many_107, fd_Mo_many_108, fd_Mo_many_110, k72, j3]
  refine am_call (l2_Mo_hasPlace (d := d + 4) T hO) (fun o h1 q => ?_)
  obtain ⟨p', hp', rfl, rfl⟩ := q
  have e := hp'.uniq hp
  subst e
  have z : ¬ (64 < 64 ∨ tb_H (am_L h1 74) 64 p' key = true) := by rw [hH]; decide
  rw [if_neg z]
  simp only [am_wp, am_stp, am_en, am_as, am_pad, am_nth, am_set, am_st1, am_st2, am_kl, am_kill, am_mem, am_fv, am_tk, am_wt, am_bk, Option.toList, List.cons_append, List.nil_append, Nat.reduceAdd, Nat.reduceEqDiff, Nat.reduceLeDiff, reduceIte, Nat.reduceLT, or_self, true_or, or_true, if_true, if_false, and_self, and_true, true_and, not_false_eq_true, not_true_eq_false]
  refine am_go [119] 3 ?_
  simp only [am_wp, am_stp, am_en, am_as, am_pad, am_nth, am_set, am_st1, am_st2, am_kl, am_kill, am_mem, am_fv, am_tk, am_wt, am_bk, Option.toList, List.cons_append, List.nil_append, Nat.reduceAdd, Nat.reduceEqDiff, Nat.reduceLeDiff, reduceIte, Nat.reduceLT, or_self, true_or, or_true, if_true, if_false, and_self, and_true, true_and, not_false_eq_true, not_true_eq_false, fd_Mo_many_113, fd_Mo_many_116, fd_Mo_many_118]
  exact hn
theorem mr_none {d P n0 i : Nat} {Rs : List rn} {h : am_H} {kd : Int32} {fr st key : Int64} {x : Int32} {Q : am_O → am_H → Prop} (c : rf_S P h 0 Rs)
    (hy : am_Ex nm_pr (d + 6) mt_Mo_many (119, [.ref 72, .int kd, .int (nI n0), .long fr, .retAddr 0, .long st, .retAddr 0, .long key, .retAddr 0, .int (nI i), .int x], [], h) Q) :
    am_Ex nm_pr (d + 6) mt_Mo_many (100, [.ref 72, .int kd, .int (nI n0), .long fr, .retAddr 0, .long st, .retAddr 0, .long key, .retAddr 0, .int (nI i), .int x], [], h) Q := by
  obtain ⟨hK, T, N⟩ := id c
  have k72 := hK.1.1
  have j3 := hK.2.2.2.1
  have one0 : ¬ (1 : Int32) = 0 := by decide
  refine am_go [116] 6 ?_
  simp only [am_wp, am_stp, am_en, am_as, am_pad, am_nth, am_set, am_st1, am_st2, am_kl, am_kill, am_mem, am_fv, am_tk, am_wt, am_bk, Option.toList, List.cons_append, List.nil_append, Nat.reduceAdd, Nat.reduceEqDiff, Nat.reduceLeDiff, reduceIte, Nat.reduceLT, or_self, true_or, or_true, if_true, if_false, and_self, and_true, true_and, not_false_eq_true, not_true_eq_false, fd_Mo_many_100, fd_Mo_many_101, fd_Mo_many_104, fd_Mo_many_107, fd_Mo_many_108, fd_Mo_many_110, k72, j3]
  refine am_call (l2_Mo_hasPlace (d := d + 4) T (fun i j _ hj => by omega)) (fun o h1 q => ?_)
  obtain ⟨p', hp', rfl, rfl⟩ := q
  simp only [if_pos (show 0 < 64 ∨ tb_H (am_L h1 74) 0 p' key = true from Or.inl (by decide)), am_wp, am_stp, am_en, am_as, am_pad, am_nth, am_set, am_st1, am_st2, am_kl, am_kill, am_mem, am_fv, am_tk, am_wt, am_bk, Option.toList, List.cons_append, List.nil_append, Nat.reduceAdd, Nat.reduceEqDiff, Nat.reduceLeDiff, reduceIte, Nat.reduceLT, or_self, true_or, or_true, if_true, if_false, and_self, and_true, true_and, not_false_eq_true, not_true_eq_false]
  refine am_go [119] 1 ?_
  simp only [am_wp, am_stp, am_en, am_as, am_pad, am_nth, am_set, am_st1, am_st2, am_kl, am_kill, am_mem, am_fv, am_tk, am_wt, am_bk, Option.toList, List.cons_append, List.nil_append, Nat.reduceAdd, Nat.reduceEqDiff, Nat.reduceLeDiff, reduceIte, Nat.reduceLT, or_self, true_or, or_true, if_true, if_false, and_self, and_true, true_and, not_false_eq_true, not_true_eq_false, fd_Mo_many_113, one0]
  exact hy
theorem mr_flush {d P n0 i p : Nat} {As : List ar} {Rs : List rn} {h0 h : am_H} {kd : Int32} {fr st key : Int64} {t : Value} {Q : am_O → am_H → Prop} (c : rf_S P h 64 Rs) (S : ta_S 64 (am_L h0 74) (am_I h0 75) (am_L h0 76)) (hp : tb_P (am_L h0 74) 64 key p) (hH : tb_H (am_L h0 74) 64 p key = false) (f0 : am_fi rf_w h0 h) (e0 : am_I h 72 0 = am_I h0 72 0) (hv : lv_ok 0 (alv As)) (h6 : up 0 (alv As) ≤ 6) (ea : ab Rs = As)
    (hy : up 0 (alv As) < 6 ∧ npg (tf (am_L h0 74) (am_I h0 75) (am_L h0 76) 0 64) + apg As ≤ P - 2 → ∀ (h' : am_H) (Rs' : List rn) (t : Value), rf_S P h' 0 Rs' → ab Rs' = (0, tf (am_L h0 74) (am_I h0 75) (am_L h0 76) 0 64) :: As → am_fi rf_w h0 h' → am_I h' 72 0 = am_I h0 72 0 →
      am_Ex nm_pr (d + 6) mt_Mo_many (119, [.ref 72, .int kd, .int (nI n0), .long fr, .retAddr 0, .long st, .retAddr 0, .long key, .retAddr 0, .int (nI i), t], [], h') Q)
    (hn : ¬ (up 0 (alv As) < 6 ∧ npg (tf (am_L h0 74) (am_I h0 75) (am_L h0 76) 0 64) + apg As ≤ P - 2) → ∀ h', am_fi rf_w h0 h' → am_I h' 72 0 = am_I h0 72 0 → Q (.inl (some (.int (nI i)))) h') :
    am_Ex nm_pr (d + 6) mt_Mo_many (87, [.ref 72, .int kd, .int (nI n0), .long fr, .retAddr 0, .long st, .retAddr 0, .long key, .retAddr 0, .int (nI i), t], [], h) Q := by
  obtain ⟨hK, T, N⟩ := id c
  have k72 := hK.1.1
  have j3 := hK.2.2.2.1
  obtain ⟨t1, t2, t3⟩ := rf_w_T f0
  have eT : tf (am_L h 74) (am_I h 75) (am_L h 76) 0 64 = tf (am_L h0 74) (am_I h0 75) (am_L h0 76) 0 64 := by rw [t1, t2, t3]
  have hsT : so (tf (am_L h 74) (am_I h 75) (am_L h 76) 0 64) := by rw [eT]; exact tf_so S.2.1 64 0 (by omega)
  have hoT : ∀ e ∈ tf (am_L h 74) (am_I h 75) (am_L h 76) 0 64, eo e := fun e he => by
    rw [eT] at he
    obtain ⟨j, -, j2, j3⟩ := tf_mem 64 0 e he
    rw [j3]
    exact S.2.2 j (by omega)
  have ep : apg As = (pgs Rs).length := by rw [← ea]; exact apg_rm N.all
  have el : alv As = lvs Rs := by rw [← ea]; exact alv_ab Rs
  refine am_go [100] 5 ?_
  simp only [am_wp, am_stp, am_en, am_as, am_pad, am_nth, am_set, am_st1, am_st2, am_kl, am_kill, am_mem, am_fv, am_tk, am_wt, am_bk, Option.toList, List.cons_append, List.nil_append, Nat.reduceAdd, Nat.reduceEqDiff, Nat.reduceLeDiff, reduceIte, Nat.reduceLT, or_self, true_or, or_true, if_true, if_false, and_self, and_true, true_and, not_false_eq_true, not_true_eq_false, fd_Mo_many_87, fd_Mo_many_88, fd_Mo_many_91, fd_Mo_many_94, fd_Mo_many_95, k72, j3]
  by_cases c6 : up 0 (alv As) < 6
  · have hl : Rs.length < 9 := by
      have := lv_len0 (alv As) hv
      rw [el] at this c6
      have e : (lvs Rs).length = Rs.length := by simp [lvs]
      omega
    refine am_call (l2_flushNow (d := d) c (by decide) hsT hoT (by rw [← el]; exact c6) hl) (fun o h1 q => ?_)
    obtain ⟨⟨x, rfl⟩, q1, q2, q3⟩ := q
    have f1 := f0.trans q1
    have e1 := q2.trans e0
    simp only [am_wp, am_stp, am_en, am_as, am_pad, am_nth, am_set, am_st1, am_st2, am_kl, am_kill, am_mem, am_fv, am_tk, am_wt, am_bk, Option.toList, List.cons_append, List.nil_append, Nat.reduceAdd, Nat.reduceEqDiff, Nat.reduceLeDiff, reduceIte, Nat.reduceLT, or_self, true_or, or_true, if_true, if_false, and_self, and_true, true_and, not_false_eq_true, not_true_eq_false]
    refine am_go [100] 1 ?_
    simp only [am_wp, am_stp, am_en, am_as, am_pad, am_nth, am_set, am_st1, am_st2, am_kl, am_kill, am_mem, am_fv, am_tk, am_wt, am_bk, Option.toList, List.cons_append, List.nil_append, Nat.reduceAdd, Nat.reduceEqDiff, Nat.reduceLeDiff, reduceIte, Nat.reduceLT, or_self, true_or, or_true, if_true, if_false, and_self, and_true, true_and, not_false_eq_true, not_true_eq_false, fd_Mo_many_98]
    rcases q3 with ⟨q4, s, ps, q5, q6⟩ | ⟨q4, q5⟩
    · refine mr_none q5 (hy ⟨c6, ?_⟩ h1 _ _ q5 ?_ f1 e1)
      · rw [← eT, ep]; exact q4
      · rw [← ea, ← eT, ← q6]; rfl
    · obtain ⟨u1, -, -⟩ := rf_w_T f1
      refine mr_full (p := p) q5 (by rw [u1]; exact S.2.1) (by rw [u1]; exact hp) (by rw [u1]; exact hH) (hn (fun q => ?_) h1 f1 e1)
      rw [← eT, ep] at q
      omega
  · refine am_call (l2_flushNow6 (d := d) c (by decide) (by rw [← el]; omega)) (fun o h1 q => ?_)
    obtain ⟨⟨x, rfl⟩, rfl⟩ := q
    simp only [am_wp, am_stp, am_en, am_as, am_pad, am_nth, am_set, am_st1, am_st2, am_kl, am_kill, am_mem, am_fv, am_tk, am_wt, am_bk, Option.toList, List.cons_append, List.nil_append, Nat.reduceAdd, Nat.reduceEqDiff, Nat.reduceLeDiff, reduceIte, Nat.reduceLT, or_self, true_or, or_true, if_true, if_false, and_self, and_true, true_and, not_false_eq_true, not_true_eq_false]
    refine am_go [100] 1 ?_
    simp only [am_wp, am_stp, am_en, am_as, am_pad, am_nth, am_set, am_st1, am_st2, am_kl, am_kill, am_mem, am_fv, am_tk, am_wt, am_bk, Option.toList, List.cons_append, List.nil_append, Nat.reduceAdd, Nat.reduceEqDiff, Nat.reduceLeDiff, reduceIte, Nat.reduceLT, or_self, true_or, or_true, if_true, if_false, and_self, and_true, true_and, not_false_eq_true, not_true_eq_false, fd_Mo_many_98]
    exact mr_full (p := p) c (by rw [t1]; exact S.2.1) (by rw [t1]; exact hp) (by rw [t1]; exact hH) (hn (fun q => c6 q.1) h1 f0 e0)
theorem mr_room {d P n0 i p : Nat} {Rs : List rn} {h : am_H} {kd : Int32} {fr st key : Int64} {t : Value} {Q : am_O → am_H → Prop} (c : rf_S P h 64 Rs) (S : ta_S 64 (am_L h 74) (am_I h 75) (am_L h 76)) (hp : tb_P (am_L h 74) 64 key p) (hH : tb_H (am_L h 74) 64 p key = false) (hv : lv_ok 0 (alv (ab Rs))) (h6 : up 0 (alv (ab Rs)) ≤ 6) (hen : aen (ab Rs) < 30000)
    (hy : ar_ok P (ab Rs) (tf (am_L h 74) (am_I h 75) (am_L h 76) 0 64) → ∀ (h' : am_H) (Rs' : List rn) (t : Value), rf_S P h' 0 Rs' → ab Rs' = (0, tf (am_L h 74) (am_I h 75) (am_L h 76) 0 64) :: ar_1 P (ab Rs) → am_fi rf_w h h' → am_I h' 72 0 = am_I h 72 0 →
      am_Ex nm_pr (d + 6) mt_Mo_many (119, [.ref 72, .int kd, .int (nI n0), .long fr, .retAddr 0, .long st, .retAddr 0, .long key, .retAddr 0, .int (nI i), t], [], h') Q)
    (hn : ¬ ar_ok P (ab Rs) (tf (am_L h 74) (am_I h 75) (am_L h 76) 0 64) → ∀ h', am_fi rf_w h h' → am_I h' 72 0 = am_I h 72 0 → Q (.inl (some (.int (nI i)))) h') :
    am_Ex nm_pr (d + 6) mt_Mo_many (72, [.ref 72, .int kd, .int (nI n0), .long fr, .retAddr 0, .long st, .retAddr 0, .long key, .retAddr 0, .int (nI i), t], [], h) Q := by
  obtain ⟨hK, T, N⟩ := id c
  have k72 := hK.1.1
  have u1 := ar_1_up (P := P) hv h6
  unfold ar_ok at hy hn
  refine am_go [] 2 ?_
  simp only [am_wp, am_stp, am_en, am_as, am_pad, am_nth, am_set, am_st1, am_st2, am_kl, am_kill, am_mem, am_fv, am_tk, am_wt, am_bk, Option.toList, List.cons_append, List.nil_append, Nat.reduceAdd, Nat.reduceEqDiff, Nat.reduceLeDiff, reduceIte, Nat.reduceLT, or_self, true_or, or_true, if_true, if_false, and_self, and_true, true_and, not_false_eq_true, not_true_eq_false, fd_Mo_many_72, fd_Mo_many_73, k72]
  refine am_call (l2_level0 (d := d + 5) hK.1 N) (fun o h1 q => ?_)
  obtain ⟨rfl, rfl⟩ := q
  simp only [am_wp, am_stp, am_en, am_as, am_pad, am_nth, am_set, am_st1, am_st2, am_kl, am_kill, am_mem, am_fv, am_tk, am_wt, am_bk, Option.toList, List.cons_append, List.nil_append, Nat.reduceAdd, Nat.reduceEqDiff, Nat.reduceLeDiff, reduceIte, Nat.reduceLT, or_self, true_or, or_true, if_true, if_false, and_self, and_true, true_and, not_false_eq_true, not_true_eq_false]
  have el := alv_ab Rs
  by_cases c6 : up 0 (alv (ab Rs)) = 6
  · have e6 : (nI (up 0 (lvs Rs)) = 6) = True := eq_true (by rw [← el, c6]; rfl)
    have e1 : ar_1 P (ab Rs) = amerge P (ab Rs) := by unfold ar_1; rw [if_pos c6]
    refine am_go [87, 81] 2 ?_
    simp only [am_wp, am_stp, am_en, am_as, am_pad, am_nth, am_set, am_st1, am_st2, am_kl, am_kill, am_mem, am_fv, am_tk, am_wt, am_bk, Option.toList, List.cons_append, List.nil_append, Nat.reduceAdd, Nat.reduceEqDiff, Nat.reduceLeDiff, reduceIte, Nat.reduceLT, or_self, true_or, or_true, if_true, if_false, and_self, and_true, true_and, not_false_eq_true, not_true_eq_false, fd_Mo_many_76, fd_Mo_many_78, e6]
    refine am_go [] 2 ?_
    simp only [am_wp, am_stp, am_en, am_as, am_pad, am_nth, am_set, am_st1, am_st2, am_kl, am_kill, am_mem, am_fv, am_tk, am_wt, am_bk, Option.toList, List.cons_append, List.nil_append, Nat.reduceAdd, Nat.reduceEqDiff, Nat.reduceLeDiff, reduceIte, Nat.reduceLT, or_self, true_or, or_true, if_true, if_false, and_self, and_true, true_and, not_false_eq_true, not_true_eq_false, fd_Mo_many_81, fd_Mo_many_82, k72]
    refine am_call (l2_mergeNow (d := d) c (by rw [← el]; omega) hen) (fun o h2 q => ?_)
    obtain ⟨⟨x, rfl⟩, q2, q3, Rs', q4, q5⟩ := q
    simp only [am_wp, am_stp, am_en, am_as, am_pad, am_nth, am_set, am_st1, am_st2, am_kl, am_kill, am_mem, am_fv, am_tk, am_wt, am_bk, Option.toList, List.cons_append, List.nil_append, Nat.reduceAdd, Nat.reduceEqDiff, Nat.reduceLeDiff, reduceIte, Nat.reduceLT, or_self, true_or, or_true, if_true, if_false, and_self, and_true, true_and, not_false_eq_true, not_true_eq_false]
    refine am_go [87] 1 ?_
    simp only [am_wp, am_stp, am_en, am_as, am_pad, am_nth, am_set, am_st1, am_st2, am_kl, am_kill, am_mem, am_fv, am_tk, am_wt, am_bk, Option.toList, List.cons_append, List.nil_append, Nat.reduceAdd, Nat.reduceEqDiff, Nat.reduceLeDiff, reduceIte, Nat.reduceLT, or_self, true_or, or_true, if_true, if_false, and_self, and_true, true_and, not_false_eq_true, not_true_eq_false, fd_Mo_many_85]
    rw [e1] at u1 hy hn
    exact mr_flush q4 S hp hH q2 q3 u1.1 u1.2 q5 hy hn
  · have e6 : (nI (up 0 (lvs Rs)) = 6) = False := eq_false (fun q => by
      have q : nI (up 0 (lvs Rs)) = nI 6 := q
      rw [nI_eq (by rw [← el]; omega) (by omega), ← el] at q
      exact c6 q)
    have e1 : ar_1 P (ab Rs) = ab Rs := by unfold ar_1; rw [if_neg c6]
    refine am_go [87, 81] 2 ?_
    simp only [am_wp, am_stp, am_en, am_as, am_pad, am_nth, am_set, am_st1, am_st2, am_kl, am_kill, am_mem, am_fv, am_tk, am_wt, am_bk, Option.toList, List.cons_append, List.nil_append, Nat.reduceAdd, Nat.reduceEqDiff, Nat.reduceLeDiff, reduceIte, Nat.reduceLT, or_self, true_or, or_true, if_true, if_false, and_self, and_true, true_and, not_false_eq_true, not_true_eq_false, fd_Mo_many_76, fd_Mo_many_78, e6]
    rw [e1] at u1 hy hn
    exact mr_flush c S hp hH am_fi.refl rfl u1.1 u1.2 rfl hy hn
