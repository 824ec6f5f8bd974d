/-! THE TWO LOOPS OF many GIVE ONE ANSWER -/
theorem aen_cons (a : ar) (As : List ar) : aen (a :: As) = a.2.length + aen As := by
  unfold aen
  rw [List.map_cons, List.sum_cons]
theorem alv_cons (a : ar) (As : List ar) : alv (a :: As) = a.1 :: alv As := rfl
theorem up_cons0 (ls : List Nat) : up 0 (0 :: ls) = up 0 ls + 1 := by
  show (if 0 ≤ 0 then up 0 ls + 1 else 0) = _
  rw [if_pos (Nat.le_refl _)]
def mn_R (P n0 m i n r : Nat) (kd : Int32) (fr st key : Int64) (K : Nat → Int64) (N : Nat → Int32) (V : Nat → Int64) (As : List ar) : Prop :=
  (∀ (d : Nat) (h : am_H) (Rs : List rn), cl_S P h n Rs → ab Rs = As → am_L h 4 = K → am_I h 5 = N → am_L h 6 = V →
    am_Ex nm_pr (d + 8) mt_SR_many (39, [.ref 2, .int kd, .int (nI n0), .long fr, .retAddr 0, .long st, .retAddr 0, .long key, .retAddr 0, .int (nI i)], [], h) (fun o h' => o = .inl (some (.int (nI r))) ∧ lf (2 * m) h h')) ∧
  (∀ (d : Nat) (h : am_H) (Rs : List rn) (t : Value), rf_S P h n Rs → ab Rs = As → am_L h 74 = K → am_I h 75 = N → am_L h 76 = V →
    am_Ex nm_pr (d + 6) mt_Mo_many (57, [.ref 72, .int kd, .int (nI n0), .long fr, .retAddr 0, .long st, .retAddr 0, .long key, .retAddr 0, .int (nI i), t], [], h) (fun o h' => o = .inl (some (.int (nI r))) ∧ am_fi rf_v h h' ∧ am_I h' 72 0 = am_I h 72 0))
theorem mn_both {P n0 : Nat} {kd : Int32} {fr st : Int64} (hn0 : n0 ≤ 1000) (hk : kd = 1 ∨ kd = 2 ∨ kd = 3) : ∀ (m i : Nat), i + m = n0 → ∀ (key : Int64) (n : Nat) (K : Nat → Int64) (N : Nat → Int32) (V : Nat → Int64) (As : List ar), ta_S n K N V → lv_ok 0 (alv As) → up 0 (alv As) ≤ 6 → aen As + n ≤ i → ∃ r, mn_R P n0 m i n r kd fr st key K N V As
  | 0, i, hm, key, n, K, N, V, As, S, hv, h6, hen => by
    have e : i = n0 := by omega
    subst e
    have l1 : ¬ nI i < nI i := nI_nlt (Nat.le_refl _) (by omega)
    refine ⟨i, fun d h Rs c _ _ _ _ => ?_, fun d h Rs t c _ _ _ _ => ?_⟩
    · refine am_go [45] 5 ?_
      simp only [am_wp, am_stp, am_en, am_as, am_pad, am_nth, am_set, am_st1, am_st2, am_kl, am_kill, am_mem, am_fv, am_tk, am_wt, am_bk, Option.toList, List.cons_append, List.nil_append, Nat.reduceAdd, Nat.reduceEqDiff, Nat.reduceLeDiff, reduceIte, Nat.reduceLT, or_self, true_or, or_true, if_true, if_false, and_self, and_true, true_and, not_false_eq_true, not_true_eq_false, fd_SR_many_39, fd_SR_many_41, fd_SR_many_42, fd_SR_many_119, fd_SR_many_120, l1]
      exact lf.refl
    · refine am_go [63] 5 ?_
      simp only [am_wp, am_stp, am_en, am_as, am_pad, am_nth, am_set, am_st1, am_st2, am_kl, am_kill, am_mem, am_fv, am_tk, am_wt, am_bk, Option.toList, List.cons_append, List.nil_append, Nat.reduceAdd, Nat.reduceEqDiff, Nat.reduceLeDiff, reduceIte, Nat.reduceLT, or_self, true_or, or_true, if_true, if_false, and_self, and_true, true_and, not_false_eq_true, not_true_eq_false, fd_Mo_many_57, fd_Mo_many_59, fd_Mo_many_60, fd_Mo_many_142, fd_Mo_many_143, l1]
      exact am_fi.refl
  | m + 1, i, hm, key, n, K, N, V, As, S, hv, h6, hen => by
    have l1 : nI i < nI n0 := nI_lt (by omega) (by omega)
    have kd0 : kd ≠ 0 := by rcases hk with e | e | e <;> subst e <;> decide
    have one0 : ¬ (1 : Int32) = 0 := by decide
    obtain ⟨p, hp⟩ := tb_P_ex K key n S.2.1
    by_cases hpl : n < 64 ∨ tb_H K n p key = true
    · -- there is a place
      obtain ⟨S', n'⟩ := ta_step (vl := (nI i).toInt64) S hk hp hpl
      obtain ⟨r, A, B⟩ := mn_both (fr := fr) (st := st) hn0 hk m (i + 1) (by omega) (key + st) _ _ _ _ As S' hv h6 (by omega)
      refine ⟨r, fun d h Rs c ea eK eN eV => ?_, fun d h Rs t c ea eK eN eV => ?_⟩
      · obtain ⟨hK, T, Nn, F, h9⟩ := id c
        obtain ⟨⟨k2, r0, r1, rr2, r3, r5, r8⟩, -⟩ := id hK
        subst eK
        subst eN
        subst eV
        refine am_go [45, 119] 3 ?_
        simp only [am_wp, am_stp, am_en, am_as, am_pad, am_nth, am_set, am_st1, am_st2, am_kl, am_kill, am_mem, am_fv, am_tk, am_wt, am_bk, Option.toList, List.cons_append, List.nil_append, Nat.reduceAdd, Nat.reduceEqDiff, Nat.reduceLeDiff, reduceIte, Nat.reduceLT, or_self, true_or, or_true, if_true, if_false, and_self, and_true, true_and, not_false_eq_true, not_true_eq_false, fd_SR_many_39, fd_SR_many_41, fd_SR_many_42, l1]
        refine am_go [] 4 ?_
        simp only [am_wp, am_stp, am_en, am_as, am_pad, am_nth, am_set, am_st1, am_st2, am_kl, am_kill, am_mem, am_fv, am_tk, am_wt, am_bk, Option.toList, List.cons_append, List.nil_append, Nat.reduceAdd, Nat.reduceEqDiff, Nat.reduceLeDiff, reduceIte, Nat.reduceLT, or_self, true_or, or_true, if_true, if_false, and_self, and_true, true_and, not_false_eq_true, not_true_eq_false, fd_SR_many_45, fd_SR_many_46, fd_SR_many_49, fd_SR_many_51, k2, rr2, T.1]
        refine am_call (l2_hasPlaceFor (d := d + 6) T S.2.1) (fun o h1 q => ?_)
        obtain ⟨p', hp', rfl, rfl⟩ := q
        rw [hp'.uniq hp, if_pos hpl]
        simp only [am_wp, am_stp, am_en, am_as, am_pad, am_nth, am_set, am_st1, am_st2, am_kl, am_kill, am_mem, am_fv, am_tk, am_wt, am_bk, Option.toList, List.cons_append, List.nil_append, Nat.reduceAdd, Nat.reduceEqDiff, Nat.reduceLeDiff, reduceIte, Nat.reduceLT, or_self, true_or, or_true, if_true, if_false, and_self, and_true, true_and, not_false_eq_true, not_true_eq_false]
        refine am_go [57, 93] 1 ?_
        simp only [am_wp, am_stp, am_en, am_as, am_pad, am_nth, am_set, am_st1, am_st2, am_kl, am_kill, am_mem, am_fv, am_tk, am_wt, am_bk, Option.toList, List.cons_append, List.nil_append, Nat.reduceAdd, Nat.reduceEqDiff, Nat.reduceLeDiff, reduceIte, Nat.reduceLT, or_self, true_or, or_true, if_true, if_false, and_self, and_true, true_and, not_false_eq_true, not_true_eq_false, fd_SR_many_54, one0]
        refine mc_in c S hp hpl (by omega) (fun h' c' a1 a2 a3 l0 => am_Ex_mono (fun o h2 q => ?_) (A d h' Rs c' ea a1 a2 a3))
        exact ⟨q.1, (l0.trans q.2).mono (by omega)⟩
      · obtain ⟨hK, T, Nn⟩ := id c
        have k72 := hK.1.1
        subst eK
        subst eN
        subst eV
        refine am_go [63, 142] 3 ?_
        simp only [am_wp, am_stp, am_en, am_as, am_pad, am_nth, am_set, am_st1, am_st2, am_kl, am_kill, am_mem, am_fv, am_tk, am_wt, am_bk, Option.toList, List.cons_append, List.nil_append, Nat.reduceAdd, Nat.reduceEqDiff, Nat.reduceLeDiff, reduceIte, Nat.reduceLT, or_self, true_or, or_true, if_true, if_false, and_self, and_true, true_and, not_false_eq_true, not_true_eq_false, fd_Mo_many_57, fd_Mo_many_59, fd_Mo_many_60, l1]
        refine am_go [] 3 ?_
        simp only [am_wp, am_stp, am_en, am_as, am_pad, am_nth, am_set, am_st1, am_st2, am_kl, am_kill, am_mem, am_fv, am_tk, am_wt, am_bk, Option.toList, List.cons_append, List.nil_append, Nat.reduceAdd, Nat.reduceEqDiff, Nat.reduceLeDiff, reduceIte, Nat.reduceLT, or_self, true_or, or_true, if_true, if_false, and_self, and_true, true_and, not_false_eq_true, not_true_eq_false, fd_Mo_many_63, fd_Mo_many_64, fd_Mo_many_66, k72]
        refine am_call (l2_Mo_hasPlace (d := d + 4) T S.2.1) (fun o h1 q => ?_)
        obtain ⟨p', hp', rfl, rfl⟩ := q
        rw [hp'.uniq hp, if_pos hpl]
        simp only [am_wp, am_stp, am_en, am_as, am_pad, am_nth, am_set, am_st1, am_st2, am_kl, am_kill, am_mem, am_fv, am_tk, am_wt, am_bk, Option.toList, List.cons_append, List.nil_append, Nat.reduceAdd, Nat.reduceEqDiff, Nat.reduceLeDiff, reduceIte, Nat.reduceLT, or_self, true_or, or_true, if_true, if_false, and_self, and_true, true_and, not_false_eq_true, not_true_eq_false]
        refine am_go [72, 119] 1 ?_
        simp only [am_wp, am_stp, am_en, am_as, am_pad, am_nth, am_set, am_st1, am_st2, am_kl, am_kill, am_mem, am_fv, am_tk, am_wt, am_bk, Option.toList, List.cons_append, List.nil_append, Nat.reduceAdd, Nat.reduceEqDiff, Nat.reduceLeDiff, reduceIte, Nat.reduceLT, or_self, true_or, or_true, if_true, if_false, and_self, and_true, true_and, not_false_eq_true, not_true_eq_false, fd_Mo_many_69, one0]
        refine mr_in c S kd0 hp hpl (by omega) (fun h' c' a1 a2 a3 f0 e0 => am_Ex_mono (fun o h2 q => ?_) (B d h' Rs t c' ea a1 a2 a3))
        exact ⟨q.1, f0.trans q.2.1, q.2.2.trans e0⟩
    · -- there is none
      have n64 : n = 64 := by
        have := S.1
        have : ¬ n < 64 := fun q => hpl (Or.inl q)
        omega
      subst n64
      have hH : tb_H K 64 p key = false := by
        cases e : tb_H K 64 p key with
        | true => exact absurd (Or.inr e) hpl
        | false => rfl
      have u1 := ar_1_up (P := P) hv h6
      have u2 := ar_1_len P As
      have tlen : (tf K N V 0 64).length = 64 := tf_len _ _ _ _ _
      by_cases ok : ar_ok P As (tf K N V 0 64)
      · have S0 : ta_S 0 K N V := ⟨by omega, fun i j _ hj => by omega, fun i hi => by omega⟩
        have hp0 : tb_P K 0 key 0 := ⟨Nat.le_refl _, fun i hi => by omega, fun i _ hi => by omega⟩
        have hpl0 : 0 < 64 ∨ tb_H K 0 0 key = true := Or.inl (by decide)
        obtain ⟨S', n'⟩ := ta_step (vl := (nI i).toInt64) S0 hk hp0 hpl0
        obtain ⟨r, A, B⟩ := mn_both (fr := fr) (st := st) hn0 hk m (i + 1) (by omega) (key + st) _ _ _ _ ((0, tf K N V 0 64) :: ar_1 P As) S' ⟨Or.inl ⟨rfl, rfl⟩, Nat.zero_le _, u1.1⟩ (by rw [alv_cons, up_cons0]; have := ok.1; omega) (by rw [aen_cons]; simp only [tlen]; omega)
        refine ⟨r, fun d h Rs c ea eK eN eV => ?_, fun d h Rs t c ea eK eN eV => ?_⟩
        · obtain ⟨hK, T, Nn, F, h9⟩ := id c
          obtain ⟨⟨k2, r0, r1, rr2, r3, r5, r8⟩, -⟩ := id hK
          subst eK
          subst eN
          subst eV
          subst ea
          refine am_go [45, 119] 3 ?_
          simp only [am_wp, am_stp, am_en, am_as, am_pad, am_nth, am_set, am_st1, am_st2, am_kl, am_kill, am_mem, am_fv, am_tk, am_wt, am_bk, Option.toList, List.cons_append, List.nil_append, Nat.reduceAdd, Nat.reduceEqDiff, Nat.reduceLeDiff, reduceIte, Nat.reduceLT, or_self, true_or, or_true, if_true, if_false, and_self, and_true, true_and, not_false_eq_true, not_true_eq_false, fd_SR_many_39, fd_SR_many_41, fd_SR_many_42, l1]
          refine am_go [] 4 ?_
          simp only [am_wp, am_stp, am_en, am_as, am_pad, am_nth, am_set, am_st1, am_st2, am_kl, am_kill, am_mem, am_fv, am_tk, am_wt, am_bk, Option.toList, List.cons_append, List.nil_append, Nat.reduceAdd, Nat.reduceEqDiff, Nat.reduceLeDiff, reduceIte, Nat.reduceLT, or_self, true_or, or_true, if_true, if_false, and_self, and_true, true_and, not_false_eq_true, not_true_eq_false, fd_SR_many_45, fd_SR_many_46, fd_SR_many_49, fd_SR_many_51, k2, rr2, T.1]
          refine am_call (l2_hasPlaceFor (d := d + 6) T S.2.1) (fun o h1 q => ?_)
          obtain ⟨p', hp', rfl, rfl⟩ := q
          rw [hp'.uniq hp, if_neg hpl]
          simp only [am_wp, am_stp, am_en, am_as, am_pad, am_nth, am_set, am_st1, am_st2, am_kl, am_kill, am_mem, am_fv, am_tk, am_wt, am_bk, Option.toList, List.cons_append, List.nil_append, Nat.reduceAdd, Nat.reduceEqDiff, Nat.reduceLeDiff, reduceIte, Nat.reduceLT, or_self, true_or, or_true, if_true, if_false, and_self, and_true, true_and, not_false_eq_true, not_true_eq_false]
          refine am_go [57, 93] 1 ?_
          simp only [am_wp, am_stp, am_en, am_as, am_pad, am_nth, am_set, am_st1, am_st2, am_kl, am_kill, am_mem, am_fv, am_tk, am_wt, am_bk, Option.toList, List.cons_append, List.nil_append, Nat.reduceAdd, Nat.reduceEqDiff, Nat.reduceLeDiff, reduceIte, Nat.reduceLT, or_self, true_or, or_true, if_true, if_false, and_self, and_true, true_and, not_false_eq_true, not_true_eq_false, fd_SR_many_54]
          refine mc_room c S hv h6 (by omega) (fun _ h2 Rs2 c2 ea2 E2 L2 => ?_) (fun q => absurd ok q)
          refine mc_in c2 (by rw [E2.1, E2.2.1, E2.2.2]; exact S0) (by rw [E2.1]; exact hp0) (Or.inl (by decide)) (by omega) (fun h' c' a1 a2 a3 l0 => ?_)
          rw [E2.1] at c' a1
          rw [E2.1, E2.2.1] at a2
          rw [E2.1, E2.2.1, E2.2.2] at a3
          refine am_Ex_mono (fun o h3 q => ?_) (A d h' Rs2 c' ea2 a1 a2 a3)
          exact ⟨q.1, ((L2.trans l0).trans q.2).mono (by omega)⟩
        · obtain ⟨hK, T, Nn⟩ := id c
          have k72 := hK.1.1
          subst eK
          subst eN
          subst eV
          subst ea
          refine am_go [63, 142] 3 ?_
          simp only [am_wp, am_stp, am_en, am_as, am_pad, am_nth, am_set, am_st1, am_st2, am_kl, am_kill, am_mem, am_fv, am_tk, am_wt, am_bk, Option.toList, List.cons_append, List.nil_append, Nat.reduceAdd, Nat.reduceEqDiff, Nat.reduceLeDiff, reduceIte, Nat.reduceLT, or_self, true_or, or_true, if_true, if_false, and_self, and_true, true_and, not_false_eq_true, not_true_eq_false, fd_Mo_many_57, fd_Mo_many_59, fd_Mo_many_60, l1]
          refine am_go [] 3 ?_
          simp only [am_wp, am_stp, am_en, am_as, am_pad, am_nth, am_set, am_st1, am_st2, am_kl, am_kill, am_mem, am_fv, am_tk, am_wt, am_bk, Option.toList, List.cons_append, List.nil_append, Nat.reduceAdd, Nat.reduceEqDiff, Nat.reduceLeDiff, reduceIte, Nat.reduceLT, or_self, true_or, or_true, if_true, if_false, and_self, and_true, true_and, not_false_eq_true, not_true_eq_false, fd_Mo_many_63, fd_Mo_many_64, fd_Mo_many_66, k72]
          refine am_call (l2_Mo_hasPlace (d := d + 4) T S.2.1) (fun o h1 q => ?_)
          obtain ⟨p', hp', rfl, rfl⟩ := q
          rw [hp'.uniq hp, if_neg hpl]
          simp only [am_wp, am_stp, am_en, am_as, am_pad, am_nth, am_set, am_st1, am_st2, am_kl, am_kill, am_mem, am_fv, am_tk, am_wt, am_bk, Option.toList, List.cons_append, List.nil_append, Nat.reduceAdd, Nat.reduceEqDiff, Nat.reduceLeDiff, reduceIte, Nat.reduceLT, or_self, true_or, or_true, if_true, if_false, and_self, and_true, true_and, not_false_eq_true, not_true_eq_false]
          refine am_go [72, 119] 1 ?_
          simp only [am_wp, am_stp, am_en, am_as, am_pad, am_nth, am_set, am_st1, am_st2, am_kl, am_kill, am_mem, am_fv, am_tk, am_wt, am_bk, Option.toList, List.cons_append, List.nil_append, Nat.reduceAdd, Nat.reduceEqDiff, Nat.reduceLeDiff, reduceIte, Nat.reduceLT, or_self, true_or, or_true, if_true, if_false, and_self, and_true, true_and, not_false_eq_true, not_true_eq_false, fd_Mo_many_69]
          refine mr_room c S hp hH hv h6 (by omega) (fun _ h2 Rs2 t2 c2 ea2 f2 e2 => ?_) (fun q => absurd ok q)
          obtain ⟨E1, E2, E3⟩ := rf_w_T f2
          refine mr_in c2 (by rw [E1, E2, E3]; exact S0) kd0 (by rw [E1]; exact hp0) (Or.inl (by decide)) (by omega) (fun h' c' a1 a2 a3 f0 e0 => ?_)
          rw [E1] at c' a1
          rw [E1, E2] at a2
          rw [E1, E2, E3] at a3
          refine am_Ex_mono (fun o h3 q => ?_) (B d h' Rs2 t2 c' ea2 a1 a2 a3)
          exact ⟨q.1, ((rf_w_v f2).trans f0).trans q.2.1, (q.2.2.trans e0).trans e2⟩
      · refine ⟨i, fun d h Rs c ea eK eN eV => ?_, fun d h Rs t c ea eK eN eV => ?_⟩
        · obtain ⟨hK, T, Nn, F, h9⟩ := id c
          obtain ⟨⟨k2, r0, r1, rr2, r3, r5, r8⟩, -⟩ := id hK
          subst eK
          subst eN
          subst eV
          subst ea
          refine am_go [45, 119] 3 ?_
          simp only [am_wp, am_stp, am_en, am_as, am_pad, am_nth, am_set, am_st1, am_st2, am_kl, am_kill, am_mem, am_fv, am_tk, am_wt, am_bk, Option.toList, List.cons_append, List.nil_append, Nat.reduceAdd, Nat.reduceEqDiff, Nat.reduceLeDiff, reduceIte, Nat.reduceLT, or_self, true_or, or_true, if_true, if_false, and_self, and_true, true_and, not_false_eq_true, not_true_eq_false, fd_SR_many_39, fd_SR_many_41, fd_SR_many_42, l1]
          refine am_go [] 4 ?_
          simp only [am_wp, am_stp, am_en, am_as, am_pad, am_nth, am_set, am_st1, am_st2, am_kl, am_kill, am_mem, am_fv, am_tk, am_wt, am_bk, Option.toList, List.cons_append, List.nil_append, Nat.reduceAdd, Nat.reduceEqDiff, Nat.reduceLeDiff, reduceIte, Nat.reduceLT, or_self, true_or, or_true, if_true, if_false, and_self, and_true, true_and, not_false_eq_true, not_true_eq_false, fd_SR_many_45, fd_SR_many_46, fd_SR_many_49, fd_SR_many_51, k2, rr2, T.1]
          refine am_call (l2_hasPlaceFor (d := d + 6) T S.2.1) (fun o h1 q => ?_)
          obtain ⟨p', hp', rfl, rfl⟩ := q
          rw [hp'.uniq hp, if_neg hpl]
          simp only [am_wp, am_stp, am_en, am_as, am_pad, am_nth, am_set, am_st1, am_st2, am_kl, am_kill, am_mem, am_fv, am_tk, am_wt, am_bk, Option.toList, List.cons_append, List.nil_append, Nat.reduceAdd, Nat.reduceEqDiff, Nat.reduceLeDiff, reduceIte, Nat.reduceLT, or_self, true_or, or_true, if_true, if_false, and_self, and_true, true_and, not_false_eq_true, not_true_eq_false]
          refine am_go [57, 93] 1 ?_
          simp only [am_wp, am_stp, am_en, am_as, am_pad, am_nth, am_set, am_st1, am_st2, am_kl, am_kill, am_mem, am_fv, am_tk, am_wt, am_bk, Option.toList, List.cons_append, List.nil_append, Nat.reduceAdd, Nat.reduceEqDiff, Nat.reduceLeDiff, reduceIte, Nat.reduceLT, or_self, true_or, or_true, if_true, if_false, and_self, and_true, true_and, not_false_eq_true, not_true_eq_false, fd_SR_many_54]
          exact mc_room c S hv h6 (by omega) (fun q => absurd q ok) (fun _ h2 L2 => ⟨rfl, L2.mono (by omega)⟩)
        · obtain ⟨hK, T, Nn⟩ := id c
          have k72 := hK.1.1
          subst eK
          subst eN
          subst eV
          subst ea
          refine am_go [63, 142] 3 ?_
          simp only [am_wp, am_stp, am_en, am_as, am_pad, am_nth, am_set, am_st1, am_st2, am_kl, am_kill, am_mem, am_fv, am_tk, am_wt, am_bk, Option.toList, List.cons_append, List.nil_append, Nat.reduceAdd, Nat.reduceEqDiff, Nat.reduceLeDiff, reduceIte, Nat.reduceLT, or_self, true_or, or_true, if_true, if_false, and_self, and_true, true_and, not_false_eq_true, not_true_eq_false, fd_Mo_many_57, fd_Mo_many_59, fd_Mo_many_60, l1]
          refine am_go [] 3 ?_
          simp only [am_wp, am_stp, am_en, am_as, am_pad, am_nth, am_set, am_st1, am_st2, am_kl, am_kill, am_mem, am_fv, am_tk, am_wt, am_bk, Option.toList, List.cons_append, List.nil_append, Nat.reduceAdd, Nat.reduceEqDiff, Nat.reduceLeDiff, reduceIte, Nat.reduceLT, or_self, true_or, or_true, if_true, if_false, and_self, and_true, true_and, not_false_eq_true, not_true_eq_false, fd_Mo_many_63, fd_Mo_many_64, fd_Mo_many_66, k72]
          refine am_call (l2_Mo_hasPlace (d := d + 4) T S.2.1) (fun o h1 q => ?_)
          obtain ⟨p', hp', rfl, rfl⟩ := q
          rw [hp'.uniq hp, if_neg hpl]
          simp only [am_wp, am_stp, am_en, am_as, am_pad, am_nth, am_set, am_st1, am_st2, am_kl, am_kill, am_mem, am_fv, am_tk, am_wt, am_bk, Option.toList, List.cons_append, List.nil_append, Nat.reduceAdd, Nat.reduceEqDiff, Nat.reduceLeDiff, reduceIte, Nat.reduceLT, or_self, true_or, or_true, if_true, if_false, and_self, and_true, true_and, not_false_eq_true, not_true_eq_false]
          refine am_go [72, 119] 1 ?_
          simp only [am_wp, am_stp, am_en, am_as, am_pad, am_nth, am_set, am_st1, am_st2, am_kl, am_kill, am_mem, am_fv, am_tk, am_wt, am_bk, Option.toList, List.cons_append, List.nil_append, Nat.reduceAdd, Nat.reduceEqDiff, Nat.reduceLeDiff, reduceIte, Nat.reduceLT, or_self, true_or, or_true, if_true, if_false, and_self, and_true, true_and, not_false_eq_true, not_true_eq_false, fd_Mo_many_69]
          exact mr_room c S hp hH hv h6 (by omega) (fun q => absurd q ok) (fun _ h2 f2 e2 => ⟨rfl, rf_w_v f2, e2⟩)
