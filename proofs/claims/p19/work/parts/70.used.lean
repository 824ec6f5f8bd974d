/-! THE REFERENCE'S PAGES IN USE -/
/-- the reference's object and arrays, whatever they hold -/
def mo_Sk (h : am_H) : Prop := am_kd h 72 = 12 ∧ (∀ j, am_R h 72 j = mo_fd j 0 73 mo_l) ∧ ∀ i q, mo_l[i]? = some q → am_kd h (73 + i) = q.1 ∧ am_ln h (73 + i) = q.2.1
theorem mo_Sk.fi {S : List Nat} {h h' : am_H} (a : mo_Sk h) (b : am_fi S h h') : mo_Sk h' := by
  obtain ⟨-, -, -, b4, b5, b6, -⟩ := b
  unfold mo_Sk
  rw [b4, b5, b6]
  exact a
theorem mo_Sk.sI {h : am_H} {a j : Nat} {v : Int32} (c : mo_Sk h) : mo_Sk (am_sI h a j v) := c
theorem mo_Sk.sL {h : am_H} {a j : Nat} {v : Int64} (c : mo_Sk h) : mo_Sk (am_sL h a j v) := c
theorem mo_Sk.Pg {h : am_H} (c : mo_Sk h) : mo_Pg h := by
  obtain ⟨c1, c2, c3⟩ := c
  exact ⟨c1, (c2 2).trans rfl, (c2 30).trans rfl, (c3 0 _ rfl).1, (c3 0 _ rfl).2, (c3 18 _ rfl).1, (c3 18 _ rfl).2⟩
theorem mo_All.Sk {P : Nat} {h : am_H} (m : mo_All P h) : mo_Sk h := by
  obtain ⟨m1, m2, m3, m4, m5, m6, m7⟩ := m
  obtain ⟨k72, r2, r30, k73, n73, k91, n91⟩ := m1
  refine ⟨k72, m4, fun i q e => ?_⟩
  by_cases e0 : i = 0
  · subst e0
    cases e
    exact ⟨k73, n73⟩
  by_cases e1 : i = 18
  · subst e1
    cases e
    exact ⟨k91, n91⟩
  obtain ⟨a1, a2, -, -⟩ := m5 i q e0 e1 e
  exact ⟨a1, a2⟩
/-- page p is in use by a slot below n -/
def us_T (h : am_H) (n p : Nat) : Prop := ∃ s, s < n ∧ 0 < am_I h 77 s ∧ ∃ k, k < (am_I h 80 s).toNatClampNeg ∧ am_I h 82 (1024 * s + k) = nI p
/-- the slots hold pages that are there -/
def us_W (P : Nat) (h : am_H) : Prop := ∀ s, s < 100 → 0 < am_I h 77 s → ∃ c, c ≤ 1024 ∧ am_I h 80 s = nI c ∧ ∀ k, k < c → ∃ q, q < P ∧ am_I h 82 (1024 * s + k) = nI q
theorem l2_Mo_mu_1 {d P : Nat} {Q : am_O → am_H → Prop} (hP : P ≤ 1024) : ∀ (n p : Nat) (w : Value) (h : am_H), n + p = P → mo_Sk h → am_I h 72 1 = nI P →
    (∀ h', am_fi [90] h h' → am_L h' = am_L h → am_I h' 90 = (fun j => if p ≤ j ∧ j < P then (if j < 2 then 1 else 0) else am_I h 90 j) → am_Ex nm_pr d mt_Mo_markUsed (32, [.ref 72, .int (nI P), w], [], h') Q) →
    am_Ex nm_pr d mt_Mo_markUsed (2, [.ref 72, .int (nI p), w], [], h) Q
  | 0, p, w, h, hn, hS, jP, hx => by
    have e : p = P := by omega
    subst e
    have hlt : ¬ (nI p < nI p) := nI_nlt (Nat.le_refl _) (by omega)
    refine am_go [10, 32] 4 ?_
    simp only [am_wp, am_stp, am_en, am_as, am_pad, am_nth, am_set, am_st1, am_st2, am_kl, am_kill, am_mem, am_fv, am_tk, am_wt, am_bk, Option.toList, List.cons_append, List.nil_append, Nat.reduceAdd, Nat.reduceEqDiff, Nat.reduceLeDiff, reduceIte, Nat.reduceLT, or_self, true_or, or_true, if_true, if_false, and_self, and_true, true_and, not_false_eq_true, not_true_eq_false, fd_Mo_markUsed_2, fd_Mo_markUsed_3, fd_Mo_markUsed_4, fd_Mo_markUsed_7, hS.1, jP, hlt]
    refine hx h am_fi.refl rfl ?_
    funext j
    rw [if_neg (by omega)]
  | n + 1, p, w, h, hn, hS, jP, hx => by
    obtain ⟨k72, rr, aa⟩ := id hS
    have r29 : am_R h 72 29 = 90 := (rr 29).trans rfl
    have k90 : am_kd h 90 = 103 := (aa 17 _ rfl).1
    have n90 : am_ln h 90 = 1024 := (aa 17 _ rfl).2
    have hlt : nI p < nI P := nI_lt (by omega) (by omega)
    have i1 := am_inb (c := p) (N := 1024) (by omega) (by omega)
    have c1 : (nI p).toNatClampNeg = p := nI_clamp (by omega)
    refine am_go [10, 32] 4 ?_
    simp only [am_wp, am_stp, am_en, am_as, am_pad, am_nth, am_set, am_st1, am_st2, am_kl, am_kill, am_mem, am_fv, am_tk, am_wt, am_bk, Option.toList, List.cons_append, List.nil_append, Nat.reduceAdd, Nat.reduceEqDiff, Nat.reduceLeDiff, reduceIte, Nat.reduceLT, or_self, true_or, or_true, if_true, if_false, and_self, and_true, true_and, not_false_eq_true, not_true_eq_false, fd_Mo_markUsed_2, fd_Mo_markUsed_3, fd_Mo_markUsed_4, fd_Mo_markUsed_7, k72, jP, hlt]
    have a11 : (1 : Int32) &&& 1 = 1 := by decide
    have a01 : (0 : Int32) &&& 1 = 0 := by decide
    have nxt : ∀ v : Int32, v = (if p < 2 then 1 else 0) → am_Ex nm_pr d mt_Mo_markUsed (2, [.ref 72, .int (nI (p + 1)), w], [], am_sI h 90 p v) Q := by
      intro v hv
      refine l2_Mo_mu_1 hP n (p + 1) w _ (by omega) hS.sI ((congrFun (congrFun rfl 72) 1).trans jP) (fun h' a1 a2 a3 => hx h' ((am_fi.refl.sI (by simp)).trans a1) a2 ?_)
      rw [a3]
      funext j
      rw [hx_I_sI, if_pos rfl]
      by_cases e1 : j = p
      · subst e1
        rw [if_neg (by omega), if_pos rfl, if_pos (by omega), hv]
      · rw [if_neg e1]
        by_cases e2 : p + 1 ≤ j ∧ j < P
        · have e3 : p ≤ j ∧ j < P := by omega
          rw [if_pos e2, if_pos e3]
        · rw [if_neg e2, if_neg (by omega)]
    by_cases e2 : p < 2
    · have l2 : nI p < 2 := nI_lt (b := 2) e2 (by decide)
      refine am_go [2, 24] 14 ?_
      simp only [am_wp, am_stp, am_en, am_as, am_pad, am_nth, am_set, am_st1, am_st2, am_kl, am_kill, am_mem, am_fv, am_tk, am_wt, am_bk, Option.toList, List.cons_append, List.nil_append, Nat.reduceAdd, Nat.reduceEqDiff, Nat.reduceLeDiff, reduceIte, Nat.reduceLT, or_self, true_or, or_true, if_true, if_false, and_self, and_true, true_and, not_false_eq_true, not_true_eq_false, fd_Mo_markUsed_10, fd_Mo_markUsed_11, fd_Mo_markUsed_14, fd_Mo_markUsed_15, fd_Mo_markUsed_16, fd_Mo_markUsed_17, fd_Mo_markUsed_20, fd_Mo_markUsed_21, fd_Mo_markUsed_24, fd_Mo_markUsed_25, fd_Mo_markUsed_26, fd_Mo_markUsed_29, k72, r29, k90, n90, l2, i1, c1, nI_1, a11]
      exact nxt 1 (by rw [if_pos e2])
    · have l2 : ¬ nI p < 2 := nI_nlt (b := 2) (by omega) (by omega)
      refine am_go [2, 20] 14 ?_
      simp only [am_wp, am_stp, am_en, am_as, am_pad, am_nth, am_set, am_st1, am_st2, am_kl, am_kill, am_mem, am_fv, am_tk, am_wt, am_bk, Option.toList, List.cons_append, List.nil_append, Nat.reduceAdd, Nat.reduceEqDiff, Nat.reduceLeDiff, reduceIte, Nat.reduceLT, or_self, true_or, or_true, if_true, if_false, and_self, and_true, true_and, not_false_eq_true, not_true_eq_false, fd_Mo_markUsed_10, fd_Mo_markUsed_11, fd_Mo_markUsed_14, fd_Mo_markUsed_15, fd_Mo_markUsed_16, fd_Mo_markUsed_17, fd_Mo_markUsed_20, fd_Mo_markUsed_21, fd_Mo_markUsed_24, fd_Mo_markUsed_25, fd_Mo_markUsed_26, fd_Mo_markUsed_29, k72, r29, k90, n90, l2, i1, c1, nI_1, a01]
      exact nxt 0 (by rw [if_neg e2])
/-- what used holds when the slots below s and k pages of slot s are through -/
def us_V (P : Nat) (h h' : am_H) (s k : Nat) : Prop := ∀ p, p < P → (am_I h' 90 p = 0 ∨ am_I h' 90 p = 1) ∧ (am_I h' 90 p = 1 ↔ p < 2 ∨ us_T h s p ∨ (0 < am_I h 77 s ∧ ∃ k', k' < k ∧ am_I h 82 (1024 * s + k') = nI p))
theorem l2_Mo_mu_2 {d P s c : Nat} {h : am_H} {Q : am_O → am_H → Prop} (hP : P ≤ 1024) (hs : s < 100) (hc : c ≤ 1024) (hS : mo_Sk h) (hu : 0 < am_I h 77 s) (h80 : am_I h 80 s = nI c) (hq : ∀ k, k < c → ∃ q, q < P ∧ am_I h 82 (1024 * s + k) = nI q)
    (hx : ∀ h', am_fi [90] h h' → am_L h' = am_L h → us_V P h h' s c → am_Ex nm_pr d mt_Mo_markUsed (85, [.ref 72, .int (nI s), .int (nI c)], [], h') Q) : ∀ (n k : Nat) (g : am_H), n + k = c → am_fi [90] h g → am_L g = am_L h → us_V P h g s k →
    am_Ex nm_pr d mt_Mo_markUsed (42, [.ref 72, .int (nI s), .int (nI k)], [], g) Q
  | 0, k, g, hn, f, fl, v => by
    have e : k = c := by omega
    subst e
    obtain ⟨k72, rr, aa⟩ := id (hS.fi f)
    have r18 : am_R g 72 18 = 80 := (rr 18).trans rfl
    have k80 : am_kd g 80 = 100 := (aa 7 _ rfl).1
    have n80 : am_ln g 80 = 100 := (aa 7 _ rfl).2
    have v80 : am_I g 80 s = nI k := (congrFun (f.2.2.2.2.2.2.1 80 (by simp)) s).trans h80
    have hlt : ¬ (nI k < nI k) := nI_nlt (Nat.le_refl _) (by omega)
    have i1 := am_inb (c := s) (N := 100) (by omega) (by omega)
    have c1 : (nI s).toNatClampNeg = s := nI_clamp (by omega)
    refine am_go [52, 85] 6 ?_
    simp only [am_wp, am_stp, am_en, am_as, am_pad, am_nth, am_set, am_st1, am_st2, am_kl, am_kill, am_mem, am_fv, am_tk, am_wt, am_bk, Option.toList, List.cons_append, List.nil_append, Nat.reduceAdd, Nat.reduceEqDiff, Nat.reduceLeDiff, reduceIte, Nat.reduceLT, or_self, true_or, or_true, if_true, if_false, and_self, and_true, true_and, not_false_eq_true, not_true_eq_false, fd_Mo_markUsed_42, fd_Mo_markUsed_43, fd_Mo_markUsed_44, fd_Mo_markUsed_47, fd_Mo_markUsed_48, fd_Mo_markUsed_49, k72, r18, k80, n80, i1, c1, v80, hlt]
    exact hx g f fl v
  | n + 1, k, g, hn, f, fl, v => by
    obtain ⟨k72, rr, aa⟩ := id (hS.fi f)
    have r18 : am_R g 72 18 = 80 := (rr 18).trans rfl
    have k80 : am_kd g 80 = 100 := (aa 7 _ rfl).1
    have n80 : am_ln g 80 = 100 := (aa 7 _ rfl).2
    have r15 : am_R g 72 15 = 77 := (rr 15).trans rfl
    have k77 : am_kd g 77 = 100 := (aa 4 _ rfl).1
    have n77 : am_ln g 77 = 100 := (aa 4 _ rfl).2
    have r20 : am_R g 72 20 = 82 := (rr 20).trans rfl
    have k82 : am_kd g 82 = 100 := (aa 9 _ rfl).1
    have n82 : am_ln g 82 = 102400 := (aa 9 _ rfl).2
    have r29 : am_R g 72 29 = 90 := (rr 29).trans rfl
    have k90 : am_kd g 90 = 103 := (aa 17 _ rfl).1
    have n90 : am_ln g 90 = 1024 := (aa 17 _ rfl).2
    have v80 : am_I g 80 s = nI c := (congrFun (f.2.2.2.2.2.2.1 80 (by simp)) s).trans h80
    have v77 : am_I g 77 s = am_I h 77 s := congrFun (f.2.2.2.2.2.2.1 77 (by simp)) s
    obtain ⟨q, hqP, hq1⟩ := hq k (by omega)
    have v82 : am_I g 82 (1024 * s + k) = nI q := (congrFun (f.2.2.2.2.2.2.1 82 (by simp)) _).trans hq1
    have hlt : nI k < nI c := nI_lt (by omega) (by omega)
    have i1 := am_inb (c := s) (N := 100) (by omega) (by omega)
    have c1 : (nI s).toNatClampNeg = s := nI_clamp (by omega)
    have e1 : 1024 * nI s = nI (1024 * s) := (Int32.ofNat_mul 1024 s).symm
    have i2 := am_inb (c := 1024 * s + k) (N := 102400) (by omega) (by omega)
    have c2 : (nI (1024 * s + k)).toNatClampNeg = 1024 * s + k := nI_clamp (by omega)
    have i3 := am_inb (c := q) (N := 1024) (by omega) (by omega)
    have c3 : (nI q).toNatClampNeg = q := nI_clamp (by omega)
    have a11 : (1 : Int32) &&& 1 = 1 := by decide
    refine am_go [52, 85] 6 ?_
    simp only [am_wp, am_stp, am_en, am_as, am_pad, am_nth, am_set, am_st1, am_st2, am_kl, am_kill, am_mem, am_fv, am_tk, am_wt, am_bk, Option.toList, List.cons_append, List.nil_append, Nat.reduceAdd, Nat.reduceEqDiff, Nat.reduceLeDiff, reduceIte, Nat.reduceLT, or_self, true_or, or_true, if_true, if_false, and_self, and_true, true_and, not_false_eq_true, not_true_eq_false, fd_Mo_markUsed_42, fd_Mo_markUsed_43, fd_Mo_markUsed_44, fd_Mo_markUsed_47, fd_Mo_markUsed_48, fd_Mo_markUsed_49, k72, r18, k80, n80, i1, c1, v80, hlt]
    refine am_go [61, 85] 5 ?_
    simp only [am_wp, am_stp, am_en, am_as, am_pad, am_nth, am_set, am_st1, am_st2, am_kl, am_kill, am_mem, am_fv, am_tk, am_wt, am_bk, Option.toList, List.cons_append, List.nil_append, Nat.reduceAdd, Nat.reduceEqDiff, Nat.reduceLeDiff, reduceIte, Nat.reduceLT, or_self, true_or, or_true, if_true, if_false, and_self, and_true, true_and, not_false_eq_true, not_true_eq_false, fd_Mo_markUsed_52, fd_Mo_markUsed_53, fd_Mo_markUsed_56, fd_Mo_markUsed_57, fd_Mo_markUsed_58, k72, r15, k77, n77, i1, c1, v77, hu]
    refine am_go [] 12 ?_
    simp only [am_wp, am_stp, am_en, am_as, am_pad, am_nth, am_set, am_st1, am_st2, am_kl, am_kill, am_mem, am_fv, am_tk, am_wt, am_bk, Option.toList, List.cons_append, List.nil_append, Nat.reduceAdd, Nat.reduceEqDiff, Nat.reduceLeDiff, reduceIte, Nat.reduceLT, or_self, true_or, or_true, if_true, if_false, and_self, and_true, true_and, not_false_eq_true, not_true_eq_false, fd_Mo_markUsed_61, fd_Mo_markUsed_62, fd_Mo_markUsed_65, fd_Mo_markUsed_66, fd_Mo_markUsed_69, fd_Mo_markUsed_72, fd_Mo_markUsed_73, fd_Mo_markUsed_74, fd_Mo_markUsed_75, fd_Mo_markUsed_76, fd_Mo_markUsed_77, fd_Mo_markUsed_78, k72, r29, r20, k82, n82, e1, nI_add, i2, c2, v82, k90, n90, i3, c3, a11]
    refine am_go [42] 3 ?_
    simp only [am_wp, am_stp, am_en, am_as, am_pad, am_nth, am_set, am_st1, am_st2, am_kl, am_kill, am_mem, am_fv, am_tk, am_wt, am_bk, Option.toList, List.cons_append, List.nil_append, Nat.reduceAdd, Nat.reduceEqDiff, Nat.reduceLeDiff, reduceIte, Nat.reduceLT, or_self, true_or, or_true, if_true, if_false, and_self, and_true, true_and, not_false_eq_true, not_true_eq_false, fd_Mo_markUsed_79, fd_Mo_markUsed_82, nI_1]
    refine l2_Mo_mu_2 hP hs hc hS hu h80 hq hx n (k + 1) _ (by omega) (f.sI (by simp)) fl (fun p hp => ?_)
    obtain ⟨v1, v2⟩ := v p hp
    rw [hx_I_sI, if_pos rfl]
    by_cases ep : p = q
    · subst ep
      rw [if_pos rfl]
      exact ⟨Or.inr rfl, fun _ => Or.inr (Or.inr ⟨hu, k, by omega, hq1⟩), fun _ => rfl⟩
    · rw [if_neg ep]
      refine ⟨v1, v2.trans ⟨fun w => ?_, fun w => ?_⟩⟩
      · rcases w with w | w | ⟨w, k', hk', w'⟩
        · exact Or.inl w
        · exact Or.inr (Or.inl w)
        · exact Or.inr (Or.inr ⟨w, k', by omega, w'⟩)
      · rcases w with w | w | ⟨w, k', hk', w'⟩
        · exact Or.inl w
        · exact Or.inr (Or.inl w)
        · by_cases ek : k' = k
          · subst ek
            rw [hq1, nI_eq (by omega) (by omega)] at w'
            exact absurd w'.symm ep
          · exact Or.inr (Or.inr ⟨w, k', by omega, w'⟩)
theorem us_V.next {P s k : Nat} {h h' : am_H} (v : us_V P h h' s k) (e : 0 < am_I h 77 s → k = (am_I h 80 s).toNatClampNeg) : us_V P h h' (s + 1) 0 := by
  intro p hp
  obtain ⟨v1, v2⟩ := v p hp
  refine ⟨v1, v2.trans ⟨fun w => ?_, fun w => ?_⟩⟩
  · rcases w with w | ⟨s', hs', w⟩ | ⟨w, k', hk', w'⟩
    · exact Or.inl w
    · exact Or.inr (Or.inl ⟨s', by omega, w⟩)
    · exact Or.inr (Or.inl ⟨s, by omega, w, k', by rw [← e w]; exact hk', w'⟩)
  · rcases w with w | ⟨s', hs', w, k', hk', w'⟩ | ⟨w, k', hk', w'⟩
    · exact Or.inl w
    · by_cases es : s' = s
      · subst es
        exact Or.inr (Or.inr ⟨w, k', by rw [e w]; exact hk', w'⟩)
      · exact Or.inr (Or.inl ⟨s', by omega, w, k', hk', w'⟩)
    · omega
theorem l2_Mo_mu_3 {d P : Nat} {h : am_H} {Q : am_O → am_H → Prop} (hP : P ≤ 1024) (hS : mo_Sk h) (hW : us_W P h)
    (hx : ∀ h', am_fi [90] h h' → am_L h' = am_L h → us_V P h h' 100 0 → Q (.inl none) h') : ∀ (n s : Nat) (w : Value) (g : am_H), n + s = 100 → am_fi [90] h g → am_L g = am_L h → us_V P h g s 0 →
    am_Ex nm_pr d mt_Mo_markUsed (34, [.ref 72, .int (nI s), w], [], g) Q
  | 0, s, w, g, hn, f, fl, v => by
    have e : s = 100 := by omega
    subst e
    have hlt : ¬ (nI 100 < 100) := by decide
    refine am_go [40] 6 ?_
    simp only [am_wp, am_stp, am_en, am_as, am_pad, am_nth, am_set, am_st1, am_st2, am_kl, am_kill, am_mem, am_fv, am_tk, am_wt, am_bk, Option.toList, List.cons_append, List.nil_append, Nat.reduceAdd, Nat.reduceEqDiff, Nat.reduceLeDiff, reduceIte, Nat.reduceLT, or_self, true_or, or_true, if_true, if_false, and_self, and_true, true_and, not_false_eq_true, not_true_eq_false, fd_Mo_markUsed_34, fd_Mo_markUsed_35, fd_Mo_markUsed_37, fd_Mo_markUsed_91, hlt]
    exact hx g f fl v
  | n + 1, s, w, g, hn, f, fl, v => by
    have hlt : nI s < 100 := nI_lt (b := 100) (by omega) (by decide)
    have z0 : (0 : Int32) = nI 0 := rfl
    refine am_go [42, 91] 5 ?_
    simp only [am_wp, am_stp, am_en, am_as, am_pad, am_nth, am_set, am_st1, am_st2, am_kl, am_kill, am_mem, am_fv, am_tk, am_wt, am_bk, Option.toList, List.cons_append, List.nil_append, Nat.reduceAdd, Nat.reduceEqDiff, Nat.reduceLeDiff, reduceIte, Nat.reduceLT, or_self, true_or, or_true, if_true, if_false, and_self, and_true, true_and, not_false_eq_true, not_true_eq_false, fd_Mo_markUsed_34, fd_Mo_markUsed_35, fd_Mo_markUsed_37, fd_Mo_markUsed_40, fd_Mo_markUsed_41, hlt]
    by_cases hu : 0 < am_I h 77 s
    · obtain ⟨c, hc, h80, hq⟩ := hW s (by omega) hu
      refine l2_Mo_mu_2 hP (by omega) hc hS hu h80 hq (fun h' f' fl' v' => ?_) c 0 g rfl f fl v
      refine am_go [34] 3 ?_
      simp only [am_wp, am_stp, am_en, am_as, am_pad, am_nth, am_set, am_st1, am_st2, am_kl, am_kill, am_mem, am_fv, am_tk, am_wt, am_bk, Option.toList, List.cons_append, List.nil_append, Nat.reduceAdd, Nat.reduceEqDiff, Nat.reduceLeDiff, reduceIte, Nat.reduceLT, or_self, true_or, or_true, if_true, if_false, and_self, and_true, true_and, not_false_eq_true, not_true_eq_false, fd_Mo_markUsed_85, fd_Mo_markUsed_88, nI_1]
      exact l2_Mo_mu_3 hP hS hW hx n (s + 1) _ h' (by omega) f' fl' (v'.next (fun _ => by rw [h80, nI_clamp (by omega)]))
    · obtain ⟨k72, rr, aa⟩ := id (hS.fi f)
      have r18 : am_R g 72 18 = 80 := (rr 18).trans rfl
      have k80 : am_kd g 80 = 100 := (aa 7 _ rfl).1
      have n80 : am_ln g 80 = 100 := (aa 7 _ rfl).2
      have r15 : am_R g 72 15 = 77 := (rr 15).trans rfl
      have k77 : am_kd g 77 = 100 := (aa 4 _ rfl).1
      have n77 : am_ln g 77 = 100 := (aa 4 _ rfl).2
      have v77 : am_I g 77 s = am_I h 77 s := congrFun (f.2.2.2.2.2.2.1 77 (by simp)) s
      have i1 := am_inb (c := s) (N := 100) (by omega) (by omega)
      have c1 : (nI s).toNatClampNeg = s := nI_clamp (by omega)
      have nx : am_Ex nm_pr d mt_Mo_markUsed (85, [.ref 72, .int (nI s), .int 0], [], g) Q := by
        refine am_go [34] 3 ?_
        simp only [am_wp, am_stp, am_en, am_as, am_pad, am_nth, am_set, am_st1, am_st2, am_kl, am_kill, am_mem, am_fv, am_tk, am_wt, am_bk, Option.toList, List.cons_append, List.nil_append, Nat.reduceAdd, Nat.reduceEqDiff, Nat.reduceLeDiff, reduceIte, Nat.reduceLT, or_self, true_or, or_true, if_true, if_false, and_self, and_true, true_and, not_false_eq_true, not_true_eq_false, fd_Mo_markUsed_85, fd_Mo_markUsed_88, nI_1]
        exact l2_Mo_mu_3 hP hS hW hx n (s + 1) _ g (by omega) f fl (v.next (fun q => absurd q hu))
      refine am_go [52, 85] 6 ?_
      simp only [am_wp, am_stp, am_en, am_as, am_pad, am_nth, am_set, am_st1, am_st2, am_kl, am_kill, am_mem, am_fv, am_tk, am_wt, am_bk, Option.toList, List.cons_append, List.nil_append, Nat.reduceAdd, Nat.reduceEqDiff, Nat.reduceLeDiff, reduceIte, Nat.reduceLT, or_self, true_or, or_true, if_true, if_false, and_self, and_true, true_and, not_false_eq_true, not_true_eq_false, fd_Mo_markUsed_42, fd_Mo_markUsed_43, fd_Mo_markUsed_44, fd_Mo_markUsed_47, fd_Mo_markUsed_48, fd_Mo_markUsed_49, k72, r18, k80, n80, i1, c1]
      by_cases hb : 0 < am_I g 80 s
      · simp only [hb, am_wp, am_stp, am_en, am_as, am_pad, am_nth, am_set, am_st1, am_st2, am_kl, am_kill, am_mem, am_fv, am_tk, am_wt, am_bk, Option.toList, List.cons_append, List.nil_append, Nat.reduceAdd, Nat.reduceEqDiff, Nat.reduceLeDiff, reduceIte, Nat.reduceLT, or_self, true_or, or_true, if_true, if_false, and_self, and_true, true_and, not_false_eq_true, not_true_eq_false]
        refine am_go [61, 85] 5 ?_
        simp only [am_wp, am_stp, am_en, am_as, am_pad, am_nth, am_set, am_st1, am_st2, am_kl, am_kill, am_mem, am_fv, am_tk, am_wt, am_bk, Option.toList, List.cons_append, List.nil_append, Nat.reduceAdd, Nat.reduceEqDiff, Nat.reduceLeDiff, reduceIte, Nat.reduceLT, or_self, true_or, or_true, if_true, if_false, and_self, and_true, true_and, not_false_eq_true, not_true_eq_false, fd_Mo_markUsed_52, fd_Mo_markUsed_53, fd_Mo_markUsed_56, fd_Mo_markUsed_57, fd_Mo_markUsed_58, k72, r15, k77, n77, i1, c1, v77, hu]
        exact nx
      · simp only [hb, am_wp, am_stp, am_en, am_as, am_pad, am_nth, am_set, am_st1, am_st2, am_kl, am_kill, am_mem, am_fv, am_tk, am_wt, am_bk, Option.toList, List.cons_append, List.nil_append, Nat.reduceAdd, Nat.reduceEqDiff, Nat.reduceLeDiff, reduceIte, Nat.reduceLT, or_self, true_or, or_true, if_true, if_false, and_self, and_true, true_and, not_false_eq_true, not_true_eq_false]
        exact nx
theorem l2_Mo_markUsed {d P : Nat} {h : am_H} (h2 : 2 ≤ P) (hP : P ≤ 1024) (hS : mo_Sk h) (jP : am_I h 72 1 = nI P) (hW : us_W P h) : am_Rt nm_pr (d + 1) mi_Mo_markUsed [.ref 72] h (fun o h' => o = .inl none ∧ am_fi [90] h h' ∧ am_L h' = am_L h ∧ ∀ p, p < P → (am_I h' 90 p = 0 ∨ am_I h' 90 p = 1) ∧ (am_I h' 90 p = 1 ↔ p < 2 ∨ us_T h 100 p)) := by
  refine am_in' mt_Mo_markUsed 3 rfl rfl rfl ?_
  refine am_go [2] 3 ?_
  simp only [am_wp, am_stp, am_en, am_as, am_pad, am_nth, am_set, am_st1, am_st2, am_kl, am_kill, am_mem, am_fv, am_tk, am_wt, am_bk, Option.toList, List.cons_append, List.nil_append, Nat.reduceAdd, Nat.reduceEqDiff, Nat.reduceLeDiff, reduceIte, Nat.reduceLT, or_self, true_or, or_true, if_true, if_false, and_self, and_true, true_and, not_false_eq_true, not_true_eq_false, fd_Mo_markUsed_0, fd_Mo_markUsed_1]
  refine l2_Mo_mu_1 hP P 0 _ h (by omega) hS jP (fun g f fl v => ?_)
  refine am_go [34] 3 ?_
  simp only [am_wp, am_stp, am_en, am_as, am_pad, am_nth, am_set, am_st1, am_st2, am_kl, am_kill, am_mem, am_fv, am_tk, am_wt, am_bk, Option.toList, List.cons_append, List.nil_append, Nat.reduceAdd, Nat.reduceEqDiff, Nat.reduceLeDiff, reduceIte, Nat.reduceLT, or_self, true_or, or_true, if_true, if_false, and_self, and_true, true_and, not_false_eq_true, not_true_eq_false, fd_Mo_markUsed_32, fd_Mo_markUsed_33]
  refine l2_Mo_mu_3 hP hS hW (fun h' f' fl' v' => ⟨rfl, f', fl', fun p hp => ?_⟩) 100 0 _ g rfl f fl (fun p hp => ?_)
  · rw [v]
    dsimp only
    rw [if_pos ⟨Nat.zero_le _, hp⟩]
    by_cases e : p < 2
    · rw [if_pos e]
      exact ⟨Or.inr rfl, fun _ => Or.inl e, fun _ => rfl⟩
    · rw [if_neg e]
      refine ⟨Or.inl rfl, fun w => absurd w (by decide), fun w => ?_⟩
      rcases w with w | ⟨s', hs', w⟩ | ⟨w, k', hk', w'⟩ <;> omega
  · obtain ⟨a, b⟩ := v' p hp
    refine ⟨a, b.trans ⟨fun w => ?_, fun w => ?_⟩⟩
    · rcases w with w | w | ⟨w, k', hk', w'⟩
      · exact Or.inl w
      · exact Or.inr w
      · omega
    · rcases w with w | w
      · exact Or.inl w
      · exact Or.inr (Or.inl w)
/-- how many of n pages are free -/
def us_N (f : Nat → Int32) : Nat → Nat
  | 0 => 0
  | n + 1 => us_N f n + (if f n = 0 then 1 else 0)
theorem us_N_le (f : Nat → Int32) : ∀ n, us_N f n ≤ n
  | 0 => Nat.le_refl _
  | n + 1 => by
    have := us_N_le f n
    unfold us_N
    split <;> omega
theorem l2_Mo_free_loop {d P : Nat} {h : am_H} {Q : am_O → am_H → Prop} (hP : P ≤ 1024) (hS : mo_Sk h) (jP : am_I h 72 1 = nI P) (hx : Q (.inl (some (.int (nI (us_N (am_I h 90) P))))) h) : ∀ (n p : Nat), n + p = P →
    am_Ex nm_pr d mt_Mo_freeCount (8, [.ref 72, .int (nI (us_N (am_I h 90) p)), .int (nI p)], [], h) Q
  | 0, p, hn => by
    have e : p = P := by omega
    subst e
    have hlt : ¬ (nI p < nI p) := nI_nlt (Nat.le_refl _) (by omega)
    refine am_go [16] 6 ?_
    simp only [am_wp, am_stp, am_en, am_as, am_pad, am_nth, am_set, am_st1, am_st2, am_kl, am_kill, am_mem, am_fv, am_tk, am_wt, am_bk, Option.toList, List.cons_append, List.nil_append, Nat.reduceAdd, Nat.reduceEqDiff, Nat.reduceLeDiff, reduceIte, Nat.reduceLT, or_self, true_or, or_true, if_true, if_false, and_self, and_true, true_and, not_false_eq_true, not_true_eq_false, fd_Mo_freeCount_8, fd_Mo_freeCount_9, fd_Mo_freeCount_10, fd_Mo_freeCount_13, fd_Mo_freeCount_39, fd_Mo_freeCount_40, hS.1, jP, hlt]
    exact hx
  | n + 1, p, hn => by
    obtain ⟨k72, rr, aa⟩ := id hS
    have r29 : am_R h 72 29 = 90 := (rr 29).trans rfl
    have k90 : am_kd h 90 = 103 := (aa 17 _ rfl).1
    have n90 : am_ln h 90 = 1024 := (aa 17 _ rfl).2
    have hlt : nI p < nI P := nI_lt (by omega) (by omega)
    have i1 := am_inb (c := p) (N := 1024) (by omega) (by omega)
    have c1 : (nI p).toNatClampNeg = p := nI_clamp (by omega)
    have ih := l2_Mo_free_loop (d := d) hP hS jP hx n (p + 1) (by omega)
    refine am_go [16, 39] 4 ?_
    simp only [am_wp, am_stp, am_en, am_as, am_pad, am_nth, am_set, am_st1, am_st2, am_kl, am_kill, am_mem, am_fv, am_tk, am_wt, am_bk, Option.toList, List.cons_append, List.nil_append, Nat.reduceAdd, Nat.reduceEqDiff, Nat.reduceLeDiff, reduceIte, Nat.reduceLT, or_self, true_or, or_true, if_true, if_false, and_self, and_true, true_and, not_false_eq_true, not_true_eq_false, fd_Mo_freeCount_8, fd_Mo_freeCount_9, fd_Mo_freeCount_10, fd_Mo_freeCount_13, k72, jP, hlt]
    refine am_go [26, 30] 6 ?_
    simp only [am_wp, am_stp, am_en, am_as, am_pad, am_nth, am_set, am_st1, am_st2, am_kl, am_kill, am_mem, am_fv, am_tk, am_wt, am_bk, Option.toList, List.cons_append, List.nil_append, Nat.reduceAdd, Nat.reduceEqDiff, Nat.reduceLeDiff, reduceIte, Nat.reduceLT, or_self, true_or, or_true, if_true, if_false, and_self, and_true, true_and, not_false_eq_true, not_true_eq_false, fd_Mo_freeCount_16, fd_Mo_freeCount_17, fd_Mo_freeCount_18, fd_Mo_freeCount_21, fd_Mo_freeCount_22, fd_Mo_freeCount_23, k72, r29, k90, n90, i1, c1]
    by_cases e : am_I h 90 p = 0
    · have e2 : us_N (am_I h 90) (p + 1) = us_N (am_I h 90) p + 1 := by
        show us_N (am_I h 90) p + (if am_I h 90 p = 0 then 1 else 0) = _
        rw [if_pos e]
      rw [e2] at ih
      simp only [e, am_wp, am_stp, am_en, am_as, am_pad, am_nth, am_set, am_st1, am_st2, am_kl, am_kill, am_mem, am_fv, am_tk, am_wt, am_bk, Option.toList, List.cons_append, List.nil_append, Nat.reduceAdd, Nat.reduceEqDiff, Nat.reduceLeDiff, reduceIte, Nat.reduceLT, or_self, true_or, or_true, if_true, if_false, and_self, and_true, true_and, not_false_eq_true, not_true_eq_false]
      refine am_go [8] 8 ?_
      simp only [am_wp, am_stp, am_en, am_as, am_pad, am_nth, am_set, am_st1, am_st2, am_kl, am_kill, am_mem, am_fv, am_tk, am_wt, am_bk, Option.toList, List.cons_append, List.nil_append, Nat.reduceAdd, Nat.reduceEqDiff, Nat.reduceLeDiff, reduceIte, Nat.reduceLT, or_self, true_or, or_true, if_true, if_false, and_self, and_true, true_and, not_false_eq_true, not_true_eq_false, fd_Mo_freeCount_30, fd_Mo_freeCount_31, fd_Mo_freeCount_32, fd_Mo_freeCount_33, fd_Mo_freeCount_36, nI_1]
      exact ih
    · have e2 : us_N (am_I h 90) (p + 1) = us_N (am_I h 90) p := by
        show us_N (am_I h 90) p + (if am_I h 90 p = 0 then 1 else 0) = _
        rw [if_neg e]
        rfl
      rw [e2] at ih
      simp only [e, am_wp, am_stp, am_en, am_as, am_pad, am_nth, am_set, am_st1, am_st2, am_kl, am_kill, am_mem, am_fv, am_tk, am_wt, am_bk, Option.toList, List.cons_append, List.nil_append, Nat.reduceAdd, Nat.reduceEqDiff, Nat.reduceLeDiff, reduceIte, Nat.reduceLT, or_self, true_or, or_true, if_true, if_false, and_self, and_true, true_and, not_false_eq_true, not_true_eq_false]
      refine am_go [8] 8 ?_
      simp only [am_wp, am_stp, am_en, am_as, am_pad, am_nth, am_set, am_st1, am_st2, am_kl, am_kill, am_mem, am_fv, am_tk, am_wt, am_bk, Option.toList, List.cons_append, List.nil_append, Nat.reduceAdd, Nat.reduceEqDiff, Nat.reduceLeDiff, reduceIte, Nat.reduceLT, or_self, true_or, or_true, if_true, if_false, and_self, and_true, true_and, not_false_eq_true, not_true_eq_false, fd_Mo_freeCount_26, fd_Mo_freeCount_27, fd_Mo_freeCount_30, fd_Mo_freeCount_31, fd_Mo_freeCount_32, fd_Mo_freeCount_33, fd_Mo_freeCount_36, nI_1, Int32.add_zero]
      exact ih
theorem l2_Mo_freeCount {d P : Nat} {h : am_H} (h2 : 2 ≤ P) (hP : P ≤ 1024) (hS : mo_Sk h) (jP : am_I h 72 1 = nI P) (hW : us_W P h) : am_Rt nm_pr (d + 2) mi_Mo_freeCount [.ref 72] h (fun o h' => o = .inl (some (.int (nI (us_N (am_I h' 90) P)))) ∧ am_fi [90] h h' ∧ am_L h' = am_L h ∧ ∀ p, p < P → (am_I h' 90 p = 0 ∨ am_I h' 90 p = 1) ∧ (am_I h' 90 p = 1 ↔ p < 2 ∨ us_T h 100 p)) := by
  refine am_in' (d := d + 1) mt_Mo_freeCount 3 rfl rfl rfl ?_
  refine am_go [] 2 ?_
  simp only [am_wp, am_stp, am_en, am_as, am_pad, am_nth, am_set, am_st1, am_st2, am_kl, am_kill, am_mem, am_fv, am_tk, am_wt, am_bk, Option.toList, List.cons_append, List.nil_append, Nat.reduceAdd, Nat.reduceEqDiff, Nat.reduceLeDiff, reduceIte, Nat.reduceLT, or_self, true_or, or_true, if_true, if_false, and_self, and_true, true_and, not_false_eq_true, not_true_eq_false, fd_Mo_freeCount_0, fd_Mo_freeCount_1, hS.1]
  refine am_call (l2_Mo_markUsed h2 hP hS jP hW) (fun o g q => ?_)
  obtain ⟨rfl, f, fl, v⟩ := q
  simp only [am_wp, am_stp, am_en, am_as, am_pad, am_nth, am_set, am_st1, am_st2, am_kl, am_kill, am_mem, am_fv, am_tk, am_wt, am_bk, Option.toList, List.cons_append, List.nil_append, Nat.reduceAdd, Nat.reduceEqDiff, Nat.reduceLeDiff, reduceIte, Nat.reduceLT, or_self, true_or, or_true, if_true, if_false, and_self, and_true, true_and, not_false_eq_true, not_true_eq_false]
  refine am_go [8] 5 ?_
  simp only [am_wp, am_stp, am_en, am_as, am_pad, am_nth, am_set, am_st1, am_st2, am_kl, am_kill, am_mem, am_fv, am_tk, am_wt, am_bk, Option.toList, List.cons_append, List.nil_append, Nat.reduceAdd, Nat.reduceEqDiff, Nat.reduceLeDiff, reduceIte, Nat.reduceLT, or_self, true_or, or_true, if_true, if_false, and_self, and_true, true_and, not_false_eq_true, not_true_eq_false, fd_Mo_freeCount_4, fd_Mo_freeCount_5, fd_Mo_freeCount_6, fd_Mo_freeCount_7]
  refine l2_Mo_free_loop hP (hS.fi f) ((congrFun (f.2.2.2.2.2.2.1 72 (by simp)) 1).trans jP) ⟨rfl, f, fl, v⟩ P 0 (by omega)
