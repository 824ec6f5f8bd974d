/-! THE REFERENCE OPENS: what a page is, the HEAD -/
theorem am_Rt_det {pr : Nat → am_M} {d d' m : Nat} {as : List Value} {h : am_H} {Q Q' : am_O → am_H → Prop} (a : am_Rt pr d m as h Q) (b : am_Rt pr d' m as h Q') : ∃ o h', Q o h' ∧ Q' o h' := by
  obtain ⟨N, o, h', e1, e2⟩ := a
  obtain ⟨N', o', h'', f1, f2⟩ := b
  have e3 := am_ev_mono d (d + d') N (N + N') m as h _ (by omega) (by omega) e1
  have f3 := am_ev_mono d' (d + d') N' (N + N') m as h _ (by omega) (by omega) f1
  rw [e3] at f3
  cases f3
  exact ⟨o, h', e2, f2⟩
/-- a page is laid as one list alone -/
theorem pg_M.uniq {P p : Nat} {h : am_H} {C C' : List ent} (hS : mo_Sk h) (hP : P ≤ 1024) (a : pg_M P h p C) (b : pg_M P h p C') : C = C' := by
  obtain ⟨o, g, ⟨-, a1, a2, a3, a4⟩, -, b1, b2, b3, b4⟩ := am_Rt_det (l2_see (d := 0) hS hP a) (l2_see (d := 0) hS hP b)
  have l1 := a.2.2.2.1
  have l2 := b.2.2.2.1
  have el : C.length = C'.length := wnI_inj (by omega) (by omega) (a3.symm.trans b3)
  refine List.ext_getElem el (fun i h1 h2 => ?_)
  obtain ⟨x1, x2, x3⟩ := a4 i _ (List.getElem?_eq_getElem h1)
  obtain ⟨y1, y2, y3⟩ := b4 i _ (List.getElem?_eq_getElem h2)
  refine Prod.ext (x1.symm.trans y1) (Prod.ext (x2.symm.trans y2) (x3.symm.trans y3))
/-- two octets -/
def tw (h : am_H) (a : Nat) : Int32 := ((am_I h 73 a &&& 255) <<< ((8 : Int32) &&& 31)) ||| (am_I h 73 (a + 1) &&& 255)
theorem tw_nat (h : am_H) (a : Nat) : ∃ n, n < 65536 ∧ tw h a = nI n := by
  obtain ⟨x, hx, ex⟩ := wand255 (am_I h 73 a)
  obtain ⟨y, hy, ey⟩ := wand255 (am_I h 73 (a + 1))
  refine ⟨x * 256 + y, by omega, ?_⟩
  unfold tw
  rw [ex, ey]
  have e1 : nI x <<< ((8 : Int32) &&& 31) = nI (x * 256) := by
    have : ∀ x : Fin 256, nI x.1 <<< ((8 : Int32) &&& 31) = nI (x.1 * 256) := by decide +kernel
    exact this ⟨x, hx⟩
  rw [e1]
  have e2 : x * 256 + y = x * 256 ||| y := by
    have := Nat.two_pow_add_eq_or_of_lt (i := 8) (b := y) (by omega) x
    rw [Nat.mul_comm x 256]
    exact this
  rw [e2]
  apply Int32.toBitVec_inj.mp
  rw [Int32.toBitVec_or]
  show BitVec.ofNat 32 (x * 256) ||| BitVec.ofNat 32 y = BitVec.ofNat 32 (x * 256 ||| y)
  apply BitVec.eq_of_toNat_eq
  rw [BitVec.toNat_or, BitVec.toNat_ofNat, BitVec.toNat_ofNat, BitVec.toNat_ofNat, Nat.mod_eq_of_lt (by omega), Nat.mod_eq_of_lt (by omega), Nat.mod_eq_of_lt (by rw [← e2]; omega)]
theorem rx_two {d a : Nat} {h : am_H} (hS : mo_Sk h) (ha : a + 1 < 131072) : am_Rt nm_pr (d + 1) mi_Mo_two [.ref 72, .int (nI a)] h (fun o h' => o = .inl (some (.int (tw h a))) ∧ h' = h) := by
  have i1 := am_inb (c := a) (N := 131072) (by omega) (by omega)
  have q1 : (nI a).toNatClampNeg = a := nI_clamp (by omega)
  have i2 : (nI (a + 1) < 0 ∨ 131071 ≤ a) = False := eq_false (fun q => by rcases q with q | q; exact nI_pos (by omega) q; omega)
  have q2 : (nI (a + 1)).toNatClampNeg = a + 1 := nI_clamp (by omega)
  refine am_in' (d := d) mt_Mo_two 2 rfl rfl rfl ?_
  refine am_go [13] 8 ?_
  simp only [am_wp, am_stp, am_en, am_as, am_pad, am_nth, am_set, am_st1, am_st2, am_kl, am_kill, am_mem, am_fv, am_tk, am_wt, am_bk, Option.toList, List.cons_append, List.nil_append, Nat.reduceAdd, Nat.reduceEqDiff, Nat.reduceLeDiff, reduceIte, Nat.reduceLT, or_self, true_or, or_true, if_true, if_false, and_self, and_true, true_and, not_false_eq_true, not_true_eq_false, fd_Mo_two_0, fd_Mo_two_1, fd_Mo_two_4, fd_Mo_two_5, fd_Mo_two_6, fd_Mo_two_9, fd_Mo_two_10, fd_Mo_two_12, hS.all, i1, q1]
  refine am_go [] 10 ?_
  simp only [am_wp, am_stp, am_en, am_as, am_pad, am_nth, am_set, am_st1, am_st2, am_kl, am_kill, am_mem, am_fv, am_tk, am_wt, am_bk, Option.toList, List.cons_append, List.nil_append, Nat.reduceAdd, Nat.reduceEqDiff, Nat.reduceLeDiff, reduceIte, Nat.reduceLT, or_self, true_or, or_true, if_true, if_false, and_self, and_true, true_and, not_false_eq_true, not_true_eq_false, fd_Mo_two_13, fd_Mo_two_14, fd_Mo_two_17, fd_Mo_two_18, fd_Mo_two_19, fd_Mo_two_20, fd_Mo_two_21, fd_Mo_two_24, fd_Mo_two_25, fd_Mo_two_26, hS.all, nI_1, i2, q2]
  rfl
def lst : Nat → List Nat → Nat
  | m, [] => m
  | _, a :: ls => lst a ls
theorem lst_get : ∀ (ls : List Nat) (m b : Nat), ls ≠ [] → ls[ls.length - 1]? = some b → lst m ls = b
  | [], _, _, h, _ => absurd rfl h
  | [a], m, b, _, h => by
    have : a = b := by simpa using h
    exact this
  | a :: c :: ls, m, b, _, h => by
    show lst a (c :: ls) = b
    refine lst_get (c :: ls) a b (by simp) ?_
    rw [← h]
    simp
theorem lv_snoc : ∀ (ls : List Nat) (m l : Nat), lv_ok m ls → l ≤ 3 → ((l = 0 ∧ lst m ls = 0) ∨ lst m ls < l) → lv_ok m (ls ++ [l])
  | [], m, l, _, h3, h => ⟨h, h3, trivial⟩
  | a :: ls, m, l, h, h3, hl => ⟨h.1, h.2.1, lv_snoc ls a l h.2.2 h3 hl⟩
theorem up_cnt : ∀ (ls : List Nat), up 0 ls ≤ ls.count 0
  | [] => Nat.le_refl _
  | l :: ls => by
    have ih := up_cnt ls
    unfold up
    by_cases e : l ≤ 0
    · have : l = 0 := by omega
      subst this
      rw [if_pos e, List.count_cons_self]
      omega
    · rw [if_neg e]
      exact Nat.zero_le _
/-- what areRuns has seen -/
def ar_Q (h : am_H) (pg : Nat) (ls : List Nat) : Prop := ls.length ≤ 9 ∧ lv_ok 0 ls ∧ ls.count 0 ≤ 6 ∧ ∀ k l, ls[k]? = some l → am_I h 73 (128 * pg + 7 + 7 * k + 2) &&& 255 = nI l ∧ l ≤ 3 ∧ tw h (128 * pg + 7 + 7 * k + 5) ≠ 0
theorem rx_ar_loop {d pg n : Nat} {h : am_H} (hS : mo_Sk h) (hp : pg < 2) (hn : n < 256) : ∀ (m : Nat) (ls : List Nat) (w5 w6 w7 : Value), m + ls.length = n → ar_Q h pg ls →
    am_Ex nm_pr (d + 1) mt_Mo_areRuns (23, [.ref 72, .int (nI pg), .int (nI n), .int (nI (ls.count 0)), .int (nI ls.length), w5, w6, w7], [], h) (fun o h' => (o = .inl (some (.int 0)) ∨ (o = .inl (some (.int 1)) ∧ ∃ ls, ls.length = n ∧ ar_Q h pg ls)) ∧ h' = h)
  | 0, ls, w5, w6, w7, hm, q => by
    have e : ls.length = n := by omega
    have l1 : ¬ nI ls.length < nI n := nI_nlt (by omega) (by omega)
    refine am_go [29, 160] 3 ?_
    simp only [am_wp, am_stp, am_en, am_as, am_pad, am_nth, am_set, am_st1, am_st2, am_kl, am_kill, am_mem, am_fv, am_tk, am_wt, am_bk, Option.toList, List.cons_append, List.nil_append, Nat.reduceAdd, Nat.reduceEqDiff, Nat.reduceLeDiff, reduceIte, Nat.reduceLT, or_self, true_or, or_true, if_true, if_false, and_self, and_true, true_and, not_false_eq_true, not_true_eq_false, fd_Mo_areRuns_23, fd_Mo_areRuns_25, fd_Mo_areRuns_26, hS.all, l1]
    refine am_go [] 2 ?_
    simp only [am_wp, am_stp, am_en, am_as, am_pad, am_nth, am_set, am_st1, am_st2, am_kl, am_kill, am_mem, am_fv, am_tk, am_wt, am_bk, Option.toList, List.cons_append, List.nil_append, Nat.reduceAdd, Nat.reduceEqDiff, Nat.reduceLeDiff, reduceIte, Nat.reduceLT, or_self, true_or, or_true, if_true, if_false, and_self, and_true, true_and, not_false_eq_true, not_true_eq_false, fd_Mo_areRuns_160, fd_Mo_areRuns_161, hS.all]
    exact Or.inr ⟨ls, e, q⟩
  | m + 1, ls, w5, w6, w7, hm, q => by
    obtain ⟨q1, q2, q3, q4⟩ := id q
    have l1 : nI ls.length < nI n := nI_lt (by omega) (by omega)
    have e1 : 128 * nI pg = nI (128 * pg) := (Int32.ofNat_mul 128 pg).symm
    have e2 : 7 * nI ls.length = nI (7 * ls.length) := (Int32.ofNat_mul 7 ls.length).symm
    have e7 : nI (128 * pg) + 7 = nI (128 * pg + 7) := nI_add (128 * pg) 7
    refine am_go [29, 160] 3 ?_
    simp only [am_wp, am_stp, am_en, am_as, am_pad, am_nth, am_set, am_st1, am_st2, am_kl, am_kill, am_mem, am_fv, am_tk, am_wt, am_bk, Option.toList, List.cons_append, List.nil_append, Nat.reduceAdd, Nat.reduceEqDiff, Nat.reduceLeDiff, reduceIte, Nat.reduceLT, or_self, true_or, or_true, if_true, if_false, and_self, and_true, true_and, not_false_eq_true, not_true_eq_false, fd_Mo_areRuns_23, fd_Mo_areRuns_25, fd_Mo_areRuns_26, hS.all, l1]
    refine am_go [] 10 ?_
    simp only [am_wp, am_stp, am_en, am_as, am_pad, am_nth, am_set, am_st1, am_st2, am_kl, am_kill, am_mem, am_fv, am_tk, am_wt, am_bk, Option.toList, List.cons_append, List.nil_append, Nat.reduceAdd, Nat.reduceEqDiff, Nat.reduceLeDiff, reduceIte, Nat.reduceLT, or_self, true_or, or_true, if_true, if_false, and_self, and_true, true_and, not_false_eq_true, not_true_eq_false, fd_Mo_areRuns_29, fd_Mo_areRuns_32, fd_Mo_areRuns_33, fd_Mo_areRuns_34, fd_Mo_areRuns_36, fd_Mo_areRuns_37, fd_Mo_areRuns_39, fd_Mo_areRuns_41, fd_Mo_areRuns_42, fd_Mo_areRuns_43, e1, e2, e7, nI_add]
    have no : ∀ (w6 w7 : Value), am_Ex nm_pr (d + 1) mt_Mo_areRuns (88, [.ref 72, .int (nI pg), .int (nI n), .int (nI (ls.count 0)), .int (nI ls.length), .int (nI (128 * pg + 7 + 7 * ls.length)), w6, w7], [], h) (fun o h' => (o = .inl (some (.int 0)) ∨ (o = .inl (some (.int 1)) ∧ ∃ ls, ls.length = n ∧ ar_Q h pg ls)) ∧ h' = h) := fun w6 w7 => by
      refine am_go [] 2 ?_
      simp only [am_wp, am_stp, am_en, am_as, am_pad, am_nth, am_set, am_st1, am_st2, am_kl, am_kill, am_mem, am_fv, am_tk, am_wt, am_bk, Option.toList, List.cons_append, List.nil_append, Nat.reduceAdd, Nat.reduceEqDiff, Nat.reduceLeDiff, reduceIte, Nat.reduceLT, or_self, true_or, or_true, if_true, if_false, and_self, and_true, true_and, not_false_eq_true, not_true_eq_false, fd_Mo_areRuns_88, fd_Mo_areRuns_89, hS.all]
    by_cases h9 : ls.length < 9
    · have l9 : nI ls.length < 9 := nI_lt (b := 9) h9 (by decide)
      have e3 : nI (128 * pg + 7 + 7 * ls.length) + 2 = nI (128 * pg + 7 + 7 * ls.length + 2) := nI_add _ 2
      have i3 := am_inb (c := 128 * pg + 7 + 7 * ls.length + 2) (N := 131072) (by omega) (by omega)
      have c3 : (nI (128 * pg + 7 + 7 * ls.length + 2)).toNatClampNeg = 128 * pg + 7 + 7 * ls.length + 2 := nI_clamp (by omega)
      obtain ⟨l, hl, el⟩ := wand255 (am_I h 73 (128 * pg + 7 + 7 * ls.length + 2))
      generalize hA : 128 * pg + 7 + 7 * ls.length + 2 = A at *
      refine am_go [52, 68] 3 ?_
      simp only [am_wp, am_stp, am_en, am_as, am_pad, am_nth, am_set, am_st1, am_st2, am_kl, am_kill, am_mem, am_fv, am_tk, am_wt, am_bk, Option.toList, List.cons_append, List.nil_append, Nat.reduceAdd, Nat.reduceEqDiff, Nat.reduceLeDiff, reduceIte, Nat.reduceLT, or_self, true_or, or_true, if_true, if_false, and_self, and_true, true_and, not_false_eq_true, not_true_eq_false, fd_Mo_areRuns_45, fd_Mo_areRuns_47, fd_Mo_areRuns_49, hS.all, l9]
      refine am_go [69] 9 ?_
      simp only [am_wp, am_stp, am_en, am_as, am_pad, am_nth, am_set, am_st1, am_st2, am_kl, am_kill, am_mem, am_fv, am_tk, am_wt, am_bk, Option.toList, List.cons_append, List.nil_append, Nat.reduceAdd, Nat.reduceEqDiff, Nat.reduceLeDiff, reduceIte, Nat.reduceLT, or_self, true_or, or_true, if_true, if_false, and_self, and_true, true_and, not_false_eq_true, not_true_eq_false, fd_Mo_areRuns_52, fd_Mo_areRuns_53, fd_Mo_areRuns_56, fd_Mo_areRuns_58, fd_Mo_areRuns_59, fd_Mo_areRuns_60, fd_Mo_areRuns_61, fd_Mo_areRuns_64, fd_Mo_areRuns_65, hS.all, e3, i3, c3, el]
      refine am_go [] 1 ?_
      simp only [am_wp, am_stp, am_en, am_as, am_pad, am_nth, am_set, am_st1, am_st2, am_kl, am_kill, am_mem, am_fv, am_tk, am_wt, am_bk, Option.toList, List.cons_append, List.nil_append, Nat.reduceAdd, Nat.reduceEqDiff, Nat.reduceLeDiff, reduceIte, Nat.reduceLT, or_self, true_or, or_true, if_true, if_false, and_self, and_true, true_and, not_false_eq_true, not_true_eq_false, fd_Mo_areRuns_69]
      by_cases h3 : l ≤ 3
      · have l3 : ¬ 3 < nI l := nI_nlt (a := 3) h3 (by decide)
        have e5 : nI (128 * pg + 7 + 7 * ls.length) + 5 = nI (128 * pg + 7 + 7 * ls.length + 5) := nI_add _ 5
        refine am_go [77, 88] 3 ?_
        simp only [am_wp, am_stp, am_en, am_as, am_pad, am_nth, am_set, am_st1, am_st2, am_kl, am_kill, am_mem, am_fv, am_tk, am_wt, am_bk, Option.toList, List.cons_append, List.nil_append, Nat.reduceAdd, Nat.reduceEqDiff, Nat.reduceLeDiff, reduceIte, Nat.reduceLT, or_self, true_or, or_true, if_true, if_false, and_self, and_true, true_and, not_false_eq_true, not_true_eq_false, fd_Mo_areRuns_71, fd_Mo_areRuns_73, fd_Mo_areRuns_74, hS.all, l3]
        refine am_go [] 5 ?_
        simp only [am_wp, am_stp, am_en, am_as, am_pad, am_nth, am_set, am_st1, am_st2, am_kl, am_kill, am_mem, am_fv, am_tk, am_wt, am_bk, Option.toList, List.cons_append, List.nil_append, Nat.reduceAdd, Nat.reduceEqDiff, Nat.reduceLeDiff, reduceIte, Nat.reduceLT, or_self, true_or, or_true, if_true, if_false, and_self, and_true, true_and, not_false_eq_true, not_true_eq_false, fd_Mo_areRuns_77, fd_Mo_areRuns_78, fd_Mo_areRuns_80, fd_Mo_areRuns_81, fd_Mo_areRuns_82, hS.all, e5]
        refine am_call (rx_two (d := d) hS (by omega)) (fun o g w => ?_)
        obtain ⟨rfl, rfl⟩ := w
        simp only [am_wp, am_stp, am_en, am_as, am_pad, am_nth, am_set, am_st1, am_st2, am_kl, am_kill, am_mem, am_fv, am_tk, am_wt, am_bk, Option.toList, List.cons_append, List.nil_append, Nat.reduceAdd, Nat.reduceEqDiff, Nat.reduceLeDiff, reduceIte, Nat.reduceLT, or_self, true_or, or_true, if_true, if_false, and_self, and_true, true_and, not_false_eq_true, not_true_eq_false]
        by_cases ht : tw g (128 * pg + 7 + 7 * ls.length + 5) = 0
        · refine am_go [88, 90] 1 ?_
          simp only [am_wp, am_stp, am_en, am_as, am_pad, am_nth, am_set, am_st1, am_st2, am_kl, am_kill, am_mem, am_fv, am_tk, am_wt, am_bk, Option.toList, List.cons_append, List.nil_append, Nat.reduceAdd, Nat.reduceEqDiff, Nat.reduceLeDiff, reduceIte, Nat.reduceLT, or_self, true_or, or_true, if_true, if_false, and_self, and_true, true_and, not_false_eq_true, not_true_eq_false, fd_Mo_areRuns_85, hS.all, ht]
          exact no _ _
        refine am_go [88, 90] 1 ?_
        simp only [am_wp, am_stp, am_en, am_as, am_pad, am_nth, am_set, am_st1, am_st2, am_kl, am_kill, am_mem, am_fv, am_tk, am_wt, am_bk, Option.toList, List.cons_append, List.nil_append, Nat.reduceAdd, Nat.reduceEqDiff, Nat.reduceLeDiff, reduceIte, Nat.reduceLT, or_self, true_or, or_true, if_true, if_false, and_self, and_true, true_and, not_false_eq_true, not_true_eq_false, fd_Mo_areRuns_85, hS.all, ht]
        -- the noughts
        have cn : (ls ++ [l]).count 0 = ls.count 0 + (if l = 0 then 1 else 0) := by
          rw [List.count_append]
          by_cases e : l = 0
          · rw [if_pos e, e]; rfl
          · rw [if_neg e]
            simp [List.count_cons, e]
        have rest : am_Ex nm_pr (d + 1) mt_Mo_areRuns (103, [.ref 72, .int (nI pg), .int (nI n), .int (nI ((ls ++ [l]).count 0)), .int (nI ls.length), .int (nI (128 * pg + 7 + 7 * ls.length)), .int (nI l), w7], [], g) (fun o h' => (o = .inl (some (.int 0)) ∨ (o = .inl (some (.int 1)) ∧ ∃ ls, ls.length = n ∧ ar_Q g pg ls)) ∧ h' = g) := by
          have c9 : (ls ++ [l]).count 0 ≤ 10 := by
            have := cnt_le (ls ++ [l]) 0
            rw [List.length_append] at this
            simp only [List.length_cons, List.length_nil] at this
            omega
          have fin : ∀ b, b = lst 0 ls → b ≤ 3 → am_Ex nm_pr (d + 1) mt_Mo_areRuns (125, [.ref 72, .int (nI pg), .int (nI n), .int (nI ((ls ++ [l]).count 0)), .int (nI ls.length), .int (nI (128 * pg + 7 + 7 * ls.length)), .int (nI l), w7], [.int (nI b)], g) (fun o h' => (o = .inl (some (.int 0)) ∨ (o = .inl (some (.int 1)) ∧ ∃ ls, ls.length = n ∧ ar_Q g pg ls)) ∧ h' = g) := fun b hb hb3 => by
            have bad : am_Ex nm_pr (d + 1) mt_Mo_areRuns (152, [.ref 72, .int (nI pg), .int (nI n), .int (nI ((ls ++ [l]).count 0)), .int (nI ls.length), .int (nI (128 * pg + 7 + 7 * ls.length)), .int (nI l), .int (nI b)], [], g) (fun o h' => (o = .inl (some (.int 0)) ∨ (o = .inl (some (.int 1)) ∧ ∃ ls, ls.length = n ∧ ar_Q g pg ls)) ∧ h' = g) := by
              refine am_go [] 2 ?_
              simp only [am_wp, am_stp, am_en, am_as, am_pad, am_nth, am_set, am_st1, am_st2, am_kl, am_kill, am_mem, am_fv, am_tk, am_wt, am_bk, Option.toList, List.cons_append, List.nil_append, Nat.reduceAdd, Nat.reduceEqDiff, Nat.reduceLeDiff, reduceIte, Nat.reduceLT, or_self, true_or, or_true, if_true, if_false, and_self, and_true, true_and, not_false_eq_true, not_true_eq_false, fd_Mo_areRuns_152, fd_Mo_areRuns_153, hS.all]
            have ok : (ls ++ [l]).count 0 ≤ 6 → ((l = 0 ∧ b = 0) ∨ b < l) → am_Ex nm_pr (d + 1) mt_Mo_areRuns (154, [.ref 72, .int (nI pg), .int (nI n), .int (nI ((ls ++ [l]).count 0)), .int (nI ls.length), .int (nI (128 * pg + 7 + 7 * ls.length)), .int (nI l), .int (nI b)], [], g) (fun o h' => (o = .inl (some (.int 0)) ∨ (o = .inl (some (.int 1)) ∧ ∃ ls, ls.length = n ∧ ar_Q g pg ls)) ∧ h' = g) := fun k1 k2 => by
              refine am_go [23] 2 ?_
              simp only [am_wp, am_stp, am_en, am_as, am_pad, am_nth, am_set, am_st1, am_st2, am_kl, am_kill, am_mem, am_fv, am_tk, am_wt, am_bk, Option.toList, List.cons_append, List.nil_append, Nat.reduceAdd, Nat.reduceEqDiff, Nat.reduceLeDiff, reduceIte, Nat.reduceLT, or_self, true_or, or_true, if_true, if_false, and_self, and_true, true_and, not_false_eq_true, not_true_eq_false, fd_Mo_areRuns_154, fd_Mo_areRuns_157, nI_1]
              have el' : (ls ++ [l]).length = ls.length + 1 := by simp
              have := rx_ar_loop (d := d) hS hp hn m (ls ++ [l]) (.int (nI (128 * pg + 7 + 7 * ls.length))) (.int (nI l)) (.int (nI b)) (by rw [el']; omega) ⟨by omega, lv_snoc ls 0 l q2 h3 (by rw [← hb]; exact k2), k1, fun k x hk => ?_⟩
              · rw [el'] at this
                exact this
              · by_cases ek : k < ls.length
                · rw [List.getElem?_append_left ek] at hk
                  exact q4 k x hk
                · rw [List.getElem?_append_right (by omega)] at hk
                  have hk0 : k - ls.length = 0 := by
                    have := (List.getElem?_eq_some_iff.mp hk).1
                    simpa using this
                  rw [hk0] at hk
                  have : l = x := by simpa using hk
                  subst this
                  have : k = ls.length := by omega
                  subst this
                  exact ⟨by rw [hA]; exact el, h3, ht⟩
            refine am_go [] 1 ?_
            simp only [am_wp, am_stp, am_en, am_as, am_pad, am_nth, am_set, am_st1, am_st2, am_kl, am_kill, am_mem, am_fv, am_tk, am_wt, am_bk, Option.toList, List.cons_append, List.nil_append, Nat.reduceAdd, Nat.reduceEqDiff, Nat.reduceLeDiff, reduceIte, Nat.reduceLT, or_self, true_or, or_true, if_true, if_false, and_self, and_true, true_and, not_false_eq_true, not_true_eq_false, fd_Mo_areRuns_125]
            by_cases z6 : (ls ++ [l]).count 0 ≤ 6
            · have m6 : ¬ 6 < nI ((ls ++ [l]).count 0) := nI_nlt (a := 6) z6 (by decide)
              refine am_go [133, 152] 3 ?_
              simp only [am_wp, am_stp, am_en, am_as, am_pad, am_nth, am_set, am_st1, am_st2, am_kl, am_kill, am_mem, am_fv, am_tk, am_wt, am_bk, Option.toList, List.cons_append, List.nil_append, Nat.reduceAdd, Nat.reduceEqDiff, Nat.reduceLeDiff, reduceIte, Nat.reduceLT, or_self, true_or, or_true, if_true, if_false, and_self, and_true, true_and, not_false_eq_true, not_true_eq_false, fd_Mo_areRuns_127, fd_Mo_areRuns_128, fd_Mo_areRuns_130, hS.all, m6]
              by_cases zb : l < b
              · have m7 : nI l < nI b := nI_lt zb (by omega)
                refine am_go [140, 152] 3 ?_
                simp only [am_wp, am_stp, am_en, am_as, am_pad, am_nth, am_set, am_st1, am_st2, am_kl, am_kill, am_mem, am_fv, am_tk, am_wt, am_bk, Option.toList, List.cons_append, List.nil_append, Nat.reduceAdd, Nat.reduceEqDiff, Nat.reduceLeDiff, reduceIte, Nat.reduceLT, or_self, true_or, or_true, if_true, if_false, and_self, and_true, true_and, not_false_eq_true, not_true_eq_false, fd_Mo_areRuns_133, fd_Mo_areRuns_135, fd_Mo_areRuns_137, hS.all, m7]
                exact bad
              have m7 : ¬ nI l < nI b := nI_nlt (by omega) (by omega)
              refine am_go [140, 152] 3 ?_
              simp only [am_wp, am_stp, am_en, am_as, am_pad, am_nth, am_set, am_st1, am_st2, am_kl, am_kill, am_mem, am_fv, am_tk, am_wt, am_bk, Option.toList, List.cons_append, List.nil_append, Nat.reduceAdd, Nat.reduceEqDiff, Nat.reduceLeDiff, reduceIte, Nat.reduceLT, or_self, true_or, or_true, if_true, if_false, and_self, and_true, true_and, not_false_eq_true, not_true_eq_false, fd_Mo_areRuns_133, fd_Mo_areRuns_135, fd_Mo_areRuns_137, hS.all, m7]
              by_cases ze : l = b
              · have m8 : (nI l = nI b) = True := eq_true (by rw [ze])
                refine am_go [147, 154] 3 ?_
                simp only [am_wp, am_stp, am_en, am_as, am_pad, am_nth, am_set, am_st1, am_st2, am_kl, am_kill, am_mem, am_fv, am_tk, am_wt, am_bk, Option.toList, List.cons_append, List.nil_append, Nat.reduceAdd, Nat.reduceEqDiff, Nat.reduceLeDiff, reduceIte, Nat.reduceLT, or_self, true_or, or_true, if_true, if_false, and_self, and_true, true_and, not_false_eq_true, not_true_eq_false, fd_Mo_areRuns_140, fd_Mo_areRuns_142, fd_Mo_areRuns_144, hS.all, m8]
                by_cases z0 : l = 0
                · have m9 : ¬ 0 < nI l := by rw [z0]; decide
                  refine am_go [152, 154] 2 ?_
                  simp only [am_wp, am_stp, am_en, am_as, am_pad, am_nth, am_set, am_st1, am_st2, am_kl, am_kill, am_mem, am_fv, am_tk, am_wt, am_bk, Option.toList, List.cons_append, List.nil_append, Nat.reduceAdd, Nat.reduceEqDiff, Nat.reduceLeDiff, reduceIte, Nat.reduceLT, or_self, true_or, or_true, if_true, if_false, and_self, and_true, true_and, not_false_eq_true, not_true_eq_false, fd_Mo_areRuns_147, fd_Mo_areRuns_149, hS.all, m9]
                  exact ok z6 (Or.inl ⟨z0, by omega⟩)
                · have m9 : 0 < nI l := nI_gt0 (by omega) (by omega)
                  refine am_go [152, 154] 2 ?_
                  simp only [am_wp, am_stp, am_en, am_as, am_pad, am_nth, am_set, am_st1, am_st2, am_kl, am_kill, am_mem, am_fv, am_tk, am_wt, am_bk, Option.toList, List.cons_append, List.nil_append, Nat.reduceAdd, Nat.reduceEqDiff, Nat.reduceLeDiff, reduceIte, Nat.reduceLT, or_self, true_or, or_true, if_true, if_false, and_self, and_true, true_and, not_false_eq_true, not_true_eq_false, fd_Mo_areRuns_147, fd_Mo_areRuns_149, hS.all, m9]
                  exact bad
              · have m8 : ¬ nI l = nI b := fun e => ze (wnI_inj (by omega) (by omega) e)
                refine am_go [147, 154] 3 ?_
                simp only [am_wp, am_stp, am_en, am_as, am_pad, am_nth, am_set, am_st1, am_st2, am_kl, am_kill, am_mem, am_fv, am_tk, am_wt, am_bk, Option.toList, List.cons_append, List.nil_append, Nat.reduceAdd, Nat.reduceEqDiff, Nat.reduceLeDiff, reduceIte, Nat.reduceLT, or_self, true_or, or_true, if_true, if_false, and_self, and_true, true_and, not_false_eq_true, not_true_eq_false, fd_Mo_areRuns_140, fd_Mo_areRuns_142, fd_Mo_areRuns_144, hS.all, m8]
                exact ok z6 (Or.inr (by omega))
            · have m6 : 6 < nI ((ls ++ [l]).count 0) := nI_lt (a := 6) (by omega) (by omega)
              refine am_go [133, 152] 3 ?_
              simp only [am_wp, am_stp, am_en, am_as, am_pad, am_nth, am_set, am_st1, am_st2, am_kl, am_kill, am_mem, am_fv, am_tk, am_wt, am_bk, Option.toList, List.cons_append, List.nil_append, Nat.reduceAdd, Nat.reduceEqDiff, Nat.reduceLeDiff, reduceIte, Nat.reduceLT, or_self, true_or, or_true, if_true, if_false, and_self, and_true, true_and, not_false_eq_true, not_true_eq_false, fd_Mo_areRuns_127, fd_Mo_areRuns_128, fd_Mo_areRuns_130, hS.all, m6]
              exact bad
          by_cases k0 : ls.length = 0
          · have z : (nI ls.length = 0) = True := eq_true (by rw [k0]; rfl)
            have en : ls = [] := List.length_eq_zero_iff.mp k0
            refine am_go [108, 112] 2 ?_
            simp only [am_wp, am_stp, am_en, am_as, am_pad, am_nth, am_set, am_st1, am_st2, am_kl, am_kill, am_mem, am_fv, am_tk, am_wt, am_bk, Option.toList, List.cons_append, List.nil_append, Nat.reduceAdd, Nat.reduceEqDiff, Nat.reduceLeDiff, reduceIte, Nat.reduceLT, or_self, true_or, or_true, if_true, if_false, and_self, and_true, true_and, not_false_eq_true, not_true_eq_false, fd_Mo_areRuns_103, fd_Mo_areRuns_105, hS.all, z]
            refine am_go [125] 2 ?_
            simp only [am_wp, am_stp, am_en, am_as, am_pad, am_nth, am_set, am_st1, am_st2, am_kl, am_kill, am_mem, am_fv, am_tk, am_wt, am_bk, Option.toList, List.cons_append, List.nil_append, Nat.reduceAdd, Nat.reduceEqDiff, Nat.reduceLeDiff, reduceIte, Nat.reduceLT, or_self, true_or, or_true, if_true, if_false, and_self, and_true, true_and, not_false_eq_true, not_true_eq_false, fd_Mo_areRuns_108, fd_Mo_areRuns_109, hS.all]
            exact fin 0 (by rw [en]; rfl) (by omega)
          · have z : ¬ nI ls.length = 0 := nI_ne0 (by omega) (by omega)
            obtain ⟨b, hb⟩ : ∃ b, ls[ls.length - 1]? = some b := ⟨ls[ls.length - 1]'(by omega), List.getElem?_eq_getElem (by omega)⟩
            obtain ⟨b1, b2, -⟩ := q4 _ _ hb
            have em : nI (128 * pg + 7 + 7 * ls.length) - 5 = nI (128 * pg + 7 + 7 * (ls.length - 1) + 2) := by
              have := nI_sub (a := 128 * pg + 7 + 7 * ls.length) (b := 5) (by omega)
              rw [show 128 * pg + 7 + 7 * ls.length - 5 = 128 * pg + 7 + 7 * (ls.length - 1) + 2 by omega] at this
              exact this
            generalize hD : 128 * pg + 7 + 7 * (ls.length - 1) + 2 = D at *
            have i4 := am_inb (c := D) (N := 131072) (by omega) (by omega)
            have c4 : (nI D).toNatClampNeg = D := nI_clamp (by omega)
            refine am_go [108, 112] 2 ?_
            simp only [am_wp, am_stp, am_en, am_as, am_pad, am_nth, am_set, am_st1, am_st2, am_kl, am_kill, am_mem, am_fv, am_tk, am_wt, am_bk, Option.toList, List.cons_append, List.nil_append, Nat.reduceAdd, Nat.reduceEqDiff, Nat.reduceLeDiff, reduceIte, Nat.reduceLT, or_self, true_or, or_true, if_true, if_false, and_self, and_true, true_and, not_false_eq_true, not_true_eq_false, fd_Mo_areRuns_103, fd_Mo_areRuns_105, hS.all, z]
            refine am_go [125] 8 ?_
            simp only [am_wp, am_stp, am_en, am_as, am_pad, am_nth, am_set, am_st1, am_st2, am_kl, am_kill, am_mem, am_fv, am_tk, am_wt, am_bk, Option.toList, List.cons_append, List.nil_append, Nat.reduceAdd, Nat.reduceEqDiff, Nat.reduceLeDiff, reduceIte, Nat.reduceLT, or_self, true_or, or_true, if_true, if_false, and_self, and_true, true_and, not_false_eq_true, not_true_eq_false, fd_Mo_areRuns_112, fd_Mo_areRuns_113, fd_Mo_areRuns_116, fd_Mo_areRuns_118, fd_Mo_areRuns_119, fd_Mo_areRuns_120, fd_Mo_areRuns_121, fd_Mo_areRuns_124, hS.all, em, i4, c4, b1]
            exact fin b (lst_get ls 0 b (fun e => k0 (by rw [e]; rfl)) hb).symm b2
        by_cases zl : l = 0
        · have z : nI l = 0 := by rw [zl]; rfl
          rw [cn, if_pos zl] at rest
          refine am_go [96, 100] 3 ?_
          simp only [am_wp, am_stp, am_en, am_as, am_pad, am_nth, am_set, am_st1, am_st2, am_kl, am_kill, am_mem, am_fv, am_tk, am_wt, am_bk, Option.toList, List.cons_append, List.nil_append, Nat.reduceAdd, Nat.reduceEqDiff, Nat.reduceLeDiff, reduceIte, Nat.reduceLT, or_self, true_or, or_true, if_true, if_false, and_self, and_true, true_and, not_false_eq_true, not_true_eq_false, fd_Mo_areRuns_90, fd_Mo_areRuns_91, fd_Mo_areRuns_93, hS.all, z]
          refine am_go [103] 4 ?_
          simp only [am_wp, am_stp, am_en, am_as, am_pad, am_nth, am_set, am_st1, am_st2, am_kl, am_kill, am_mem, am_fv, am_tk, am_wt, am_bk, Option.toList, List.cons_append, List.nil_append, Nat.reduceAdd, Nat.reduceEqDiff, Nat.reduceLeDiff, reduceIte, Nat.reduceLT, or_self, true_or, or_true, if_true, if_false, and_self, and_true, true_and, not_false_eq_true, not_true_eq_false, fd_Mo_areRuns_96, fd_Mo_areRuns_97, fd_Mo_areRuns_101, fd_Mo_areRuns_102, nI_1]
          rw [z] at rest
          exact rest
        · have z : ¬ nI l = 0 := nI_ne0 (by omega) (by omega)
          have za : nI (ls.count 0) + 0 = nI (ls.count 0) := Int32.add_zero _
          rw [cn, if_neg zl] at rest
          refine am_go [96, 100] 3 ?_
          simp only [am_wp, am_stp, am_en, am_as, am_pad, am_nth, am_set, am_st1, am_st2, am_kl, am_kill, am_mem, am_fv, am_tk, am_wt, am_bk, Option.toList, List.cons_append, List.nil_append, Nat.reduceAdd, Nat.reduceEqDiff, Nat.reduceLeDiff, reduceIte, Nat.reduceLT, or_self, true_or, or_true, if_true, if_false, and_self, and_true, true_and, not_false_eq_true, not_true_eq_false, fd_Mo_areRuns_90, fd_Mo_areRuns_91, fd_Mo_areRuns_93, hS.all, z]
          refine am_go [103] 3 ?_
          simp only [am_wp, am_stp, am_en, am_as, am_pad, am_nth, am_set, am_st1, am_st2, am_kl, am_kill, am_mem, am_fv, am_tk, am_wt, am_bk, Option.toList, List.cons_append, List.nil_append, Nat.reduceAdd, Nat.reduceEqDiff, Nat.reduceLeDiff, reduceIte, Nat.reduceLT, or_self, true_or, or_true, if_true, if_false, and_self, and_true, true_and, not_false_eq_true, not_true_eq_false, fd_Mo_areRuns_100, fd_Mo_areRuns_101, fd_Mo_areRuns_102, za]
          exact rest
      · have l3 : 3 < nI l := nI_lt (a := 3) (by omega) (by omega)
        refine am_go [77, 88] 3 ?_
        simp only [am_wp, am_stp, am_en, am_as, am_pad, am_nth, am_set, am_st1, am_st2, am_kl, am_kill, am_mem, am_fv, am_tk, am_wt, am_bk, Option.toList, List.cons_append, List.nil_append, Nat.reduceAdd, Nat.reduceEqDiff, Nat.reduceLeDiff, reduceIte, Nat.reduceLT, or_self, true_or, or_true, if_true, if_false, and_self, and_true, true_and, not_false_eq_true, not_true_eq_false, fd_Mo_areRuns_71, fd_Mo_areRuns_73, fd_Mo_areRuns_74, hS.all, l3]
        exact no _ _
    · have l9 : ¬ nI ls.length < 9 := nI_nlt (b := 9) (by omega) (by omega)
      have l3 : (3 : Int32) < 4 := by decide
      refine am_go [52, 68] 3 ?_
      simp only [am_wp, am_stp, am_en, am_as, am_pad, am_nth, am_set, am_st1, am_st2, am_kl, am_kill, am_mem, am_fv, am_tk, am_wt, am_bk, Option.toList, List.cons_append, List.nil_append, Nat.reduceAdd, Nat.reduceEqDiff, Nat.reduceLeDiff, reduceIte, Nat.reduceLT, or_self, true_or, or_true, if_true, if_false, and_self, and_true, true_and, not_false_eq_true, not_true_eq_false, fd_Mo_areRuns_45, fd_Mo_areRuns_47, fd_Mo_areRuns_49, hS.all, l9]
      refine am_go [] 2 ?_
      simp only [am_wp, am_stp, am_en, am_as, am_pad, am_nth, am_set, am_st1, am_st2, am_kl, am_kill, am_mem, am_fv, am_tk, am_wt, am_bk, Option.toList, List.cons_append, List.nil_append, Nat.reduceAdd, Nat.reduceEqDiff, Nat.reduceLeDiff, reduceIte, Nat.reduceLT, or_self, true_or, or_true, if_true, if_false, and_self, and_true, true_and, not_false_eq_true, not_true_eq_false, fd_Mo_areRuns_68, fd_Mo_areRuns_69]
      refine am_go [77, 88] 3 ?_
      simp only [am_wp, am_stp, am_en, am_as, am_pad, am_nth, am_set, am_st1, am_st2, am_kl, am_kill, am_mem, am_fv, am_tk, am_wt, am_bk, Option.toList, List.cons_append, List.nil_append, Nat.reduceAdd, Nat.reduceEqDiff, Nat.reduceLeDiff, reduceIte, Nat.reduceLT, or_self, true_or, or_true, if_true, if_false, and_self, and_true, true_and, not_false_eq_true, not_true_eq_false, fd_Mo_areRuns_71, fd_Mo_areRuns_73, fd_Mo_areRuns_74, hS.all, l3]
      exact no _ _
