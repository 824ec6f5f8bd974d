/-! THE LAW's LOOP: one call at most -/
def lw_Q1 (o : am_O) (h : am_H) : Prop := o = .inl (some (.int 1)) ∧ am_ce h ≤ 600002 ∧ am_sl h ≤ 7302198
def lw_ls (a b c : Value) : List Value := [.ref 1, .ref 2, .ref 72, .ref 108, .int 1, a, b, c]
theorem l2_law_out {d L : Nat} {i : Int32} {a b c : Value} {h : am_H} (hk : am_kd h 1 = 99) (hl : am_ln h 1 = L) (hi : L.toInt32 - 7 < i) (hc : am_ce h ≤ 600002) (hs : am_sl h ≤ 7302198) : am_Ex nm_pr d mt_La_law (33, [.ref 1, .ref 2, .ref 72, .ref 108, .int i, a, b, c], [], h) lw_Q1 := by
  refine am_go [43] 10 ?_
  have n1 : ¬ (99 = 100) := by decide
  have n2 : ¬ (99 = 102) := by decide
  have o1 : (1 : Int32) = 0 ∨ (1 : Int32) = 1 := by decide
  simp only [am_wp, am_stp, am_en, am_as, am_pad, am_nth, am_set, am_st1, am_st2, am_kl, am_kill, am_mem, am_fv, am_tk, am_wt, am_bk, Option.toList, List.cons_append, List.nil_append, Nat.reduceAdd, Nat.reduceEqDiff, Nat.reduceLeDiff, reduceIte, Nat.reduceLT, or_self, true_or, or_true, if_true, if_false, and_self, and_true, true_and, not_false_eq_true, not_true_eq_false, fd_La_law_33, fd_La_law_35, fd_La_law_36, fd_La_law_37, fd_La_law_39, fd_La_law_40, fd_La_law_1640, fd_La_law_1641, hk, hl, n1, n2, hi, o1]
  exact ⟨rfl, hc, hs⟩
theorem l2_law_end {d : Nat} {a b c : Value} {h : am_H} (hk : am_kd h 1 = 99) (hl : am_ln h 1 = 8) (hc : am_ce h ≤ 600002) (hs : am_sl h ≤ 7302198) : am_Ex nm_pr d mt_La_law (1634, [.ref 1, .ref 2, .ref 72, .ref 108, .int 1, a, b, c], [], h) lw_Q1 := by
  refine am_go [33] 10 ?_
  have e : (1 : Int32) + 7 = 8 := by decide
  simp only [am_wp, am_stp, am_en, am_as, am_pad, am_nth, am_set, am_st1, am_st2, am_kl, am_kill, am_mem, am_fv, am_tk, am_wt, am_bk, Option.toList, List.cons_append, List.nil_append, Nat.reduceAdd, Nat.reduceEqDiff, Nat.reduceLeDiff, reduceIte, Nat.reduceLT, or_self, true_or, or_true, if_true, if_false, and_self, and_true, true_and, not_false_eq_true, not_true_eq_false, fd_La_law_1634, fd_La_law_1637, e]
  exact l2_law_out hk hl (by decide) hc hs
def lw_ts : List Nat := [148, 280, 368, 500, 658, 702, 746, 790, 846, 945, 958, 1102, 1169, 1237, 1332, 1400, 1460, 1473, 1521, 1534, 1578]
/-- what is to be shown of the call at pc t -/
def lw_op (xs : Nat → Int32) (t : Nat) : Prop := ∀ (d : Nat) (h : am_H), lw_G 8 xs h → am_Ex nm_pr (d + 12) mt_La_law (t, [.ref 1, .ref 2, .ref 72, .ref 108, .int 1, .retAddr 0, .retAddr 0, .retAddr 0], [], h) lw_Q1
theorem l2_law {d L : Nat} {xs : Nat → Int32} (hL : L ≤ 8) (hops : ∀ j t, lw_ts[j]? = some t → xs 1 &&& 31 = nI j → lw_op xs t) : am_Ex nm_pr (d + 12) mt_La_law (0, am_en [.ref 1] 8, [], am_0 L xs) lw_Q1 := by
  refine l2_law_1 (d := d + 7) hL (fun h G => ?_)
  obtain ⟨g1, g2, g3, g4, g5, g6, g7, g8, g9, g10⟩ := id G
  have hP := (pg_spec (sc_0 L xs)).2.2
  have hc : am_ce h ≤ 600002 := by omega
  have hs : am_sl h ≤ 7302198 := by omega
  by_cases e : L = 8
  · subst e
    refine am_go [] 12 ?_
    have n1 : ¬ (99 = 100) := by decide
    have n2 : ¬ (99 = 102) := by decide
    have h1 : ¬ ((8 : Nat).toInt32 - 7 < 1) := by decide
    have h2 : ¬ ((1 : Int32) < 0 ∨ 8 ≤ (1 : Int32).toNatClampNeg) := by decide
    have h3 : (1 : Int32).toNatClampNeg = 1 := by decide
    have h4 : am_I h 1 1 = xs 1 := by rw [g8]
    simp only [am_wp, am_stp, am_en, am_as, am_pad, am_nth, am_set, am_st1, am_st2, am_kl, am_kill, am_mem, am_fv, am_tk, am_wt, am_bk, Option.toList, List.cons_append, List.nil_append, Nat.reduceAdd, Nat.reduceEqDiff, Nat.reduceLeDiff, reduceIte, Nat.reduceLT, or_self, true_or, or_true, if_true, if_false, and_self, and_true, true_and, not_false_eq_true, not_true_eq_false, fd_La_law_33, fd_La_law_35, fd_La_law_36, fd_La_law_37, fd_La_law_39, fd_La_law_40, fd_La_law_43, fd_La_law_44, fd_La_law_46, fd_La_law_47, fd_La_law_49, fd_La_law_50, fd_La_law_1640, fd_La_law_1641, g6, g7, n1, n2, h1, h2]
    rw [h3, h4]
    have ets : (List.map (fun o => ((50 : Int) + o).toNat) [98, 230, 318, 450, 608, 652, 696, 740, 796, 895, 908, 1052, 1119, 1187, 1282, 1350, 1410, 1423, 1471, 1484, 1528]) = lw_ts := by decide
    have key := am_sw_spec (xs 1 &&& 31) (fun t => am_Ex nm_pr (d + 12) mt_La_law (t, [.ref 1, .ref 2, .ref 72, .ref 108, .int 1, .retAddr 0, .retAddr 0, .retAddr 0], [], h) lw_Q1) 1634 lw_ts 0 (by decide)
    have fin : am_sw (xs 1 &&& 31) (fun t => am_Ex nm_pr (d + 12) mt_La_law (t, [.ref 1, .ref 2, .ref 72, .ref 108, .int 1, .retAddr 0, .retAddr 0, .retAddr 0], [], h) lw_Q1) 1634 0 lw_ts := by
      rcases key with ⟨j, t, k1, k2, k3⟩ | ⟨k1, k2⟩
      · have k3' : am_sw (xs 1 &&& 31) (fun t => am_Ex nm_pr (d + 12) mt_La_law (t, [.ref 1, .ref 2, .ref 72, .ref 108, .int 1, .retAddr 0, .retAddr 0, .retAddr 0], [], h) lw_Q1) 1634 0 lw_ts = _ := k3
        rw [k3']
        rw [Nat.zero_add] at k2
        exact hops j t k1 k2 d h G
      · have k2' : am_sw (xs 1 &&& 31) (fun t => am_Ex nm_pr (d + 12) mt_La_law (t, [.ref 1, .ref 2, .ref 72, .ref 108, .int 1, .retAddr 0, .retAddr 0, .retAddr 0], [], h) lw_Q1) 1634 0 lw_ts = _ := k2
        rw [k2']
        exact l2_law_end g6 g7 hc hs
    rw [← ets] at fin
    exact fin
  · refine l2_law_out g6 g7 ?_ hc hs
    rcases (show L = 0 ∨ L = 1 ∨ L = 2 ∨ L = 3 ∨ L = 4 ∨ L = 5 ∨ L = 6 ∨ L = 7 by omega) with rfl | rfl | rfl | rfl | rfl | rfl | rfl | rfl <;> decide
