/-! THE REFERENCE'S CALLS, 2 -/
def umk (mk : Nat → List Nat) (m : Nat) (l : List Nat) : Nat → List Nat := fun i => if i = m then l else mk i
theorem al_cnt {now l : List Nat} {mk : Nat → List Nat} {m : Nat} (hm : m < 8) (t : Nat) : (al now (umk mk m l)).count t + (mk m).count t = (al now mk).count t + l.count t := by
  have e8 : m = 0 ∨ m = 1 ∨ m = 2 ∨ m = 3 ∨ m = 4 ∨ m = 5 ∨ m = 6 ∨ m = 7 := by omega
  rcases e8 with e | e | e | e | e | e | e | e <;> subst e <;> simp [al, umk, List.count_append] <;> omega
theorem al_mem {now l : List Nat} {mk : Nat → List Nat} {m s : Nat} (hm : m < 8) (h : s ∈ al now (umk mk m l)) : s ∈ al now mk ∨ s ∈ l := by
  have := al_cnt (now := now) (l := l) (mk := mk) hm s
  have h1 := List.count_pos_iff.mpr h
  by_cases e : s ∈ l
  · exact Or.inr e
  · have := List.count_eq_zero_of_not_mem e
    exact Or.inl (List.count_pos_iff.mp (by omega))
theorem al_now {now : List Nat} {mk : Nat → List Nat} {s : Nat} (h : s ∈ now) : s ∈ al now mk := by
  unfold al; exact List.mem_append.mpr (Or.inl h)
theorem rx_mark_loop {d P m : Nat} {E : Nat → List ent} {now : List Nat} {mk : Nat → List Nat} {h0 h : am_H} {Q : am_O → am_H → Prop} (hS : mo_Sk h) (R : rR P h0 E now mk) (hm : m < 8) (e86 : am_I h 86 = am_I h0 86) (e24 : am_I h 72 24 = am_I h0 72 24)
    (hx : ∀ g x2, am_fi [77, 89] h g → (∀ t, t < 100 → am_I g 77 t = nI ((al now mk).count t + now.count t)) → (∀ k s, now[k]? = some s → am_I g 89 (9 * m + k) = nI s) → (∀ j, ¬ (9 * m ≤ j ∧ j < 9 * m + 9) → am_I g 89 j = am_I h 89 j) → am_Ex nm_pr d mt_Mo_mark (148, [.ref 72, .int (nI m), .int x2], [], g) Q) : ∀ (r k : Nat) (g : am_H), r + k = now.length → am_fi [77, 89] h g → (∀ t, t < 100 → am_I g 77 t = nI ((al now mk).count t + (now.take k).count t)) → (∀ i s, i < k → now[i]? = some s → am_I g 89 (9 * m + i) = nI s) → (∀ j, ¬ (9 * m ≤ j ∧ j < 9 * m + 9) → am_I g 89 j = am_I h 89 j) →
    am_Ex nm_pr d mt_Mo_mark (102, [.ref 72, .int (nI m), .int (nI k)], [], g) Q
  | 0, k, g, hr, F, v77, v89, u89 => by
    have e : k = now.length := by omega
    subst e
    have n9 := R.n9
    have S := hS.fi F
    have c24 : am_I g 72 24 = nI now.length := by rw [F.2.2.2.2.2.2.1 72 (by decide), e24]; exact R.1.1
    have l1 : ¬ nI now.length < nI now.length := nI_nlt (Nat.le_refl _) (by omega)
    refine am_go [110, 148] 4 ?_
    simp only [am_wp, am_stp, am_en, am_as, am_pad, am_nth, am_set, am_st1, am_st2, am_kl, am_kill, am_mem, am_fv, am_tk, am_wt, am_bk, Option.toList, List.cons_append, List.nil_append, Nat.reduceAdd, Nat.reduceEqDiff, Nat.reduceLeDiff, reduceIte, Nat.reduceLT, or_self, true_or, or_true, if_true, if_false, and_self, and_true, true_and, not_false_eq_true, not_true_eq_false, fd_Mo_mark_102, fd_Mo_mark_103, fd_Mo_mark_104, fd_Mo_mark_107, S.all, c24, l1]
    rw [List.take_length] at v77
    exact hx g _ F v77 (fun k s hk => v89 k s (List.getElem?_eq_some_iff.mp hk).1 hk) u89
  | r + 1, k, g, hr, F, v77, v89, u89 => by
    have n9 := R.n9
    have S := hS.fi F
    have c24 : am_I g 72 24 = nI now.length := by rw [F.2.2.2.2.2.2.1 72 (by decide), e24]; exact R.1.1
    have l1 : nI k < nI now.length := nI_lt (by omega) (by omega)
    obtain ⟨s, hs⟩ : ∃ s, now[k]? = some s := ⟨now[k]'(by omega), List.getElem?_eq_getElem (by omega)⟩
    obtain ⟨x1, hs100⟩ := R.ns.2.2 k s hs
    have g86 : am_I g 86 k = nI s := by rw [F.2.2.2.2.2.2.1 86 (by decide), e86]; exact x1
    have i1 := am_inb (c := k) (N := 9) (by omega) (by omega)
    have q1 : (nI k).toNatClampNeg = k := nI_clamp (by omega)
    have i2 := am_inb (c := s) (N := 100) (by omega) (by omega)
    have q2 : (nI s).toNatClampNeg = s := nI_clamp (by omega)
    have e9 : 9 * nI m = nI (9 * m) := (Int32.ofNat_mul 9 m).symm
    have i3 := am_inb (c := 9 * m + k) (N := 72) (by omega) (by omega)
    have q3 : (nI (9 * m + k)).toNatClampNeg = 9 * m + k := nI_clamp (by omega)
    have tk : now.take (k + 1) = now.take k ++ [s] := take_snoc hs
    refine am_go [110, 148] 4 ?_
    simp only [am_wp, am_stp, am_en, am_as, am_pad, am_nth, am_set, am_st1, am_st2, am_kl, am_kill, am_mem, am_fv, am_tk, am_wt, am_bk, Option.toList, List.cons_append, List.nil_append, Nat.reduceAdd, Nat.reduceEqDiff, Nat.reduceLeDiff, reduceIte, Nat.reduceLT, or_self, true_or, or_true, if_true, if_false, and_self, and_true, true_and, not_false_eq_true, not_true_eq_false, fd_Mo_mark_102, fd_Mo_mark_103, fd_Mo_mark_104, fd_Mo_mark_107, S.all, c24, l1]
    refine am_go [127] 12 ?_
    simp only [am_wp, am_stp, am_en, am_as, am_pad, am_nth, am_set, am_st1, am_st2, am_kl, am_kill, am_mem, am_fv, am_tk, am_wt, am_bk, Option.toList, List.cons_append, List.nil_append, Nat.reduceAdd, Nat.reduceEqDiff, Nat.reduceLeDiff, reduceIte, Nat.reduceLT, or_self, true_or, or_true, if_true, if_false, and_self, and_true, true_and, not_false_eq_true, not_true_eq_false, fd_Mo_mark_110, fd_Mo_mark_111, fd_Mo_mark_114, fd_Mo_mark_116, fd_Mo_mark_117, fd_Mo_mark_118, fd_Mo_mark_119, fd_Mo_mark_120, fd_Mo_mark_121, fd_Mo_mark_124, fd_Mo_mark_125, fd_Mo_mark_126, S.all, e9, nI_add, i1, q1, g86, i3, q3]
    have S1 : mo_Sk (am_sI g 89 (9 * m + k) (nI s)) := S.sI
    have F1 : am_fi [77, 89] h (am_sI g 89 (9 * m + k) (nI s)) := F.sI (by decide)
    have w77 : am_I (am_sI g 89 (9 * m + k) (nI s)) 77 s = nI ((al now mk).count s + (now.take k).count s) := by rw [hx_I_sI, if_neg (by decide)]; exact v77 s hs100
    have w77' : am_I (am_sI g 89 (9 * m + k) (nI s)) 77 = am_I g 77 := by funext j; rw [hx_I_sI, if_neg (by decide)]
    have w86 : am_I (am_sI g 89 (9 * m + k) (nI s)) 86 k = nI s := by rw [hx_I_sI, if_neg (by decide)]; exact g86
    have w89 : ∀ j, am_I (am_sI g 89 (9 * m + k) (nI s)) 89 j = if j = 9 * m + k then nI s else am_I g 89 j := fun j => by rw [hx_I_sI, if_pos rfl]
    generalize am_sI g 89 (9 * m + k) (nI s) = g1 at *
    refine am_go [102] 13 ?_
    simp only [am_wp, am_stp, am_en, am_as, am_pad, am_nth, am_set, am_st1, am_st2, am_kl, am_kill, am_mem, am_fv, am_tk, am_wt, am_bk, Option.toList, List.cons_append, List.nil_append, Nat.reduceAdd, Nat.reduceEqDiff, Nat.reduceLeDiff, reduceIte, Nat.reduceLT, or_self, true_or, or_true, if_true, if_false, and_self, and_true, true_and, not_false_eq_true, not_true_eq_false, fd_Mo_mark_127, fd_Mo_mark_128, fd_Mo_mark_131, fd_Mo_mark_132, fd_Mo_mark_135, fd_Mo_mark_136, fd_Mo_mark_137, fd_Mo_mark_138, fd_Mo_mark_139, fd_Mo_mark_140, fd_Mo_mark_141, fd_Mo_mark_142, fd_Mo_mark_145, S1.all, i1, q1, w86, i2, q2, w77, nI_1]
    refine rx_mark_loop hS R hm e86 e24 hx r (k + 1) _ (by omega) (F1.sI (by decide)) (fun t ht => ?_) (fun i s' hi hs' => ?_) (fun j hj => ?_)
    · rw [hx_I_sI, if_pos rfl, tk, List.count_append]
      by_cases e : t = s
      · subst e
        rw [if_pos rfl, List.count_cons_self]
        rfl
      · rw [if_neg e, w77', v77 t ht]
        have : [s].count t = 0 := by simp [List.count_cons, Ne.symm e]
        rw [this]
        rfl
    · rw [hx_I_sI, if_neg (by decide), w89]
      by_cases e : i = k
      · subst e
        rw [if_pos rfl]
        have := hs.symm.trans hs'
        cases this
        rfl
      · rw [if_neg (by omega)]
        exact v89 i s' (by omega) hs'
    · rw [hx_I_sI, if_neg (by decide), w89, if_neg (by omega)]
      exact u89 j hj
theorem rx_mark_scan {d : Nat} {h : am_H} {Q : am_O → am_H → Prop} (hS : mo_Sk h) (hx : ∀ m, m < 8 → am_I h 87 m = 0 → am_Ex nm_pr d mt_Mo_mark (56, [.ref 72, .int (nI m), .retAddr 0], [], h) Q) (hy : Q (.inl (some (.int (-1)))) h) : ∀ (r m : Nat), r + m = 8 →
    am_Ex nm_pr d mt_Mo_mark (27, [.ref 72, .int (nI m), .retAddr 0], [], h) Q
  | 0, m, hr => by
    have e : m = 8 := by omega
    subst e
    have l1 : ¬ nI 8 < 8 := by decide
    have e8 : nI 8 = 8 := rfl
    refine am_go [33, 48] 3 ?_
    simp only [am_wp, am_stp, am_en, am_as, am_pad, am_nth, am_set, am_st1, am_st2, am_kl, am_kill, am_mem, am_fv, am_tk, am_wt, am_bk, Option.toList, List.cons_append, List.nil_append, Nat.reduceAdd, Nat.reduceEqDiff, Nat.reduceLeDiff, reduceIte, Nat.reduceLT, or_self, true_or, or_true, if_true, if_false, and_self, and_true, true_and, not_false_eq_true, not_true_eq_false, fd_Mo_mark_27, fd_Mo_mark_28, fd_Mo_mark_30, hS.all, l1]
    refine am_go [54, 56] 3 ?_
    simp only [am_wp, am_stp, am_en, am_as, am_pad, am_nth, am_set, am_st1, am_st2, am_kl, am_kill, am_mem, am_fv, am_tk, am_wt, am_bk, Option.toList, List.cons_append, List.nil_append, Nat.reduceAdd, Nat.reduceEqDiff, Nat.reduceLeDiff, reduceIte, Nat.reduceLT, or_self, true_or, or_true, if_true, if_false, and_self, and_true, true_and, not_false_eq_true, not_true_eq_false, fd_Mo_mark_48, fd_Mo_mark_49, fd_Mo_mark_51, hS.all, e8]
    refine am_go [] 2 ?_
    simp only [am_wp, am_stp, am_en, am_as, am_pad, am_nth, am_set, am_st1, am_st2, am_kl, am_kill, am_mem, am_fv, am_tk, am_wt, am_bk, Option.toList, List.cons_append, List.nil_append, Nat.reduceAdd, Nat.reduceEqDiff, Nat.reduceLeDiff, reduceIte, Nat.reduceLT, or_self, true_or, or_true, if_true, if_false, and_self, and_true, true_and, not_false_eq_true, not_true_eq_false, fd_Mo_mark_54, fd_Mo_mark_55, hS.all]
    exact hy
  | r + 1, m, hr => by
    have l1 : nI m < 8 := nI_lt (b := 8) (by omega) (by decide)
    have i1 := am_inb (c := m) (N := 8) (by omega) (by omega)
    have q1 : (nI m).toNatClampNeg = m := nI_clamp (by omega)
    refine am_go [33, 48] 3 ?_
    simp only [am_wp, am_stp, am_en, am_as, am_pad, am_nth, am_set, am_st1, am_st2, am_kl, am_kill, am_mem, am_fv, am_tk, am_wt, am_bk, Option.toList, List.cons_append, List.nil_append, Nat.reduceAdd, Nat.reduceEqDiff, Nat.reduceLeDiff, reduceIte, Nat.reduceLT, or_self, true_or, or_true, if_true, if_false, and_self, and_true, true_and, not_false_eq_true, not_true_eq_false, fd_Mo_mark_27, fd_Mo_mark_28, fd_Mo_mark_30, hS.all, l1]
    by_cases e : am_I h 87 m = 0
    · have n8 : ¬ nI m = 8 := fun q => by
        have := wnI_inj (b := 8) (by omega) (by decide) q
        omega
      refine am_go [42, 48] 5 ?_
      simp only [am_wp, am_stp, am_en, am_as, am_pad, am_nth, am_set, am_st1, am_st2, am_kl, am_kill, am_mem, am_fv, am_tk, am_wt, am_bk, Option.toList, List.cons_append, List.nil_append, Nat.reduceAdd, Nat.reduceEqDiff, Nat.reduceLeDiff, reduceIte, Nat.reduceLT, or_self, true_or, or_true, if_true, if_false, and_self, and_true, true_and, not_false_eq_true, not_true_eq_false, fd_Mo_mark_33, fd_Mo_mark_34, fd_Mo_mark_37, fd_Mo_mark_38, fd_Mo_mark_39, hS.all, i1, q1, e]
      refine am_go [54, 56] 3 ?_
      simp only [am_wp, am_stp, am_en, am_as, am_pad, am_nth, am_set, am_st1, am_st2, am_kl, am_kill, am_mem, am_fv, am_tk, am_wt, am_bk, Option.toList, List.cons_append, List.nil_append, Nat.reduceAdd, Nat.reduceEqDiff, Nat.reduceLeDiff, reduceIte, Nat.reduceLT, or_self, true_or, or_true, if_true, if_false, and_self, and_true, true_and, not_false_eq_true, not_true_eq_false, fd_Mo_mark_48, fd_Mo_mark_49, fd_Mo_mark_51, hS.all, n8]
      exact hx m (by omega) e
    · refine am_go [42, 48] 5 ?_
      simp only [am_wp, am_stp, am_en, am_as, am_pad, am_nth, am_set, am_st1, am_st2, am_kl, am_kill, am_mem, am_fv, am_tk, am_wt, am_bk, Option.toList, List.cons_append, List.nil_append, Nat.reduceAdd, Nat.reduceEqDiff, Nat.reduceLeDiff, reduceIte, Nat.reduceLT, or_self, true_or, or_true, if_true, if_false, and_self, and_true, true_and, not_false_eq_true, not_true_eq_false, fd_Mo_mark_33, fd_Mo_mark_34, fd_Mo_mark_37, fd_Mo_mark_38, fd_Mo_mark_39, hS.all, i1, q1, e]
      refine am_go [27] 2 ?_
      simp only [am_wp, am_stp, am_en, am_as, am_pad, am_nth, am_set, am_st1, am_st2, am_kl, am_kill, am_mem, am_fv, am_tk, am_wt, am_bk, Option.toList, List.cons_append, List.nil_append, Nat.reduceAdd, Nat.reduceEqDiff, Nat.reduceLeDiff, reduceIte, Nat.reduceLT, or_self, true_or, or_true, if_true, if_false, and_self, and_true, true_and, not_false_eq_true, not_true_eq_false, fd_Mo_mark_42, fd_Mo_mark_45, hS.all, nI_1]
      exact rx_mark_scan hS hx hy r (m + 1) (by omega)
theorem rR.nil {P m : Nat} {h : am_H} {E : Nat → List ent} {now : List Nat} {mk : Nat → List Nat} (R : rR P h E now mk) (hm : m < 8) (hz : am_I h 72 3 = 1 ∨ am_I h 87 m = 0) : mk m = [] := by
  have key : al now mk = [] → mk m = [] := fun e => by
    have e8 : m = 0 ∨ m = 1 ∨ m = 2 ∨ m = 3 ∨ m = 4 ∨ m = 5 ∨ m = 6 ∨ m = 7 := by omega
    simp only [al, List.append_eq_nil_iff] at e
    rcases e8 with q | q | q | q | q | q | q | q <;> subst q <;> simp [e]
  rcases hz with z | z
  · rcases R.2.2.2 with q | ⟨-, q⟩
    · rw [q] at z; exact absurd z (by decide)
    · exact key q
  · rcases R.2.1 m hm with ⟨-, q⟩ | ⟨q, -⟩
    · exact q
    · rw [q] at z; exact absurd z (by decide)
theorem rx_mark_end {d P m : Nat} {w2 : Value} {h g : am_H} (q : rq P h g) (hm : m < 8) (hz : am_I g 72 3 = 1 ∨ am_I g 87 m = 0) :
    am_Ex nm_pr (d + 7) mt_Mo_mark (83, [.ref 72, .int (nI m), w2], [], g) (fun o h' => iany o ∧ rq P h h') := by
  obtain ⟨C, E, now, mk, R⟩ := id q.1
  have S := C.1
  have P1024 := C.2.2.1
  have n9 := R.n9
  have c24 := R.1.1
  have hnil := R.nil hm hz
  have i1 := am_inb (c := m) (N := 8) (by omega) (by omega)
  have q1 : (nI m).toNatClampNeg = m := nI_clamp (by omega)
  have a1 : (1 : Int32) &&& 1 = 1 := by decide
  refine am_go [90] 5 ?_
  simp only [am_wp, am_stp, am_en, am_as, am_pad, am_nth, am_set, am_st1, am_st2, am_kl, am_kill, am_mem, am_fv, am_tk, am_wt, am_bk, Option.toList, List.cons_append, List.nil_append, Nat.reduceAdd, Nat.reduceEqDiff, Nat.reduceLeDiff, reduceIte, Nat.reduceLT, or_self, true_or, or_true, if_true, if_false, and_self, and_true, true_and, not_false_eq_true, not_true_eq_false, fd_Mo_mark_83, fd_Mo_mark_84, fd_Mo_mark_87, fd_Mo_mark_88, fd_Mo_mark_89, S.all, i1, q1, a1]
  have S1 : mo_Sk (am_sI g 87 m 1) := S.sI
  have c24' : am_I (am_sI g 87 m 1) 72 24 = nI now.length := by rw [hx_I_sI, if_neg (by decide)]; exact c24
  have F1 : am_fi [87, 88] g (am_sI g 87 m 1) := am_fi.refl.sI (by decide)
  have v87 : ∀ j, am_I (am_sI g 87 m 1) 87 j = if j = m then 1 else am_I g 87 j := fun j => by rw [hx_I_sI, if_pos rfl]
  have v88 : am_I (am_sI g 87 m 1) 88 = am_I g 88 := by funext j; rw [hx_I_sI, if_neg (by decide)]
  generalize am_sI g 87 m 1 = g1 at *
  refine am_go [100] 6 ?_
  simp only [am_wp, am_stp, am_en, am_as, am_pad, am_nth, am_set, am_st1, am_st2, am_kl, am_kill, am_mem, am_fv, am_tk, am_wt, am_bk, Option.toList, List.cons_append, List.nil_append, Nat.reduceAdd, Nat.reduceEqDiff, Nat.reduceLeDiff, reduceIte, Nat.reduceLT, or_self, true_or, or_true, if_true, if_false, and_self, and_true, true_and, not_false_eq_true, not_true_eq_false, fd_Mo_mark_90, fd_Mo_mark_91, fd_Mo_mark_94, fd_Mo_mark_95, fd_Mo_mark_96, fd_Mo_mark_99, S1.all, i1, q1, c24']
  have F2 : am_fi [87, 88] g (am_sI g1 88 m (nI now.length)) := F1.sI (by decide)
  have S2 : mo_Sk (am_sI g1 88 m (nI now.length)) := S1.sI
  have u87 : ∀ j, am_I (am_sI g1 88 m (nI now.length)) 87 j = if j = m then 1 else am_I g 87 j := fun j => by rw [hx_I_sI, if_neg (by decide)]; exact v87 j
  have u88 : ∀ j, am_I (am_sI g1 88 m (nI now.length)) 88 j = if j = m then nI now.length else am_I g 88 j := fun j => by rw [hx_I_sI, if_pos rfl, v88]
  generalize am_sI g1 88 m (nI now.length) = g2 at *
  have w2' := F2.2.2.2.2.2.2.1
  refine am_go [102] 2 ?_
  simp only [am_wp, am_stp, am_en, am_as, am_pad, am_nth, am_set, am_st1, am_st2, am_kl, am_kill, am_mem, am_fv, am_tk, am_wt, am_bk, Option.toList, List.cons_append, List.nil_append, Nat.reduceAdd, Nat.reduceEqDiff, Nat.reduceLeDiff, reduceIte, Nat.reduceLT, or_self, true_or, or_true, if_true, if_false, and_self, and_true, true_and, not_false_eq_true, not_true_eq_false, fd_Mo_mark_100, fd_Mo_mark_101]
  refine rx_mark_loop (h0 := g) S2 R hm (w2' 86 (by decide)) (by rw [w2' 72 (by decide)]) (fun g3 x2 F3 y77 y89 z89 => ?_) now.length 0 g2 (by omega) am_fi.refl (fun t ht => by rw [w2' 77 (by decide), R.2.2.1.1 t ht]; rfl) (fun i s hi => by omega) (fun _ _ => rfl)
  have F4 : am_fi [77, 87, 88, 89] g g3 := (F2.sub (by decide)).trans (F3.sub (by decide))
  have w := F4.2.2.2.2.2.2.1
  have S3 := S.fi F4
  refine am_go [] 2 ?_
  simp only [am_wp, am_stp, am_en, am_as, am_pad, am_nth, am_set, am_st1, am_st2, am_kl, am_kill, am_mem, am_fv, am_tk, am_wt, am_bk, Option.toList, List.cons_append, List.nil_append, Nat.reduceAdd, Nat.reduceEqDiff, Nat.reduceLeDiff, reduceIte, Nat.reduceLT, or_self, true_or, or_true, if_true, if_false, and_self, and_true, true_and, not_false_eq_true, not_true_eq_false, fd_Mo_mark_148, fd_Mo_mark_149, S3.all]
  have mw : ∀ s ∈ al now mk, rs_W P g3 E s := fun s hs => (R.2.2.1.2 s hs).eq P1024 (by rw [w 80 (by decide)]) (fun k _ => by rw [w 82 (by decide)]) (fun x hx => hx.eq (fun j _ => by rw [w 73 (by decide)]))
  refine ⟨⟨_, rfl⟩, ⟨⟨C.v F4 (by decide) (by rw [w 72 (by decide)]) (by rw [w 72 (by decide)]) (by rw [w 72 (by decide)]) (by rw [w 72 (by decide)]) (by rw [w 72 (by decide)]; exact C.a8) (C.b.eq (w 73 (by decide))), E, now, umk mk m now, ?_⟩, q.2.trans (F4.sub (by decide))⟩⟩
  refine ⟨?_, fun i hi => ?_, ⟨fun t ht => ?_, fun s hs => ?_⟩, ?_⟩
  · unfold rR_n lev
    rw [w 72 (by decide), w 86 (by decide), w 79 (by decide)]; exact R.1
  · by_cases e : i = m
    · subst e
      right
      have em : umk mk i now i = now := by unfold umk; rw [if_pos rfl]
      rw [em]
      refine ⟨?_, n9, ?_, y89⟩
      · rw [F3.2.2.2.2.2.2.1 87 (by decide), u87, if_pos rfl]
      · rw [F3.2.2.2.2.2.2.1 88 (by decide), u88, if_pos rfl]
    · have em : umk mk m now i = mk i := by unfold umk; rw [if_neg e]
      rw [em, F3.2.2.2.2.2.2.1 87 (by decide), F3.2.2.2.2.2.2.1 88 (by decide), u87, u88, if_neg e, if_neg e]
      rcases R.2.1 i hi with a | ⟨a1, a2, a3, a4⟩
      · exact Or.inl a
      · refine Or.inr ⟨a1, a2, a3, fun k s hk => ?_⟩
        have hlt := (List.getElem?_eq_some_iff.mp hk).1
        rw [z89 (9 * i + k) (by rcases Nat.lt_or_gt_of_ne e with x | x <;> omega), w2' 89 (by decide)]
        exact a4 k s hk
  · rw [y77 t ht]
    have := al_cnt (now := now) (l := now) (mk := mk) hm t
    rw [hnil] at this
    simp only [List.count_nil, Nat.add_zero] at this
    rw [this]
  · rcases al_mem hm hs with a | a
    · exact mw s a
    · exact mw s (al_now a)
  · rw [w 72 (by decide)]
    rcases R.2.2.2 with a | ⟨a1, a2⟩
    · exact Or.inl a
    · refine Or.inr ⟨a1, List.eq_nil_iff_forall_not_mem.mpr (fun s hs => ?_)⟩
      rcases al_mem hm hs with b | b
      · rw [a2] at b; simp at b
      · have := al_now (mk := mk) b
        rw [a2] at this; simp at this
theorem rx_mark {d P : Nat} {h : am_H} (R : rI P h) : am_Rt nm_pr (d + 8) mi_Mo_mark [.ref 72] h (fun o h' => iany o ∧ rq P h h') := by
  have hS := R.1.1
  have q0 := rq.refl R
  refine am_in' (d := d + 7) mt_Mo_mark 3 rfl rfl rfl ?_
  have go : ∀ v : Int32, am_Ex nm_pr (d + 7) mt_Mo_mark (13, [.ref 72, .retAddr 0, .retAddr 0], [.int v, .ref 72], h) (fun o h' => iany o ∧ rq P h h') := fun v => by
    refine am_go [16] 1 ?_
    simp only [am_wp, am_stp, am_en, am_as, am_pad, am_nth, am_set, am_st1, am_st2, am_kl, am_kill, am_mem, am_fv, am_tk, am_wt, am_bk, Option.toList, List.cons_append, List.nil_append, Nat.reduceAdd, Nat.reduceEqDiff, Nat.reduceLeDiff, reduceIte, Nat.reduceLT, or_self, true_or, or_true, if_true, if_false, and_self, and_true, true_and, not_false_eq_true, not_true_eq_false, fd_Mo_mark_13, hS.all]
    have q1 := q0.s (j := 0) (v := v) (by unfold rJ; omega)
    generalize am_sI h 72 0 v = g at *
    have S1 := q1.1.1.1
    by_cases e3 : am_I g 72 3 = 0
    · refine am_go [23, 25] 3 ?_
      simp only [am_wp, am_stp, am_en, am_as, am_pad, am_nth, am_set, am_st1, am_st2, am_kl, am_kill, am_mem, am_fv, am_tk, am_wt, am_bk, Option.toList, List.cons_append, List.nil_append, Nat.reduceAdd, Nat.reduceEqDiff, Nat.reduceLeDiff, reduceIte, Nat.reduceLT, or_self, true_or, or_true, if_true, if_false, and_self, and_true, true_and, not_false_eq_true, not_true_eq_false, fd_Mo_mark_16, fd_Mo_mark_17, fd_Mo_mark_20, S1.all, e3]
      refine am_go [27] 2 ?_
      simp only [am_wp, am_stp, am_en, am_as, am_pad, am_nth, am_set, am_st1, am_st2, am_kl, am_kill, am_mem, am_fv, am_tk, am_wt, am_bk, Option.toList, List.cons_append, List.nil_append, Nat.reduceAdd, Nat.reduceEqDiff, Nat.reduceLeDiff, reduceIte, Nat.reduceLT, or_self, true_or, or_true, if_true, if_false, and_self, and_true, true_and, not_false_eq_true, not_true_eq_false, fd_Mo_mark_25, fd_Mo_mark_26]
      refine rx_mark_scan S1 (fun m hm hz => ?_) ⟨⟨_, rfl⟩, q1⟩ 8 0 rfl
      refine am_go [63, 83] 3 ?_
      simp only [am_wp, am_stp, am_en, am_as, am_pad, am_nth, am_set, am_st1, am_st2, am_kl, am_kill, am_mem, am_fv, am_tk, am_wt, am_bk, Option.toList, List.cons_append, List.nil_append, Nat.reduceAdd, Nat.reduceEqDiff, Nat.reduceLeDiff, reduceIte, Nat.reduceLT, or_self, true_or, or_true, if_true, if_false, and_self, and_true, true_and, not_false_eq_true, not_true_eq_false, fd_Mo_mark_56, fd_Mo_mark_57, fd_Mo_mark_60, S1.all]
      refine wif ?_ (rx_mark_end q1 hm (Or.inr hz))
      refine am_go [] 2 ?_
      simp only [am_wp, am_stp, am_en, am_as, am_pad, am_nth, am_set, am_st1, am_st2, am_kl, am_kill, am_mem, am_fv, am_tk, am_wt, am_bk, Option.toList, List.cons_append, List.nil_append, Nat.reduceAdd, Nat.reduceEqDiff, Nat.reduceLeDiff, reduceIte, Nat.reduceLT, or_self, true_or, or_true, if_true, if_false, and_self, and_true, true_and, not_false_eq_true, not_true_eq_false, fd_Mo_mark_63, fd_Mo_mark_64, S1.all]
      refine am_call (rx_flushNow1 (d := d + 1) q1.1 e3) (fun o g2 z => ?_)
      obtain ⟨⟨x, rfl⟩, q2, hz2⟩ := z
      have S2 := q2.1.1.1
      have hz3 : am_I g2 72 3 = 1 ∨ am_I g2 87 m = 0 := by
        rcases hz2 with a | a
        · exact Or.inl a
        · exact Or.inr (by rw [a]; exact hz)
      simp only [am_wp, am_stp, am_en, am_as, am_pad, am_nth, am_set, am_st1, am_st2, am_kl, am_kill, am_mem, am_fv, am_tk, am_wt, am_bk, Option.toList, List.cons_append, List.nil_append, Nat.reduceAdd, Nat.reduceEqDiff, Nat.reduceLeDiff, reduceIte, Nat.reduceLT, or_self, true_or, or_true, if_true, if_false, and_self, and_true, true_and, not_false_eq_true, not_true_eq_false]
      refine am_go [72, 83] 3 ?_
      simp only [am_wp, am_stp, am_en, am_as, am_pad, am_nth, am_set, am_st1, am_st2, am_kl, am_kill, am_mem, am_fv, am_tk, am_wt, am_bk, Option.toList, List.cons_append, List.nil_append, Nat.reduceAdd, Nat.reduceEqDiff, Nat.reduceLeDiff, reduceIte, Nat.reduceLT, or_self, true_or, or_true, if_true, if_false, and_self, and_true, true_and, not_false_eq_true, not_true_eq_false, fd_Mo_mark_67, fd_Mo_mark_68, fd_Mo_mark_69, S2.all]
      refine wif (rx_mark_end (q1.trans q2) hm hz3) ?_
      refine am_go [76, 81] 2 ?_
      simp only [am_wp, am_stp, am_en, am_as, am_pad, am_nth, am_set, am_st1, am_st2, am_kl, am_kill, am_mem, am_fv, am_tk, am_wt, am_bk, Option.toList, List.cons_append, List.nil_append, Nat.reduceAdd, Nat.reduceEqDiff, Nat.reduceLeDiff, reduceIte, Nat.reduceLT, or_self, true_or, or_true, if_true, if_false, and_self, and_true, true_and, not_false_eq_true, not_true_eq_false, fd_Mo_mark_72, fd_Mo_mark_73, S2.all]
      refine wif ?_ ?_
      rotate_left
      · refine am_go [] 2 ?_
        simp only [am_wp, am_stp, am_en, am_as, am_pad, am_nth, am_set, am_st1, am_st2, am_kl, am_kill, am_mem, am_fv, am_tk, am_wt, am_bk, Option.toList, List.cons_append, List.nil_append, Nat.reduceAdd, Nat.reduceEqDiff, Nat.reduceLeDiff, reduceIte, Nat.reduceLT, or_self, true_or, or_true, if_true, if_false, and_self, and_true, true_and, not_false_eq_true, not_true_eq_false, fd_Mo_mark_81, fd_Mo_mark_82, S2.all]
        exact ⟨⟨_, rfl⟩, q1.trans q2⟩
      · refine am_go [] 3 ?_
        simp only [am_wp, am_stp, am_en, am_as, am_pad, am_nth, am_set, am_st1, am_st2, am_kl, am_kill, am_mem, am_fv, am_tk, am_wt, am_bk, Option.toList, List.cons_append, List.nil_append, Nat.reduceAdd, Nat.reduceEqDiff, Nat.reduceLeDiff, reduceIte, Nat.reduceLT, or_self, true_or, or_true, if_true, if_false, and_self, and_true, true_and, not_false_eq_true, not_true_eq_false, fd_Mo_mark_76, fd_Mo_mark_78, fd_Mo_mark_82, S2.all]
        exact ⟨⟨_, rfl⟩, q1.trans q2⟩
    · refine am_go [23, 25] 3 ?_
      simp only [am_wp, am_stp, am_en, am_as, am_pad, am_nth, am_set, am_st1, am_st2, am_kl, am_kill, am_mem, am_fv, am_tk, am_wt, am_bk, Option.toList, List.cons_append, List.nil_append, Nat.reduceAdd, Nat.reduceEqDiff, Nat.reduceLeDiff, reduceIte, Nat.reduceLT, or_self, true_or, or_true, if_true, if_false, and_self, and_true, true_and, not_false_eq_true, not_true_eq_false, fd_Mo_mark_16, fd_Mo_mark_17, fd_Mo_mark_20, S1.all, e3]
      refine am_go [] 2 ?_
      simp only [am_wp, am_stp, am_en, am_as, am_pad, am_nth, am_set, am_st1, am_st2, am_kl, am_kill, am_mem, am_fv, am_tk, am_wt, am_bk, Option.toList, List.cons_append, List.nil_append, Nat.reduceAdd, Nat.reduceEqDiff, Nat.reduceLeDiff, reduceIte, Nat.reduceLT, or_self, true_or, or_true, if_true, if_false, and_self, and_true, true_and, not_false_eq_true, not_true_eq_false, fd_Mo_mark_23, fd_Mo_mark_24, S1.all]
      exact ⟨⟨_, rfl⟩, q1⟩
  refine am_go [8, 12] 4 ?_
  simp only [am_wp, am_stp, am_en, am_as, am_pad, am_nth, am_set, am_st1, am_st2, am_kl, am_kill, am_mem, am_fv, am_tk, am_wt, am_bk, Option.toList, List.cons_append, List.nil_append, Nat.reduceAdd, Nat.reduceEqDiff, Nat.reduceLeDiff, reduceIte, Nat.reduceLT, or_self, true_or, or_true, if_true, if_false, and_self, and_true, true_and, not_false_eq_true, not_true_eq_false, fd_Mo_mark_0, fd_Mo_mark_1, fd_Mo_mark_2, fd_Mo_mark_5, hS.all]
  refine wif ?_ ?_
  · refine am_go [13] 1 ?_
    simp only [am_wp, am_stp, am_en, am_as, am_pad, am_nth, am_set, am_st1, am_st2, am_kl, am_kill, am_mem, am_fv, am_tk, am_wt, am_bk, Option.toList, List.cons_append, List.nil_append, Nat.reduceAdd, Nat.reduceEqDiff, Nat.reduceLeDiff, reduceIte, Nat.reduceLT, or_self, true_or, or_true, if_true, if_false, and_self, and_true, true_and, not_false_eq_true, not_true_eq_false, fd_Mo_mark_12, hS.all]
    exact go _
  · refine am_go [13] 2 ?_
    simp only [am_wp, am_stp, am_en, am_as, am_pad, am_nth, am_set, am_st1, am_st2, am_kl, am_kill, am_mem, am_fv, am_tk, am_wt, am_bk, Option.toList, List.cons_append, List.nil_append, Nat.reduceAdd, Nat.reduceEqDiff, Nat.reduceLeDiff, reduceIte, Nat.reduceLT, or_self, true_or, or_true, if_true, if_false, and_self, and_true, true_and, not_false_eq_true, not_true_eq_false, fd_Mo_mark_8, fd_Mo_mark_9, hS.all]
    exact go _
