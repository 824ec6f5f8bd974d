/-! THE REFERENCE OPENS, 7 -/
def oR (P : Nat) (E : Nat → List ent) (ls : List Nat) (h g : am_H) (k : Nat) : Prop := oF h g ∧ ∀ t, t < k → rs_W P g E t ∧ ∀ l, ls[t]? = some l → am_I g 79 t = nI l
theorem rx_op_runs {d P hd : Nat} {ev od nx : Int32} {ls : List Nat} {E : Nat → List ent} {h : am_H} {Q : am_O → am_H → Prop} (C : rC P h) (hd2 : hd < 2) (A : ar_Q h hd ls) (hE : ∀ q L, pg_M P h q L → so L → E q = L) (hb : ∀ g x, oF h g → Q (.inl (some (.int x))) g)
    (hx : ∀ g a4 w7 w8 w9 w10 w11, oR P E ls h g ls.length → am_Ex nm_pr (d + 3) mt_Mo_open (406, [.ref 72, .int ev, .int od, .int (nI hd), .int a4, .int nx, .int (nI ls.length), .int w7, w8, w9, w10, w11], [], g) Q) : ∀ (m k : Nat) (w8 w9 w10 w11 : Value) (g : am_H), m + k = ls.length → oR P E ls h g k →
    am_Ex nm_pr (d + 3) mt_Mo_open (96, [.ref 72, .int ev, .int od, .int (nI hd), .int (nI (128 * hd + 7 + 7 * k)), .int nx, .int (nI ls.length), .int (nI k), w8, w9, w10, w11], [], g) Q
  | 0, k, w8, w9, w10, w11, g, hm, I => by
    have S := (I.1.C C).1
    have e : k = ls.length := by omega
    subst e
    have l9 := A.1
    have l1 : ¬ nI ls.length < nI ls.length := nI_nlt (Nat.le_refl _) (by omega)
    refine am_go [103, 406] 3 ?_
    simp only [am_wp, am_stp, am_en, am_as, am_pad, am_nth, am_set, am_st1, am_st2, am_kl, am_kill, am_mem, am_fv, am_tk, am_wt, am_bk, Option.toList, List.cons_append, List.nil_append, Nat.reduceAdd, Nat.reduceEqDiff, Nat.reduceLeDiff, reduceIte, Nat.reduceLT, or_self, true_or, or_true, if_true, if_false, and_self, and_true, true_and, not_false_eq_true, not_true_eq_false, fd_Mo_open_96, fd_Mo_open_98, fd_Mo_open_100, S.all, l1]
    exact hx g _ _ _ _ _ _ I
  | m + 1, k, w8, w9, w10, w11, g, hm, I => by
    obtain ⟨F, IR⟩ := id I
    have Cg := F.C C
    have S := Cg.1
    have P1024 := C.2.2.1
    have l9 := A.1
    have e73 : am_I g 73 = am_I h 73 := F.1.2.2.2.2.2.2.1 73 (by decide)
    have l1 : nI k < nI ls.length := nI_lt (by omega) (by omega)
    obtain ⟨l, hl⟩ : ∃ l, ls[k]? = some l := ⟨ls[k]'(by omega), List.getElem?_eq_getElem (by omega)⟩
    obtain ⟨b1, b2, b3⟩ := A.2.2.2 k l hl
    have i2 := am_inb (c := k) (N := 100) (by omega) (by omega)
    have q2 : (nI k).toNatClampNeg = k := nI_clamp (by omega)
    have ea2 : nI (128 * hd + 7 + 7 * k) + 2 = nI (128 * hd + 7 + 7 * k + 2) := nI_add _ 2
    have ea5 : nI (128 * hd + 7 + 7 * k) + 5 = nI (128 * hd + 7 + 7 * k + 5) := nI_add _ 5
    have ea3 : nI (128 * hd + 7 + 7 * k) + 3 = nI (128 * hd + 7 + 7 * k + 3) := nI_add _ 3
    have ea7 : nI (128 * hd + 7 + 7 * k) + 7 = nI (128 * hd + 7 + 7 * (k + 1)) := by
      have := nI_add (128 * hd + 7 + 7 * k) 7
      rw [show 128 * hd + 7 + 7 * k + 7 = 128 * hd + 7 + 7 * (k + 1) by omega] at this
      exact this
    have iL := am_inb (c := 128 * hd + 7 + 7 * k + 2) (N := 131072) (by omega) (by omega)
    have qL : (nI (128 * hd + 7 + 7 * k + 2)).toNatClampNeg = 128 * hd + 7 + 7 * k + 2 := nI_clamp (by omega)
    have lv : am_I h 73 (128 * hd + 7 + 7 * k + 2) = nI l := by
      have b := C.b (128 * hd + 7 + 7 * k + 2)
      have : am_I h 73 (128 * hd + 7 + 7 * k + 2) = am_b8 (am_I h 73 (128 * hd + 7 + 7 * k + 2) &&& 255) := by rw [b8_of]; exact b.symm
      rw [this, b1, oc_small (by omega)]
    obtain ⟨pc, hpc, epc⟩ := tw_nat h (128 * hd + 7 + 7 * k + 5)
    have pc0 : pc ≠ 0 := fun q => b3 (by rw [epc, q]; rfl)
    have ha1 : 128 * hd + 7 + 7 * k + 6 < 131072 := by omega
    have twE : ∀ (g' : am_H) a, am_I g' 73 = am_I h 73 → tw g' a = tw h a := fun g' a e => by unfold tw; rw [e]
    generalize hA2 : 128 * hd + 7 + 7 * k + 2 = A2 at *
    generalize hA5 : 128 * hd + 7 + 7 * k + 5 = A5 at *
    generalize hA3 : 128 * hd + 7 + 7 * k + 3 = A3 at *
    generalize hA7 : 128 * hd + 7 + 7 * (k + 1) = A7 at *
    generalize hA0 : 128 * hd + 7 + 7 * k = A0 at *
    refine am_go [103, 406] 3 ?_
    simp only [am_wp, am_stp, am_en, am_as, am_pad, am_nth, am_set, am_st1, am_st2, am_kl, am_kill, am_mem, am_fv, am_tk, am_wt, am_bk, Option.toList, List.cons_append, List.nil_append, Nat.reduceAdd, Nat.reduceEqDiff, Nat.reduceLeDiff, reduceIte, Nat.reduceLT, or_self, true_or, or_true, if_true, if_false, and_self, and_true, true_and, not_false_eq_true, not_true_eq_false, fd_Mo_open_96, fd_Mo_open_98, fd_Mo_open_100, S.all, l1]
    refine am_go [] 2 ?_
    simp only [am_wp, am_stp, am_en, am_as, am_pad, am_nth, am_set, am_st1, am_st2, am_kl, am_kill, am_mem, am_fv, am_tk, am_wt, am_bk, Option.toList, List.cons_append, List.nil_append, Nat.reduceAdd, Nat.reduceEqDiff, Nat.reduceLeDiff, reduceIte, Nat.reduceLT, or_self, true_or, or_true, if_true, if_false, and_self, and_true, true_and, not_false_eq_true, not_true_eq_false, fd_Mo_open_103, fd_Mo_open_105]
    refine am_go [] 6 ?_
    simp only [am_wp, am_stp, am_en, am_as, am_pad, am_nth, am_set, am_st1, am_st2, am_kl, am_kill, am_mem, am_fv, am_tk, am_wt, am_bk, Option.toList, List.cons_append, List.nil_append, Nat.reduceAdd, Nat.reduceEqDiff, Nat.reduceLeDiff, reduceIte, Nat.reduceLT, or_self, true_or, or_true, if_true, if_false, and_self, and_true, true_and, not_false_eq_true, not_true_eq_false, fd_Mo_open_107, fd_Mo_open_108, fd_Mo_open_111, fd_Mo_open_113, fd_Mo_open_114, fd_Mo_open_116, S.all]
    refine am_call (rx_two (d := d + 2) S (by omega)) (fun o g1 w => ?_)
    obtain ⟨rfl, rfl⟩ := w
    simp only [am_wp, am_stp, am_en, am_as, am_pad, am_nth, am_set, am_st1, am_st2, am_kl, am_kill, am_mem, am_fv, am_tk, am_wt, am_bk, Option.toList, List.cons_append, List.nil_append, Nat.reduceAdd, Nat.reduceEqDiff, Nat.reduceLeDiff, reduceIte, Nat.reduceLT, or_self, true_or, or_true, if_true, if_false, and_self, and_true, true_and, not_false_eq_true, not_true_eq_false]
    generalize tw g1 A0 = nb
    refine am_go [120] 1 ?_
    simp only [am_wp, am_stp, am_en, am_as, am_pad, am_nth, am_set, am_st1, am_st2, am_kl, am_kill, am_mem, am_fv, am_tk, am_wt, am_bk, Option.toList, List.cons_append, List.nil_append, Nat.reduceAdd, Nat.reduceEqDiff, Nat.reduceLeDiff, reduceIte, Nat.reduceLT, or_self, true_or, or_true, if_true, if_false, and_self, and_true, true_and, not_false_eq_true, not_true_eq_false, fd_Mo_open_119, S.all, i2, q2]
    have f2 : am_fi [78] g1 (am_sI g1 78 k nb) := am_fi.refl.sI (by simp)
    have F2 : oF h (am_sI g1 78 k nb) := F.fi f2 (by decide) (fun j _ _ _ => by rw [hx_I_sI, if_neg (by decide)])
    generalize am_sI g1 78 k nb = g2 at *
    have S2 := (F2.C C).1
    have x73 : am_I g2 73 A2 = nI l := by rw [f2.2.2.2.2.2.2.1 73 (by decide), e73]; exact lv
    refine am_go [136] 10 ?_
    simp only [am_wp, am_stp, am_en, am_as, am_pad, am_nth, am_set, am_st1, am_st2, am_kl, am_kill, am_mem, am_fv, am_tk, am_wt, am_bk, Option.toList, List.cons_append, List.nil_append, Nat.reduceAdd, Nat.reduceEqDiff, Nat.reduceLeDiff, reduceIte, Nat.reduceLT, or_self, true_or, or_true, if_true, if_false, and_self, and_true, true_and, not_false_eq_true, not_true_eq_false, fd_Mo_open_120, fd_Mo_open_121, fd_Mo_open_124, fd_Mo_open_126, fd_Mo_open_127, fd_Mo_open_130, fd_Mo_open_132, fd_Mo_open_133, fd_Mo_open_134, fd_Mo_open_135, S2.all, ea2, iL, qL, x73, i2, q2]
    have f3 : am_fi [79] g2 (am_sI g2 79 k (nI l)) := am_fi.refl.sI (by simp)
    have F3 : oF h (am_sI g2 79 k (nI l)) := F2.fi f3 (by decide) (fun j _ _ _ => by rw [hx_I_sI, if_neg (by decide)])
    have u79 : ∀ t, am_I (am_sI g2 79 k (nI l)) 79 t = if t = k then nI l else am_I g2 79 t := fun t => by rw [hx_I_sI, if_pos rfl]
    generalize am_sI g2 79 k (nI l) = g3 at *
    have S3 := (F3.C C).1
    have y73 : am_I g3 73 = am_I h 73 := F3.1.2.2.2.2.2.2.1 73 (by decide)
    refine am_go [] 8 ?_
    simp only [am_wp, am_stp, am_en, am_as, am_pad, am_nth, am_set, am_st1, am_st2, am_kl, am_kill, am_mem, am_fv, am_tk, am_wt, am_bk, Option.toList, List.cons_append, List.nil_append, Nat.reduceAdd, Nat.reduceEqDiff, Nat.reduceLeDiff, reduceIte, Nat.reduceLT, or_self, true_or, or_true, if_true, if_false, and_self, and_true, true_and, not_false_eq_true, not_true_eq_false, fd_Mo_open_136, fd_Mo_open_137, fd_Mo_open_140, fd_Mo_open_142, fd_Mo_open_143, fd_Mo_open_145, fd_Mo_open_146, fd_Mo_open_147, S3.all, ea5]
    refine am_call (rx_two (d := d + 2) S3 (by omega)) (fun o g4 w => ?_)
    obtain ⟨rfl, rfl⟩ := w
    rw [twE _ _ y73, epc]
    simp only [am_wp, am_stp, am_en, am_as, am_pad, am_nth, am_set, am_st1, am_st2, am_kl, am_kill, am_mem, am_fv, am_tk, am_wt, am_bk, Option.toList, List.cons_append, List.nil_append, Nat.reduceAdd, Nat.reduceEqDiff, Nat.reduceLeDiff, reduceIte, Nat.reduceLT, or_self, true_or, or_true, if_true, if_false, and_self, and_true, true_and, not_false_eq_true, not_true_eq_false]
    refine am_go [151] 1 ?_
    simp only [am_wp, am_stp, am_en, am_as, am_pad, am_nth, am_set, am_st1, am_st2, am_kl, am_kill, am_mem, am_fv, am_tk, am_wt, am_bk, Option.toList, List.cons_append, List.nil_append, Nat.reduceAdd, Nat.reduceEqDiff, Nat.reduceLeDiff, reduceIte, Nat.reduceLT, or_self, true_or, or_true, if_true, if_false, and_self, and_true, true_and, not_false_eq_true, not_true_eq_false, fd_Mo_open_150, S3.all, i2, q2]
    have f5 : am_fi [80] g4 (am_sI g4 80 k (nI pc)) := am_fi.refl.sI (by simp)
    have F5 : oF h (am_sI g4 80 k (nI pc)) := F3.fi f5 (by decide) (fun j _ _ _ => by rw [hx_I_sI, if_neg (by decide)])
    have u80 : ∀ t, am_I (am_sI g4 80 k (nI pc)) 80 t = if t = k then nI pc else am_I g4 80 t := fun t => by rw [hx_I_sI, if_pos rfl]
    generalize am_sI g4 80 k (nI pc) = g5 at *
    have S5 := (F5.C C).1
    refine am_go [159] 5 ?_
    simp only [am_wp, am_stp, am_en, am_as, am_pad, am_nth, am_set, am_st1, am_st2, am_kl, am_kill, am_mem, am_fv, am_tk, am_wt, am_bk, Option.toList, List.cons_append, List.nil_append, Nat.reduceAdd, Nat.reduceEqDiff, Nat.reduceLeDiff, reduceIte, Nat.reduceLT, or_self, true_or, or_true, if_true, if_false, and_self, and_true, true_and, not_false_eq_true, not_true_eq_false, fd_Mo_open_151, fd_Mo_open_152, fd_Mo_open_155, fd_Mo_open_157, fd_Mo_open_158, S5.all, i2, q2]
    have f6 : am_fi [81] g5 (am_sI g5 81 k 0) := am_fi.refl.sI (by simp)
    have F6 : oF h (am_sI g5 81 k 0) := F5.fi f6 (by decide) (fun j _ _ _ => by rw [hx_I_sI, if_neg (by decide)])
    generalize am_sI g5 81 k 0 = g6 at *
    have S6 := (F6.C C).1
    refine am_go [] 3 ?_
    simp only [am_wp, am_stp, am_en, am_as, am_pad, am_nth, am_set, am_st1, am_st2, am_kl, am_kill, am_mem, am_fv, am_tk, am_wt, am_bk, Option.toList, List.cons_append, List.nil_append, Nat.reduceAdd, Nat.reduceEqDiff, Nat.reduceLeDiff, reduceIte, Nat.reduceLT, or_self, true_or, or_true, if_true, if_false, and_self, and_true, true_and, not_false_eq_true, not_true_eq_false, fd_Mo_open_159, fd_Mo_open_160, fd_Mo_open_162, S6.all]
    refine am_call (l2_clearFilter (d := d + 2) S6 (show k < 100 by omega)) (fun o g7 w => ?_)
    obtain ⟨rfl, f7⟩ := w
    have F7 : oF h g7 := F6.fi f7 (by decide) (fun j _ _ _ => by rw [f7.2.2.2.2.2.2.1 72 (by decide)])
    have S7 := (F7.C C).1
    simp only [am_wp, am_stp, am_en, am_as, am_pad, am_nth, am_set, am_st1, am_st2, am_kl, am_kill, am_mem, am_fv, am_tk, am_wt, am_bk, Option.toList, List.cons_append, List.nil_append, Nat.reduceAdd, Nat.reduceEqDiff, Nat.reduceLeDiff, reduceIte, Nat.reduceLT, or_self, true_or, or_true, if_true, if_false, and_self, and_true, true_and, not_false_eq_true, not_true_eq_false]
    refine am_go [] 5 ?_
    simp only [am_wp, am_stp, am_en, am_as, am_pad, am_nth, am_set, am_st1, am_st2, am_kl, am_kill, am_mem, am_fv, am_tk, am_wt, am_bk, Option.toList, List.cons_append, List.nil_append, Nat.reduceAdd, Nat.reduceEqDiff, Nat.reduceLeDiff, reduceIte, Nat.reduceLT, or_self, true_or, or_true, if_true, if_false, and_self, and_true, true_and, not_false_eq_true, not_true_eq_false, fd_Mo_open_165, fd_Mo_open_166, fd_Mo_open_168, fd_Mo_open_169, fd_Mo_open_170, S7.all, ea3]
    refine am_call (rx_two (d := d + 2) S7 (by omega)) (fun o g8 w => ?_)
    obtain ⟨rfl, rfl⟩ := w
    obtain ⟨page, hpage, epage⟩ := tw_nat g8 A3
    rw [epage]
    simp only [am_wp, am_stp, am_en, am_as, am_pad, am_nth, am_set, am_st1, am_st2, am_kl, am_kill, am_mem, am_fv, am_tk, am_wt, am_bk, Option.toList, List.cons_append, List.nil_append, Nat.reduceAdd, Nat.reduceEqDiff, Nat.reduceLeDiff, reduceIte, Nat.reduceLT, or_self, true_or, or_true, if_true, if_false, and_self, and_true, true_and, not_false_eq_true, not_true_eq_false]
    refine am_go [178] 3 ?_
    simp only [am_wp, am_stp, am_en, am_as, am_pad, am_nth, am_set, am_st1, am_st2, am_kl, am_kill, am_mem, am_fv, am_tk, am_wt, am_bk, Option.toList, List.cons_append, List.nil_append, Nat.reduceAdd, Nat.reduceEqDiff, Nat.reduceLeDiff, reduceIte, Nat.reduceLT, or_self, true_or, or_true, if_true, if_false, and_self, and_true, true_and, not_false_eq_true, not_true_eq_false, fd_Mo_open_173, fd_Mo_open_175, fd_Mo_open_176]
    have z79 : ∀ t, am_I g8 79 t = if t = k then nI l else am_I g1 79 t := fun t => by
      rw [f7.2.2.2.2.2.2.1 79 (by decide), f6.2.2.2.2.2.2.1 79 (by decide), f5.2.2.2.2.2.2.1 79 (by decide), u79, f2.2.2.2.2.2.2.1 79 (by decide)]
    have z80 : ∀ t, am_I g8 80 t = if t = k then nI pc else am_I g1 80 t := fun t => by
      rw [f7.2.2.2.2.2.2.1 80 (by decide), f6.2.2.2.2.2.2.1 80 (by decide), u80, f3.2.2.2.2.2.2.1 80 (by decide), f2.2.2.2.2.2.2.1 80 (by decide)]
    have z82 : am_I g8 82 = am_I g1 82 := by
      rw [f7.2.2.2.2.2.2.1 82 (by decide), f6.2.2.2.2.2.2.1 82 (by decide), f5.2.2.2.2.2.2.1 82 (by decide), f3.2.2.2.2.2.2.1 82 (by decide), f2.2.2.2.2.2.2.1 82 (by decide)]
    refine rx_op_pages (d := d) (g0 := g8) C (by omega) hE (by rw [z80, if_pos rfl]) hpc hb (fun g9 pl a9 w11 J hlen => ?_) pc [] page _ g8 (by simp) hpage ⟨F7, by simp, by simp, trivial, by simp [pe, ch_E], rfl, rfl, rfl, fun _ _ => rfl⟩
    obtain ⟨J1, J2, J3, J4, J5, J6, J7, J8, J9⟩ := J
    refine am_go [96] 3 ?_
    simp only [am_wp, am_stp, am_en, am_as, am_pad, am_nth, am_set, am_st1, am_st2, am_kl, am_kill, am_mem, am_fv, am_tk, am_wt, am_bk, Option.toList, List.cons_append, List.nil_append, Nat.reduceAdd, Nat.reduceEqDiff, Nat.reduceLeDiff, reduceIte, Nat.reduceLT, or_self, true_or, or_true, if_true, if_false, and_self, and_true, true_and, not_false_eq_true, not_true_eq_false, fd_Mo_open_397, fd_Mo_open_400, fd_Mo_open_403, ea7, nI_1]
    have e739 : am_I g9 73 = am_I h 73 := J1.1.2.2.2.2.2.2.1 73 (by decide)
    have := rx_op_runs (d := d) (nx := nx) (ev := ev) (od := od) C hd2 A hE hb hx m (k + 1) (.int (nI k)) (.int a9) (.int (nI pc)) w11 g9 (by omega) ⟨J1, fun t ht => ?_⟩
    · rw [hA7] at this
      exact this
    · by_cases et : t = k
      · subst et
        refine ⟨⟨by omega, pl, ?_, ?_, J2, fun q hq => (J3 q hq).eq (fun j _ => by rw [e739]), J4⟩, fun l' hl' => ?_⟩
        · intro q
          rw [q] at hlen
          exact pc0 hlen.symm
        · rw [J8, z80, if_pos rfl, hlen]
        · rw [hl] at hl'
          cases hl'
          rw [J7, z79, if_pos rfl]
      · obtain ⟨r1, r2⟩ := IR t (by omega)
        refine ⟨r1.eq P1024 ?_ (fun k' hk' => ?_) (fun q hq => hq.eq (fun j _ => by rw [e739, e73])), fun l' hl' => ?_⟩
        · rw [J8, z80, if_neg et]
        · rw [J9 _ (by rcases Nat.lt_or_gt_of_ne et with x | x <;> omega), z82]
        · rw [J7, z79, if_neg et]
          exact r2 l' hl'
theorem cnt_range (t : Nat) : ∀ n, (List.range n).count t = if t < n then 1 else 0
  | 0 => by simp
  | n + 1 => by
    rw [List.range_succ, List.count_append, cnt_range t n]
    by_cases e : t = n
    · subst e
      simp
    · by_cases h : t < n
      · rw [if_pos h, if_pos (by omega)]
        simp [List.count_cons, Ne.symm e]
      · rw [if_neg h, if_neg (by omega)]
        simp [List.count_cons, Ne.symm e]
theorem al_nil {now : List Nat} {mk : Nat → List Nat} (e : al now mk = []) : ∀ X, al X mk = X := fun X => by
  simp only [al, List.append_eq_nil_iff] at e
  obtain ⟨-, e0, e1, e2, e3, e4, e5, e6, e7⟩ := e
  unfold al
  rw [e0, e1, e2, e3, e4, e5, e6, e7]
  simp
/-- the runs are now's -/
theorem rx_op_end {d n : Nat} {a1 a2 a3 a4 a5 : Int32} {w8 w9 w10 w11 : Value} {h : am_H} {Q : am_O → am_H → Prop} (hS : mo_Sk h) (hn : n ≤ 9) (hx : ∀ g, am_fi [77, 86] h g → (∀ t, am_I g 77 t = if t < n then 1 else am_I h 77 t) → (∀ i, i < n → am_I g 86 i = nI i) → Q (.inl (some (.int (nI n)))) g) : ∀ (m i : Nat) (g : am_H), m + i = n → am_fi [77, 86] h g → (∀ t, am_I g 77 t = if t < i then 1 else am_I h 77 t) → (∀ j, j < i → am_I g 86 j = nI j) →
    am_Ex nm_pr d mt_Mo_open (439, [.ref 72, .int a1, .int a2, .int a3, .int a4, .int a5, .int (nI n), .int (nI i), w8, w9, w10, w11], [], g) Q
  | 0, i, g, hm, F, v1, v2 => by
    have S := hS.fi F
    have e : i = n := by omega
    subst e
    have l1 : ¬ nI i < nI i := nI_nlt (Nat.le_refl _) (by omega)
    refine am_go [446, 469] 3 ?_
    simp only [am_wp, am_stp, am_en, am_as, am_pad, am_nth, am_set, am_st1, am_st2, am_kl, am_kill, am_mem, am_fv, am_tk, am_wt, am_bk, Option.toList, List.cons_append, List.nil_append, Nat.reduceAdd, Nat.reduceEqDiff, Nat.reduceLeDiff, reduceIte, Nat.reduceLT, or_self, true_or, or_true, if_true, if_false, and_self, and_true, true_and, not_false_eq_true, not_true_eq_false, fd_Mo_open_439, fd_Mo_open_441, fd_Mo_open_443, S.all, l1]
    refine am_go [] 2 ?_
    simp only [am_wp, am_stp, am_en, am_as, am_pad, am_nth, am_set, am_st1, am_st2, am_kl, am_kill, am_mem, am_fv, am_tk, am_wt, am_bk, Option.toList, List.cons_append, List.nil_append, Nat.reduceAdd, Nat.reduceEqDiff, Nat.reduceLeDiff, reduceIte, Nat.reduceLT, or_self, true_or, or_true, if_true, if_false, and_self, and_true, true_and, not_false_eq_true, not_true_eq_false, fd_Mo_open_469, fd_Mo_open_471, S.all]
    exact hx g F v1 v2
  | m + 1, i, g, hm, F, v1, v2 => by
    have S := hS.fi F
    have l1 : nI i < nI n := nI_lt (by omega) (by omega)
    have i1 := am_inb (c := i) (N := 9) (by omega) (by omega)
    have i2 := am_inb (c := i) (N := 100) (by omega) (by omega)
    have q1 : (nI i).toNatClampNeg = i := nI_clamp (by omega)
    refine am_go [446, 469] 3 ?_
    simp only [am_wp, am_stp, am_en, am_as, am_pad, am_nth, am_set, am_st1, am_st2, am_kl, am_kill, am_mem, am_fv, am_tk, am_wt, am_bk, Option.toList, List.cons_append, List.nil_append, Nat.reduceAdd, Nat.reduceEqDiff, Nat.reduceLeDiff, reduceIte, Nat.reduceLT, or_self, true_or, or_true, if_true, if_false, and_self, and_true, true_and, not_false_eq_true, not_true_eq_false, fd_Mo_open_439, fd_Mo_open_441, fd_Mo_open_443, S.all, l1]
    refine am_go [455] 5 ?_
    simp only [am_wp, am_stp, am_en, am_as, am_pad, am_nth, am_set, am_st1, am_st2, am_kl, am_kill, am_mem, am_fv, am_tk, am_wt, am_bk, Option.toList, List.cons_append, List.nil_append, Nat.reduceAdd, Nat.reduceEqDiff, Nat.reduceLeDiff, reduceIte, Nat.reduceLT, or_self, true_or, or_true, if_true, if_false, and_self, and_true, true_and, not_false_eq_true, not_true_eq_false, fd_Mo_open_446, fd_Mo_open_447, fd_Mo_open_450, fd_Mo_open_452, fd_Mo_open_454, S.all, i1, q1]
    have F1 : am_fi [77, 86] h (am_sI g 86 i (nI i)) := F.sI (by simp)
    have u86 : ∀ j, am_I (am_sI g 86 i (nI i)) 86 j = if j = i then nI i else am_I g 86 j := fun j => by rw [hx_I_sI, if_pos rfl]
    have u77 : am_I (am_sI g 86 i (nI i)) 77 = am_I g 77 := by funext j; rw [hx_I_sI, if_neg (by decide)]
    generalize am_sI g 86 i (nI i) = g1 at *
    have S1 := hS.fi F1
    refine am_go [439] 7 ?_
    simp only [am_wp, am_stp, am_en, am_as, am_pad, am_nth, am_set, am_st1, am_st2, am_kl, am_kill, am_mem, am_fv, am_tk, am_wt, am_bk, Option.toList, List.cons_append, List.nil_append, Nat.reduceAdd, Nat.reduceEqDiff, Nat.reduceLeDiff, reduceIte, Nat.reduceLT, or_self, true_or, or_true, if_true, if_false, and_self, and_true, true_and, not_false_eq_true, not_true_eq_false, fd_Mo_open_455, fd_Mo_open_456, fd_Mo_open_459, fd_Mo_open_461, fd_Mo_open_462, fd_Mo_open_463, fd_Mo_open_466, S1.all, i2, q1, nI_1]
    refine rx_op_end hS hn hx m (i + 1) _ (by omega) (F1.sI (by simp)) (fun t => ?_) (fun j hj => ?_)
    · rw [hx_I_sI, if_pos rfl, u77, v1]
      by_cases e : t = i
      · rw [if_pos e, if_pos (by omega)]
      · rw [if_neg e]
        by_cases e2 : t < i
        · rw [if_pos e2, if_pos (by omega)]
        · rw [if_neg e2, if_neg (by omega)]
    · rw [hx_I_sI, if_neg (by decide), u86]
      by_cases e : j = i
      · rw [if_pos e, e]
      · rw [if_neg e]; exact v2 j (by omega)
