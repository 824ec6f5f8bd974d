/-! THE REFERENCE MERGES -/
def mi (P : Nat) (E : Nat → List ent) (now : List Nat) (mk : Nat → List Nat) (h g : am_H) (M : List ent) : Prop := rC P g ∧ rR P g E now mk ∧ ky_S g M ∧ kl (kB P E []) M ∧ am_fi rA h g ∧ am_I g 72 3 = 0 ∧ am_I g 79 = am_I h 79
theorem mi.lv {P : Nat} {E : Nat → List ent} {now : List Nat} {mk : Nat → List Nat} {h g : am_H} {M : List ent} (I : mi P E now mk h g M) (s : Nat) : lev g s = lev h s := by
  unfold lev
  rw [I.2.2.2.2.2.2]
theorem mi.rI {P : Nat} {E : Nat → List ent} {now : List Nat} {mk : Nat → List Nat} {h g : am_H} {M : List ent} (I : mi P E now mk h g M) : rI P g := ⟨I.1, E, now, mk, I.2.1⟩
theorem mi.rq {P : Nat} {E : Nat → List ent} {now : List Nat} {mk : Nat → List Nat} {h g : am_H} {M : List ent} (I : mi P E now mk h g M) : rq P h g := ⟨I.rI, I.2.2.2.2.1⟩
theorem mi.fr {P : Nat} {E : Nat → List ent} {now : List Nat} {mk : Nat → List Nat} {S : List Nat} {h g g' : am_H} {M M' : List ent} (I : mi P E now mk h g M) (f : am_fi S g g') (hS : ∀ q ∈ S, q = 72 ∨ q ∈ rB) (h72 : ∀ j, rJ j → am_I g' 72 j = am_I g 72 j) (K : ky_S g' M') (k : kl (kB P E []) M') : mi P E now mk h g' M' := by
  obtain ⟨i1, i2, i3, i4, i5, i6, i7⟩ := I
  refine ⟨i1.fr f hS h72, i2.fr i1.2.2.1 f hS h72, K, k, i5.trans (f.sub (rA_of hS)), by rw [h72 3 (by simp [rJ])]; exact i6, ?_⟩
  rw [(rfr f hS 79 (by decide) (by decide)).1]
  exact i7
theorem nI_m1 {p : Nat} (hp : p < 2 ^ 31) : ¬ nI p = -1 := fun q => by
  have h0 := nI_pos (n := p) hp
  rw [q] at h0
  exact h0 (by decide)
theorem rx_mn_take {d P to : Nat} {x3 : Int32} {w4 w5 w6 w7 w8 : Value} {E : Nat → List ent} {now : List Nat} {mk : Nat → List Nat} {h : am_H} {Q : am_O → am_H → Prop} (hto : to ≤ 3) (hb : ∀ g, rq P h g → Q (.inl (some (.int (-1000000)))) g) (hx : ∀ g M, mi P E now mk h g M → am_Ex nm_pr (d + 5) mt_Mo_mergeNow (73, [.ref 72, .int (nI (up to (now.map (lev h)))), .int (nI to), .int x3, w4, w5, w6, w7, w8], [], g) Q) : ∀ (m t : Nat) (g : am_H) (M : List ent), m + t = up to (now.map (lev h)) → mi P E now mk h g M →
    am_Ex nm_pr (d + 5) mt_Mo_mergeNow (26, [.ref 72, .int (nI t), .int (nI to), .int x3, w4, w5, w6, w7, w8], [], g) Q
  | m, t, g, M, hm, I => by
    obtain ⟨C, R, Ky, kM, F, i3, i79⟩ := id I
    have S := C.1
    have n9 := R.n9
    have ul := up_le to (now.map (lev h))
    rw [List.length_map] at ul
    have c2 := R.1.1
    by_cases hl : t < now.length
    · obtain ⟨s, hs⟩ : ∃ s, now[t]? = some s := ⟨_, List.getElem?_eq_getElem hl⟩
      obtain ⟨x1, x2⟩ := R.ns.2.2 t s hs
      obtain ⟨y1, y2⟩ := R.nl s (List.mem_of_getElem? hs)
      have hlev : (now.map (lev h))[t]? = some (lev g s) := by rw [List.getElem?_map, hs, I.lv s]; rfl
      have l1 : nI t < nI now.length := nI_lt hl (by omega)
      have i1 := am_inb (c := t) (N := 9) (by omega) (by omega)
      have q1 : (nI t).toNatClampNeg = t := nI_clamp (by omega)
      have i2 := am_inb (c := s) (N := 100) (by omega) (by omega)
      have q2 : (nI s).toNatClampNeg = s := nI_clamp (by omega)
      cases m with
      | zero =>
        have e : t = up to (now.map (lev h)) := by omega
        have hgt := up_at (L := to) (now.map (lev h)) (lev g s) (by rw [← e]; exact hlev)
        have l2 : nI to < nI (lev g s) := nI_lt (by omega) (by omega)
        refine am_go [34, 73] 4 ?_
        simp only [am_wp, am_stp, am_en, am_as, am_pad, am_nth, am_set, am_st1, am_st2, am_kl, am_kill, am_mem, am_fv, am_tk, am_wt, am_bk, Option.toList, List.cons_append, List.nil_append, Nat.reduceAdd, Nat.reduceEqDiff, Nat.reduceLeDiff, reduceIte, Nat.reduceLT, or_self, true_or, or_true, if_true, if_false, and_self, and_true, true_and, not_false_eq_true, not_true_eq_false, fd_Mo_mergeNow_26, fd_Mo_mergeNow_27, fd_Mo_mergeNow_28, fd_Mo_mergeNow_31, S.all, c2, l1]
        refine am_go [49, 73] 9 ?_
        simp only [am_wp, am_stp, am_en, am_as, am_pad, am_nth, am_set, am_st1, am_st2, am_kl, am_kill, am_mem, am_fv, am_tk, am_wt, am_bk, Option.toList, List.cons_append, List.nil_append, Nat.reduceAdd, Nat.reduceEqDiff, Nat.reduceLeDiff, reduceIte, Nat.reduceLT, or_self, true_or, or_true, if_true, if_false, and_self, and_true, true_and, not_false_eq_true, not_true_eq_false, fd_Mo_mergeNow_34, fd_Mo_mergeNow_35, fd_Mo_mergeNow_38, fd_Mo_mergeNow_39, fd_Mo_mergeNow_42, fd_Mo_mergeNow_43, fd_Mo_mergeNow_44, fd_Mo_mergeNow_45, fd_Mo_mergeNow_46, S.all, i1, q1, x1, i2, q2, y1, l2]
        rw [e]
        exact hx g M I
      | succ m =>
        have hle := up_lt (L := to) (now.map (lev h)) t (lev g s) (by omega) hlev
        have l2 : ¬ nI to < nI (lev g s) := nI_nlt (by omega) (by omega)
        refine am_go [34, 73] 4 ?_
        simp only [am_wp, am_stp, am_en, am_as, am_pad, am_nth, am_set, am_st1, am_st2, am_kl, am_kill, am_mem, am_fv, am_tk, am_wt, am_bk, Option.toList, List.cons_append, List.nil_append, Nat.reduceAdd, Nat.reduceEqDiff, Nat.reduceLeDiff, reduceIte, Nat.reduceLT, or_self, true_or, or_true, if_true, if_false, and_self, and_true, true_and, not_false_eq_true, not_true_eq_false, fd_Mo_mergeNow_26, fd_Mo_mergeNow_27, fd_Mo_mergeNow_28, fd_Mo_mergeNow_31, S.all, c2, l1]
        refine am_go [49, 73] 9 ?_
        simp only [am_wp, am_stp, am_en, am_as, am_pad, am_nth, am_set, am_st1, am_st2, am_kl, am_kill, am_mem, am_fv, am_tk, am_wt, am_bk, Option.toList, List.cons_append, List.nil_append, Nat.reduceAdd, Nat.reduceEqDiff, Nat.reduceLeDiff, reduceIte, Nat.reduceLT, or_self, true_or, or_true, if_true, if_false, and_self, and_true, true_and, not_false_eq_true, not_true_eq_false, fd_Mo_mergeNow_34, fd_Mo_mergeNow_35, fd_Mo_mergeNow_38, fd_Mo_mergeNow_39, fd_Mo_mergeNow_42, fd_Mo_mergeNow_43, fd_Mo_mergeNow_44, fd_Mo_mergeNow_45, fd_Mo_mergeNow_46, S.all, i1, q1, x1, i2, q2, y1, l2]
        refine am_go [] 6 ?_
        simp only [am_wp, am_stp, am_en, am_as, am_pad, am_nth, am_set, am_st1, am_st2, am_kl, am_kill, am_mem, am_fv, am_tk, am_wt, am_bk, Option.toList, List.cons_append, List.nil_append, Nat.reduceAdd, Nat.reduceEqDiff, Nat.reduceLeDiff, reduceIte, Nat.reduceLT, or_self, true_or, or_true, if_true, if_false, and_self, and_true, true_and, not_false_eq_true, not_true_eq_false, fd_Mo_mergeNow_49, fd_Mo_mergeNow_50, fd_Mo_mergeNow_51, fd_Mo_mergeNow_54, fd_Mo_mergeNow_55, fd_Mo_mergeNow_56, S.all, i1, q1, x1]
        have live : s ∈ al now mk := by unfold al; exact List.mem_append.mpr (Or.inl (List.mem_of_getElem? hs))
        refine am_call (rx_bel (d := d + 2) C.2.2.1 (by simp) Ky kM (R.2.2.1.2 s live)) (fun o g1 z => ?_)
        obtain ⟨F1, v, z⟩ := z
        have vJ : ∀ j, rJ j → am_I g1 72 j = am_I g 72 j := fun j hj => v j (rJ_ne hj).2.2.2.1 (rJ_ne hj).2.2.2.2.2.2.1 (rJ_ne hj).2.2.2.2.2.2.2.1
        have S1 := S.fi F1
        rcases z with ⟨rfl, M1, Ky1, kM1⟩ | ⟨p, hp, rfl⟩
        · simp only [am_wp, am_stp, am_en, am_as, am_pad, am_nth, am_set, am_st1, am_st2, am_kl, am_kill, am_mem, am_fv, am_tk, am_wt, am_bk, Option.toList, List.cons_append, List.nil_append, Nat.reduceAdd, Nat.reduceEqDiff, Nat.reduceLeDiff, reduceIte, Nat.reduceLT, or_self, true_or, or_true, if_true, if_false, and_self, and_true, true_and, not_false_eq_true, not_true_eq_false]
          refine am_go [63, 67] 2 ?_
          simp only [am_wp, am_stp, am_en, am_as, am_pad, am_nth, am_set, am_st1, am_st2, am_kl, am_kill, am_mem, am_fv, am_tk, am_wt, am_bk, Option.toList, List.cons_append, List.nil_append, Nat.reduceAdd, Nat.reduceEqDiff, Nat.reduceLeDiff, reduceIte, Nat.reduceLT, or_self, true_or, or_true, if_true, if_false, and_self, and_true, true_and, not_false_eq_true, not_true_eq_false, fd_Mo_mergeNow_59, fd_Mo_mergeNow_60, S1.all]
          refine am_go [26] 2 ?_
          simp only [am_wp, am_stp, am_en, am_as, am_pad, am_nth, am_set, am_st1, am_st2, am_kl, am_kill, am_mem, am_fv, am_tk, am_wt, am_bk, Option.toList, List.cons_append, List.nil_append, Nat.reduceAdd, Nat.reduceEqDiff, Nat.reduceLeDiff, reduceIte, Nat.reduceLT, or_self, true_or, or_true, if_true, if_false, and_self, and_true, true_and, not_false_eq_true, not_true_eq_false, fd_Mo_mergeNow_67, fd_Mo_mergeNow_70, S1.all, nI_1]
          exact rx_mn_take hto hb hx m (t + 1) g1 M1 (by omega) (I.fr F1 (by simp [rB]) vJ Ky1 kM1)
        · have n1 := nI_m1 (p := p) (by omega)
          simp only [am_wp, am_stp, am_en, am_as, am_pad, am_nth, am_set, am_st1, am_st2, am_kl, am_kill, am_mem, am_fv, am_tk, am_wt, am_bk, Option.toList, List.cons_append, List.nil_append, Nat.reduceAdd, Nat.reduceEqDiff, Nat.reduceLeDiff, reduceIte, Nat.reduceLT, or_self, true_or, or_true, if_true, if_false, and_self, and_true, true_and, not_false_eq_true, not_true_eq_false]
          refine am_go [63, 67] 2 ?_
          simp only [am_wp, am_stp, am_en, am_as, am_pad, am_nth, am_set, am_st1, am_st2, am_kl, am_kill, am_mem, am_fv, am_tk, am_wt, am_bk, Option.toList, List.cons_append, List.nil_append, Nat.reduceAdd, Nat.reduceEqDiff, Nat.reduceLeDiff, reduceIte, Nat.reduceLT, or_self, true_or, or_true, if_true, if_false, and_self, and_true, true_and, not_false_eq_true, not_true_eq_false, fd_Mo_mergeNow_59, fd_Mo_mergeNow_60, S1.all, n1]
          refine am_go [] 2 ?_
          simp only [am_wp, am_stp, am_en, am_as, am_pad, am_nth, am_set, am_st1, am_st2, am_kl, am_kill, am_mem, am_fv, am_tk, am_wt, am_bk, Option.toList, List.cons_append, List.nil_append, Nat.reduceAdd, Nat.reduceEqDiff, Nat.reduceLeDiff, reduceIte, Nat.reduceLT, or_self, true_or, or_true, if_true, if_false, and_self, and_true, true_and, not_false_eq_true, not_true_eq_false, fd_Mo_mergeNow_63, fd_Mo_mergeNow_66, S1.all]
          exact hb g1 (I.rq.trans (rq.fr I.rI F1 (by simp [rB]) vJ))
    · have l1 : ¬ nI t < nI now.length := nI_nlt (by omega) (by omega)
      have e : t = up to (now.map (lev h)) := by omega
      refine am_go [34, 73] 4 ?_
      simp only [am_wp, am_stp, am_en, am_as, am_pad, am_nth, am_set, am_st1, am_st2, am_kl, am_kill, am_mem, am_fv, am_tk, am_wt, am_bk, Option.toList, List.cons_append, List.nil_append, Nat.reduceAdd, Nat.reduceEqDiff, Nat.reduceLeDiff, reduceIte, Nat.reduceLT, or_self, true_or, or_true, if_true, if_false, and_self, and_true, true_and, not_false_eq_true, not_true_eq_false, fd_Mo_mergeNow_26, fd_Mo_mergeNow_27, fd_Mo_mergeNow_28, fd_Mo_mergeNow_31, S.all, c2, l1]
      rw [e]
      exact hx g M I
theorem rx_mn_round {d P : Nat} {E : Nat → List ent} {now : List Nat} {mk : Nat → List Nat} {h : am_H} {Q : am_O → am_H → Prop} (hb : ∀ g, rq P h g → Q (.inl (some (.int (-1000000)))) g)
    (hx1 : ∀ to, 1 ≤ to → to ≤ 3 → ∀ g x4 x5 w6 w7 w8 M, mi P E now mk h g M → am_Ex nm_pr (d + 5) mt_Mo_mergeNow (200, [.ref 72, .int (nI (up to (now.map (lev h)))), .int (nI to), .int 1, .int x4, .int x5, w6, w7, w8], [], g) Q) :
    ∀ (m to t : Nat) (w4 w5 w6 w7 w8 : Value) (g : am_H) (M : List ent), m + to = 3 → 1 ≤ to → t ≤ up to (now.map (lev h)) → mi P E now mk h g M →
    am_Ex nm_pr (d + 5) mt_Mo_mergeNow (26, [.ref 72, .int (nI t), .int (nI to), .int 0, w4, w5, w6, w7, w8], [], g) Q
  | m, to, t, w4, w5, w6, w7, w8, g, M, hm, h1, ht, I => by
    refine rx_mn_take (by omega) hb (fun g1 M1 I1 => ?_) (up to (now.map (lev h)) - t) t g M (by omega) I
    obtain ⟨C, R, Ky, kM, F, i3, i79⟩ := id I1
    have S := C.1
    have n9 := R.n9
    have ul := up_le to (now.map (lev h))
    rw [List.length_map] at ul
    have c2 := R.1.1
    have hml := kM.len C.2.2.1 (by simp)
    have u1 := up_mono (show to ≤ to + 1 by omega) (now.map (lev h))
    generalize hk : up to (now.map (lev h)) = k at *
    have rest : ∀ b : Bool, am_Ex nm_pr (d + 5) mt_Mo_mergeNow (87, [.ref 72, .int (nI k), .int (nI to), .int 0, w4, w5, w6, w7, w8], [.int (if b = true then 1 else 0), .ref 72], g1) Q := by
      intro b
      refine am_go [] 1 ?_
      simp only [am_wp, am_stp, am_en, am_as, am_pad, am_nth, am_set, am_st1, am_st2, am_kl, am_kill, am_mem, am_fv, am_tk, am_wt, am_bk, Option.toList, List.cons_append, List.nil_append, Nat.reduceAdd, Nat.reduceEqDiff, Nat.reduceLeDiff, reduceIte, Nat.reduceLT, or_self, true_or, or_true, if_true, if_false, and_self, and_true, true_and, not_false_eq_true, not_true_eq_false, fd_Mo_mergeNow_87, S.all]
      refine am_call (l2_ripe (d := d + 4) (b := b) Ky hml) (fun o g2 z => ?_)
      obtain ⟨rfl, F2, v, Ky2, T2⟩ := z
      have vJ : ∀ j, rJ j → am_I g2 72 j = am_I g1 72 j := fun j hj => v j (rJ_ne hj).2.2.2.2.2.2.1
      have kN : kl (kB P E []) (if b = true then rp M1 else M1) := by
        cases b with
        | true => exact kM.rp_
        | false => exact kM
      have I2 := I1.fr F2 (by simp [rB]) vJ Ky2 kN
      generalize (if b = true then rp M1 else M1) = N at *
      have S2 := I2.1.1
      simp only [am_wp, am_stp, am_en, am_as, am_pad, am_nth, am_set, am_st1, am_st2, am_kl, am_kill, am_mem, am_fv, am_tk, am_wt, am_bk, Option.toList, List.cons_append, List.nil_append, Nat.reduceAdd, Nat.reduceEqDiff, Nat.reduceLeDiff, reduceIte, Nat.reduceLT, or_self, true_or, or_true, if_true, if_false, and_self, and_true, true_and, not_false_eq_true, not_true_eq_false]
      refine am_go [] 3 ?_
      simp only [am_wp, am_stp, am_en, am_as, am_pad, am_nth, am_set, am_st1, am_st2, am_kl, am_kill, am_mem, am_fv, am_tk, am_wt, am_bk, Option.toList, List.cons_append, List.nil_append, Nat.reduceAdd, Nat.reduceEqDiff, Nat.reduceLeDiff, reduceIte, Nat.reduceLT, or_self, true_or, or_true, if_true, if_false, and_self, and_true, true_and, not_false_eq_true, not_true_eq_false, fd_Mo_mergeNow_90, fd_Mo_mergeNow_92, fd_Mo_mergeNow_93, S2.all]
      refine am_call (l2_pagesFor (d := d + 1) Ky2) (fun o g3 z => ?_)
      obtain ⟨rfl, rfl⟩ := z
      simp only [am_wp, am_stp, am_en, am_as, am_pad, am_nth, am_set, am_st1, am_st2, am_kl, am_kill, am_mem, am_fv, am_tk, am_wt, am_bk, Option.toList, List.cons_append, List.nil_append, Nat.reduceAdd, Nat.reduceEqDiff, Nat.reduceLeDiff, reduceIte, Nat.reduceLT, or_self, true_or, or_true, if_true, if_false, and_self, and_true, true_and, not_false_eq_true, not_true_eq_false]
      refine am_go [98] 1 ?_
      simp only [am_wp, am_stp, am_en, am_as, am_pad, am_nth, am_set, am_st1, am_st2, am_kl, am_kill, am_mem, am_fv, am_tk, am_wt, am_bk, Option.toList, List.cons_append, List.nil_append, Nat.reduceAdd, Nat.reduceEqDiff, Nat.reduceLeDiff, reduceIte, Nat.reduceLT, or_self, true_or, or_true, if_true, if_false, and_self, and_true, true_and, not_false_eq_true, not_true_eq_false, fd_Mo_mergeNow_96]
      have fin1 : am_Ex nm_pr (d + 5) mt_Mo_mergeNow (120, [.ref 72, .int (nI k), .int (nI to), .int 0, .int (nI M1.length), .int (nI (npg N)), w6, w7, w8], [], g3) Q := by
        have one0 : ¬ (1 : Int32) = 0 := by decide
        refine am_go [200, 130] 8 ?_
        simp only [am_wp, am_stp, am_en, am_as, am_pad, am_nth, am_set, am_st1, am_st2, am_kl, am_kill, am_mem, am_fv, am_tk, am_wt, am_bk, Option.toList, List.cons_append, List.nil_append, Nat.reduceAdd, Nat.reduceEqDiff, Nat.reduceLeDiff, reduceIte, Nat.reduceLT, or_self, true_or, or_true, if_true, if_false, and_self, and_true, true_and, not_false_eq_true, not_true_eq_false, fd_Mo_mergeNow_120, fd_Mo_mergeNow_121, fd_Mo_mergeNow_125, fd_Mo_mergeNow_126, fd_Mo_mergeNow_127, fd_Mo_mergeNow_197, fd_Mo_mergeNow_22, fd_Mo_mergeNow_23, one0]
        rw [← hk]
        exact hx1 to h1 (by omega) g3 _ _ _ _ _ N I2
      have fin2 : to < 3 → am_Ex nm_pr (d + 5) mt_Mo_mergeNow (124, [.ref 72, .int (nI k), .int (nI to), .int 0, .int (nI M1.length), .int (nI (npg N)), w6, w7, w8], [], g3) Q := by
        intro h3
        refine am_go [197, 142] 10 ?_
        simp only [am_wp, am_stp, am_en, am_as, am_pad, am_nth, am_set, am_st1, am_st2, am_kl, am_kill, am_mem, am_fv, am_tk, am_wt, am_bk, Option.toList, List.cons_append, List.nil_append, Nat.reduceAdd, Nat.reduceEqDiff, Nat.reduceLeDiff, reduceIte, Nat.reduceLT, or_self, true_or, or_true, if_true, if_false, and_self, and_true, true_and, not_false_eq_true, not_true_eq_false, fd_Mo_mergeNow_124, fd_Mo_mergeNow_125, fd_Mo_mergeNow_126, fd_Mo_mergeNow_127, fd_Mo_mergeNow_130, fd_Mo_mergeNow_133, fd_Mo_mergeNow_134, fd_Mo_mergeNow_136, fd_Mo_mergeNow_139, fd_Mo_mergeNow_140, nI_1, S2.1]
        have F4 : am_fi [72] g3 (am_sI g3 72 31 (nI M1.length)) := am_fi.refl.sI (by simp)
        have u31 : am_I (am_sI g3 72 31 (nI M1.length)) 72 31 = nI M1.length := by simp only [hx_nx_sI, hx_ce_sI, hx_sl_sI, hx_kd_sI, hx_ln_sI, hx_I_sI, hx_L_sI, hx_R_sI, hx_nx_sL, hx_ce_sL, hx_sl_sL, hx_kd_sL, hx_ln_sL, hx_I_sL, hx_L_sL, hx_R_sL, hx_nx_sR, hx_ce_sR, hx_sl_sR, hx_kd_sR, hx_ln_sR, hx_I_sR, hx_L_sR, hx_R_sR, hx_nx_al, hx_ce_al, hx_sl_al, hx_kd_al, hx_ln_al, hx_I_al, hx_L_al, hx_R_al, hx_nx_row, hx_ce_row, hx_sl_row, hx_kd_row, hx_ln_row, hx_I_row, hx_L_row, hx_R_row, hx_nx_mk, hx_kd_mk, hx_ln_mk, hx_I_mk, hx_L_mk, hx_R_mk, am_wp, am_stp, am_en, am_as, am_pad, am_nth, am_set, am_st1, am_st2, am_kl, am_kill, am_mem, am_fv, am_tk, am_wt, am_bk, Option.toList, List.cons_append, List.nil_append, Nat.reduceAdd, Nat.reduceEqDiff, Nat.reduceLeDiff, reduceIte, Nat.reduceLT, or_self, true_or, or_true, if_true, if_false, and_self, and_true, true_and, not_false_eq_true, not_true_eq_false]
        have uj : ∀ j, j ≠ 31 → am_I (am_sI g3 72 31 (nI M1.length)) 72 j = am_I g3 72 j := fun j hj => by simp only [hx_nx_sI, hx_ce_sI, hx_sl_sI, hx_kd_sI, hx_ln_sI, hx_I_sI, hx_L_sI, hx_R_sI, hx_nx_sL, hx_ce_sL, hx_sl_sL, hx_kd_sL, hx_ln_sL, hx_I_sL, hx_L_sL, hx_R_sL, hx_nx_sR, hx_ce_sR, hx_sl_sR, hx_kd_sR, hx_ln_sR, hx_I_sR, hx_L_sR, hx_R_sR, hx_nx_al, hx_ce_al, hx_sl_al, hx_kd_al, hx_ln_al, hx_I_al, hx_L_al, hx_R_al, hx_nx_row, hx_ce_row, hx_sl_row, hx_kd_row, hx_ln_row, hx_I_row, hx_L_row, hx_R_row, hx_nx_mk, hx_kd_mk, hx_ln_mk, hx_I_mk, hx_L_mk, hx_R_mk, am_wp, am_stp, am_en, am_as, am_pad, am_nth, am_set, am_st1, am_st2, am_kl, am_kill, am_mem, am_fv, am_tk, am_wt, am_bk, Option.toList, List.cons_append, List.nil_append, Nat.reduceAdd, Nat.reduceEqDiff, Nat.reduceLeDiff, reduceIte, Nat.reduceLT, or_self, true_or, or_true, if_true, if_false, and_self, and_true, true_and, not_false_eq_true, not_true_eq_false, hj]
        generalize am_sI g3 72 31 (nI M1.length) = g4 at F4 u31 uj ⊢
        refine l2_mn_back (S2.fi F4) (by omega) (T2.fi F4 (by simp)) (fun g5 v6 F5 T5 => ?_) M1.length 0 g4 (by omega) am_fi.refl (fun i e he => by simp at he)
        have F45 : am_fi [72, 92, 93, 94] g3 g5 := (F4.sub (by simp)).trans (F5.sub (by simp))
        have j72 : am_I g5 72 = am_I g4 72 := F5.2.2.2.2.2.2.1 72 (by simp)
        refine am_go [26] 3 ?_
        simp only [am_wp, am_stp, am_en, am_as, am_pad, am_nth, am_set, am_st1, am_st2, am_kl, am_kill, am_mem, am_fv, am_tk, am_wt, am_bk, Option.toList, List.cons_append, List.nil_append, Nat.reduceAdd, Nat.reduceEqDiff, Nat.reduceLeDiff, reduceIte, Nat.reduceLT, or_self, true_or, or_true, if_true, if_false, and_self, and_true, true_and, not_false_eq_true, not_true_eq_false, fd_Mo_mergeNow_197, fd_Mo_mergeNow_22, fd_Mo_mergeNow_23]
        cases m with
        | zero => omega
        | succ m =>
          exact rx_mn_round hb hx1 m (to + 1) k _ _ _ _ _ g5 M1 (by omega) (by omega) (by omega) (I2.fr F45 (by simp [rB]) (fun j hj => by rw [j72, uj j (rJ_ne hj).2.2.2.2.2.2.1]) ⟨S2.fi F45, by rw [j72]; exact u31, by omega, T5⟩ kM)
      have hto3 : to = 1 ∨ to = 2 ∨ to = 3 := by omega
      rcases hto3 with e | e | e
      · subst e
        have m1 : (nI 1 = 3) = False := by decide
        have m2 : (nI 1 = 1) = True := eq_true rfl
        refine am_go [120, 103] 3 ?_
        simp only [am_wp, am_stp, am_en, am_as, am_pad, am_nth, am_set, am_st1, am_st2, am_kl, am_kill, am_mem, am_fv, am_tk, am_wt, am_bk, Option.toList, List.cons_append, List.nil_append, Nat.reduceAdd, Nat.reduceEqDiff, Nat.reduceLeDiff, reduceIte, Nat.reduceLT, or_self, true_or, or_true, if_true, if_false, and_self, and_true, true_and, not_false_eq_true, not_true_eq_false, fd_Mo_mergeNow_98, fd_Mo_mergeNow_99, fd_Mo_mergeNow_100, m1]
        refine am_go [115, 120, 124] 7 ?_
        simp only [am_wp, am_stp, am_en, am_as, am_pad, am_nth, am_set, am_st1, am_st2, am_kl, am_kill, am_mem, am_fv, am_tk, am_wt, am_bk, Option.toList, List.cons_append, List.nil_append, Nat.reduceAdd, Nat.reduceEqDiff, Nat.reduceLeDiff, reduceIte, Nat.reduceLT, or_self, true_or, or_true, if_true, if_false, and_self, and_true, true_and, not_false_eq_true, not_true_eq_false, fd_Mo_mergeNow_103, fd_Mo_mergeNow_105, fd_Mo_mergeNow_106, fd_Mo_mergeNow_107, fd_Mo_mergeNow_110, fd_Mo_mergeNow_112, fd_Mo_mergeNow_117, m2]
        exact wif (fin2 (by omega)) fin1
      · subst e
        have m1 : (nI 2 = 3) = False := by decide
        have m2 : (nI 2 = 1) = False := by decide
        refine am_go [120, 103] 3 ?_
        simp only [am_wp, am_stp, am_en, am_as, am_pad, am_nth, am_set, am_st1, am_st2, am_kl, am_kill, am_mem, am_fv, am_tk, am_wt, am_bk, Option.toList, List.cons_append, List.nil_append, Nat.reduceAdd, Nat.reduceEqDiff, Nat.reduceLeDiff, reduceIte, Nat.reduceLT, or_self, true_or, or_true, if_true, if_false, and_self, and_true, true_and, not_false_eq_true, not_true_eq_false, fd_Mo_mergeNow_98, fd_Mo_mergeNow_99, fd_Mo_mergeNow_100, m1]
        refine am_go [110, 120, 124] 6 ?_
        simp only [am_wp, am_stp, am_en, am_as, am_pad, am_nth, am_set, am_st1, am_st2, am_kl, am_kill, am_mem, am_fv, am_tk, am_wt, am_bk, Option.toList, List.cons_append, List.nil_append, Nat.reduceAdd, Nat.reduceEqDiff, Nat.reduceLeDiff, reduceIte, Nat.reduceLT, or_self, true_or, or_true, if_true, if_false, and_self, and_true, true_and, not_false_eq_true, not_true_eq_false, fd_Mo_mergeNow_103, fd_Mo_mergeNow_105, fd_Mo_mergeNow_106, fd_Mo_mergeNow_107, fd_Mo_mergeNow_115, fd_Mo_mergeNow_117, m2]
        exact wif (fin2 (by omega)) fin1
      · subst e
        have m1 : (nI 3 = 3) = True := eq_true rfl
        refine am_go [120, 103] 3 ?_
        simp only [am_wp, am_stp, am_en, am_as, am_pad, am_nth, am_set, am_st1, am_st2, am_kl, am_kill, am_mem, am_fv, am_tk, am_wt, am_bk, Option.toList, List.cons_append, List.nil_append, Nat.reduceAdd, Nat.reduceEqDiff, Nat.reduceLeDiff, reduceIte, Nat.reduceLT, or_self, true_or, or_true, if_true, if_false, and_self, and_true, true_and, not_false_eq_true, not_true_eq_false, fd_Mo_mergeNow_98, fd_Mo_mergeNow_99, fd_Mo_mergeNow_100, m1]
        exact fin1
    refine am_go [82, 86] 5 ?_
    simp only [am_wp, am_stp, am_en, am_as, am_pad, am_nth, am_set, am_st1, am_st2, am_kl, am_kill, am_mem, am_fv, am_tk, am_wt, am_bk, Option.toList, List.cons_append, List.nil_append, Nat.reduceAdd, Nat.reduceEqDiff, Nat.reduceLeDiff, reduceIte, Nat.reduceLT, or_self, true_or, or_true, if_true, if_false, and_self, and_true, true_and, not_false_eq_true, not_true_eq_false, fd_Mo_mergeNow_73, fd_Mo_mergeNow_74, fd_Mo_mergeNow_75, fd_Mo_mergeNow_76, fd_Mo_mergeNow_79, S.1, c2]
    refine wif ?_ ?_
    · refine am_go [87] 2 ?_
      simp only [am_wp, am_stp, am_en, am_as, am_pad, am_nth, am_set, am_st1, am_st2, am_kl, am_kill, am_mem, am_fv, am_tk, am_wt, am_bk, Option.toList, List.cons_append, List.nil_append, Nat.reduceAdd, Nat.reduceEqDiff, Nat.reduceLeDiff, reduceIte, Nat.reduceLT, or_self, true_or, or_true, if_true, if_false, and_self, and_true, true_and, not_false_eq_true, not_true_eq_false, fd_Mo_mergeNow_82, fd_Mo_mergeNow_83]
      exact rest true
    · refine am_go [87] 1 ?_
      simp only [am_wp, am_stp, am_en, am_as, am_pad, am_nth, am_set, am_st1, am_st2, am_kl, am_kill, am_mem, am_fv, am_tk, am_wt, am_bk, Option.toList, List.cons_append, List.nil_append, Nat.reduceAdd, Nat.reduceEqDiff, Nat.reduceLeDiff, reduceIte, Nat.reduceLT, or_self, true_or, or_true, if_true, if_false, and_self, and_true, true_and, not_false_eq_true, not_true_eq_false, fd_Mo_mergeNow_86]
      exact rest false
/-- the users of the first runs -/
theorem rx_users_loop {d P k : Nat} {x2 x3 x4 x5 : Int32} {w7 w8 : Value} {E : Nat → List ent} {now : List Nat} {mk : Nat → List Nat} {h0 h : am_H} {Q : am_O → am_H → Prop} (hS : mo_Sk h) (R : rR P h0 E now mk) (e86 : ∀ i s, now[i]? = some s → am_I h 86 i = nI s) (hk : k ≤ now.length) (hx : ∀ g, am_fi [77] h g → (∀ t, t < 100 → am_I g 77 t = nI ((al now mk).count t - (now.take k).count t)) → am_Ex nm_pr d mt_Mo_mergeNow (276, [.ref 72, .int (nI k), .int x2, .int x3, .int x4, .int x5, .int (nI k), w7, w8], [], g) Q) : ∀ (m i : Nat) (g : am_H), m + i = k → am_fi [77] h g → (∀ t, t < 100 → am_I g 77 t = nI ((al now mk).count t - (now.take i).count t)) →
    am_Ex nm_pr d mt_Mo_mergeNow (248, [.ref 72, .int (nI k), .int x2, .int x3, .int x4, .int x5, .int (nI i), w7, w8], [], g) Q
  | 0, i, g, hm, F, e77 => by
    have e : i = k := by omega
    subst e
    have n9 := R.n9
    have l1 : ¬ nI i < nI i := nI_nlt (Nat.le_refl _) (by omega)
    refine am_go [254, 276] 3 ?_
    simp only [am_wp, am_stp, am_en, am_as, am_pad, am_nth, am_set, am_st1, am_st2, am_kl, am_kill, am_mem, am_fv, am_tk, am_wt, am_bk, Option.toList, List.cons_append, List.nil_append, Nat.reduceAdd, Nat.reduceEqDiff, Nat.reduceLeDiff, reduceIte, Nat.reduceLT, or_self, true_or, or_true, if_true, if_false, and_self, and_true, true_and, not_false_eq_true, not_true_eq_false, fd_Mo_mergeNow_248, fd_Mo_mergeNow_250, fd_Mo_mergeNow_251, l1]
    exact hx g F e77
  | m + 1, i, g, hm, F, e77 => by
    have n9 := R.n9
    have S := hS.fi F
    obtain ⟨s, hs⟩ : ∃ s, now[i]? = some s := ⟨now[i]'(by omega), List.getElem?_eq_getElem (by omega)⟩
    have hs100 := (R.ns.2.2 i s hs).2
    have g86 : am_I g 86 i = nI s := by rw [F.2.2.2.2.2.2.1 86 (by simp)]; exact e86 i s hs
    have g77 := e77 s hs100
    have l1 : nI i < nI k := nI_lt (by omega) (by omega)
    have i1 := am_inb (c := i) (N := 9) (by omega) (by omega)
    have q1 : (nI i).toNatClampNeg = i := nI_clamp (by omega)
    have i2 := am_inb (c := s) (N := 100) (by omega) (by omega)
    have q2 : (nI s).toNatClampNeg = s := nI_clamp (by omega)
    -- one more of s is in now than in its first i
    have tk : now.take (i + 1) = now.take i ++ [s] := take_snoc hs
    have c1 : (now.take (i + 1)).count s = (now.take i).count s + 1 := by rw [tk, List.count_append]; simp
    have c2 : (now.take (i + 1)).count s ≤ (al now mk).count s := by
      have a1 : (now.take (i + 1)).count s ≤ now.count s := (List.take_sublist _ _).count_le _
      have a2 : now.count s ≤ (al now mk).count s := by unfold al; rw [List.count_append]; omega
      omega
    have a81 := R.a81
    have cl := cnt_le (al now mk) s
    have em : nI ((al now mk).count s - (now.take i).count s) - 1 = nI ((al now mk).count s - (now.take (i + 1)).count s) := by
      have e0 : nI ((al now mk).count s - (now.take i).count s) - 1 = nI ((al now mk).count s - (now.take i).count s - 1) := nI_sub (b := 1) (by omega)
      rw [e0, show (al now mk).count s - (now.take i).count s - 1 = (al now mk).count s - (now.take (i + 1)).count s by omega]
    refine am_go [254, 276] 3 ?_
    simp only [am_wp, am_stp, am_en, am_as, am_pad, am_nth, am_set, am_st1, am_st2, am_kl, am_kill, am_mem, am_fv, am_tk, am_wt, am_bk, Option.toList, List.cons_append, List.nil_append, Nat.reduceAdd, Nat.reduceEqDiff, Nat.reduceLeDiff, reduceIte, Nat.reduceLT, or_self, true_or, or_true, if_true, if_false, and_self, and_true, true_and, not_false_eq_true, not_true_eq_false, fd_Mo_mergeNow_248, fd_Mo_mergeNow_250, fd_Mo_mergeNow_251, l1]
    refine am_go [248] 13 ?_
    simp only [am_wp, am_stp, am_en, am_as, am_pad, am_nth, am_set, am_st1, am_st2, am_kl, am_kill, am_mem, am_fv, am_tk, am_wt, am_bk, Option.toList, List.cons_append, List.nil_append, Nat.reduceAdd, Nat.reduceEqDiff, Nat.reduceLeDiff, reduceIte, Nat.reduceLT, or_self, true_or, or_true, if_true, if_false, and_self, and_true, true_and, not_false_eq_true, not_true_eq_false, fd_Mo_mergeNow_254, fd_Mo_mergeNow_255, fd_Mo_mergeNow_258, fd_Mo_mergeNow_259, fd_Mo_mergeNow_262, fd_Mo_mergeNow_264, fd_Mo_mergeNow_265, fd_Mo_mergeNow_266, fd_Mo_mergeNow_267, fd_Mo_mergeNow_268, fd_Mo_mergeNow_269, fd_Mo_mergeNow_270, fd_Mo_mergeNow_273, S.all, i1, q1, g86, i2, q2, g77, em, nI_1]
    refine rx_users_loop hS R e86 hk hx m (i + 1) _ (by omega) (F.sI (by simp)) (fun t ht => ?_)
    rw [hx_I_sI, if_pos rfl]
    by_cases e : t = s
    · subst e
      rw [if_pos rfl]
    · rw [if_neg e, e77 t ht, tk, List.count_append]
      have : [s].count t = 0 := by simp [List.count_cons, Ne.symm e]
      rw [this]
      rfl
/-- runs went, none came -/
theorem rR_drop {P k : Nat} {h g : am_H} {E : Nat → List ent} {now : List Nat} {mk : Nat → List Nat} (R : rR P h E now mk) (e87 : am_I g 87 = am_I h 87) (e88 : am_I g 88 = am_I h 88) (e89 : am_I g 89 = am_I h 89) (hw : ∀ s0 ∈ al now mk, rs_W P g E s0) (e24 : am_I g 72 24 = nI (now.drop k).length) (e86 : ∀ i, i < (now.drop k).length → am_I g 86 i = am_I h 86 (i + k)) (e77 : ∀ t, t < 100 → am_I g 77 t = nI ((al now mk).count t - (now.take k).count t)) (e79 : am_I g 79 = am_I h 79) (e3 : am_I g 72 3 = 0) (hlv : lv_ok 0 ((now.drop k).map (lev h)) ∧ up 0 ((now.drop k).map (lev h)) ≤ 6) : rR P g E (now.drop k) mk := by
  have el : ∀ s, lev g s = lev h s := fun s => by unfold lev; rw [e79]
  have em : (now.drop k).map (lev g) = (now.drop k).map (lev h) := List.map_congr_left (fun t _ => el t)
  have sub : ∀ t, t ∈ al (now.drop k) mk → t ∈ al now mk := fun t ht => by
    unfold al at ht ⊢
    rcases List.mem_append.mp ht with q | q
    · exact List.mem_append.mpr (Or.inl (List.mem_of_mem_drop q))
    · exact List.mem_append.mpr (Or.inr q)
  have cnt : ∀ t, (al now mk).count t = (now.take k).count t + (al (now.drop k) mk).count t := fun t => by
    have := congrArg (List.count t) (List.take_append_drop k now)
    rw [List.count_append] at this
    simp only [al, List.count_append]
    omega
  refine ⟨⟨e24, fun i t hi => ?_, fun t ht => ?_, by rw [em]; exact hlv.1, by rw [em]; exact hlv.2⟩, ?_, ⟨fun t ht => ?_, fun t ht => hw t (sub t ht)⟩, Or.inl e3⟩
  · have hlt := (List.getElem?_eq_some_iff.mp hi).1
    rw [e86 i hlt, Nat.add_comm i k]
    rw [List.getElem?_drop] at hi
    exact R.1.2.1 _ t hi
  · rw [e79, el]
    exact R.1.2.2.1 t (List.mem_of_mem_drop ht)
  · unfold rR_m
    rw [e87, e88, e89]
    exact R.2.1
  · rw [e77 t ht, cnt t, Nat.add_sub_cancel_left]
