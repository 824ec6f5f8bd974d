/-! THE REFERENCE OPENS, 6: a run's pages -/
theorem rx_isLaid {d P pg : Nat} {bh : Int32} {bf : Int64} {h : am_H} (C : rC P h) (hp2 : 2 ≤ pg) (hp : pg < P) (hR : mo_Rt h pg) : am_Rt nm_pr (d + 2) mi_Mo_isLaid [.ref 72, .int (nI pg), .int bh, .long bf] h (fun o h' => am_fi [106, 107] h h' ∧ (o = .inl (some (.int 0)) ∨ (o = .inl (some (.int 1)) ∧ ∃ L, pg_M P h pg L ∧ so L ∧ (bh ≠ 0 → ∀ x ∈ L, bf < x.1)))) := by
  have hS := C.1
  have P1024 := C.2.2.1
  obtain ⟨n, hn, en⟩ := wand255 (am_I h 73 (128 * pg + 4))
  have e1 : 128 * nI pg = nI (128 * pg) := (Int32.ofNat_mul 128 pg).symm
  have e120 : nI (128 * pg) + 120 = nI (128 * pg + 120) := nI_add _ 120
  have e5 : nI (128 * pg) + 5 = nI (128 * pg + 5) := nI_add _ 5
  have e4 : nI (128 * pg) + 4 = nI (128 * pg + 4) := nI_add _ 4
  have i4 := am_inb (c := 128 * pg + 4) (N := 131072) (by omega) (by omega)
  have q4 : (nI (128 * pg + 4)).toNatClampNeg = 128 * pg + 4 := nI_clamp (by omega)
  have hB := C.b
  refine am_in' (d := d + 1) mt_Mo_isLaid 15 rfl rfl rfl ?_
  refine am_go [] 12 ?_
  simp only [am_wp, am_stp, am_en, am_as, am_pad, am_nth, am_set, am_st1, am_st2, am_kl, am_kill, am_mem, am_fv, am_tk, am_wt, am_bk, Option.toList, List.cons_append, List.nil_append, Nat.reduceAdd, Nat.reduceEqDiff, Nat.reduceLeDiff, reduceIte, Nat.reduceLT, or_self, true_or, or_true, if_true, if_false, and_self, and_true, true_and, not_false_eq_true, not_true_eq_false, fd_Mo_isLaid_0, fd_Mo_isLaid_3, fd_Mo_isLaid_4, fd_Mo_isLaid_5, fd_Mo_isLaid_7, fd_Mo_isLaid_8, fd_Mo_isLaid_10, fd_Mo_isLaid_13, fd_Mo_isLaid_14, fd_Mo_isLaid_15, fd_Mo_isLaid_16, fd_Mo_isLaid_17, e1, e120, e5]
  generalize hA : 128 * pg + 4 = A at *
  refine am_go [] 11 ?_
  simp only [am_wp, am_stp, am_en, am_as, am_pad, am_nth, am_set, am_st1, am_st2, am_kl, am_kill, am_mem, am_fv, am_tk, am_wt, am_bk, Option.toList, List.cons_append, List.nil_append, Nat.reduceAdd, Nat.reduceEqDiff, Nat.reduceLeDiff, reduceIte, Nat.reduceLT, or_self, true_or, or_true, if_true, if_false, and_self, and_true, true_and, not_false_eq_true, not_true_eq_false, fd_Mo_isLaid_19, fd_Mo_isLaid_20, fd_Mo_isLaid_23, fd_Mo_isLaid_26, fd_Mo_isLaid_27, fd_Mo_isLaid_28, fd_Mo_isLaid_29, fd_Mo_isLaid_30, fd_Mo_isLaid_31, fd_Mo_isLaid_34, fd_Mo_isLaid_35, hS.all, e1, e4, i4, q4, en]
  refine am_go [43] 4 ?_
  simp only [am_wp, am_stp, am_en, am_as, am_pad, am_nth, am_set, am_st1, am_st2, am_kl, am_kill, am_mem, am_fv, am_tk, am_wt, am_bk, Option.toList, List.cons_append, List.nil_append, Nat.reduceAdd, Nat.reduceEqDiff, Nat.reduceLeDiff, reduceIte, Nat.reduceLT, or_self, true_or, or_true, if_true, if_false, and_self, and_true, true_and, not_false_eq_true, not_true_eq_false, fd_Mo_isLaid_37, fd_Mo_isLaid_38, fd_Mo_isLaid_40, fd_Mo_isLaid_41]
  refine am_Ex_mono (fun o h' z => ?_) (rx_il_loop (d := d) hS (by omega) hB hn n [] 5 bf _ _ _ _ h (by simp) ⟨am_fi.refl, rfl, by omega, trivial, by simp, fun q => absurd rfl q, fun _ => rfl, by simp⟩)
  obtain ⟨z1, z2⟩ := z
  refine ⟨z1, ?_⟩
  rcases z2 with z2 | ⟨z2, L, u, c1, c2, c3, c4, c5, c6, c7⟩
  · exact Or.inl z2
  · refine Or.inr ⟨z2, L, ⟨hp2, hp, c2, ?_, c6, ?_, hR, u, c4, ?_⟩, c5, c7⟩
    · have := el_le c3
      omega
    · rw [show pg * 128 + 4 = A by omega, en, c1]
    · have : (fun j => am_I h 73 (pg * 128 + j)) = Bf h pg := by
        funext j
        unfold Bf
        rw [Nat.mul_comm]
      rw [this]
      exact c3
theorem so_gt2 : ∀ (L : List ent) (i j : Nat) (x y : ent), so L → i < j → L[i]? = some x → L[j]? = some y → x.1 < y.1
  | [], i, j, x, y, _, _, hx, _ => by simp at hx
  | a :: L, 0, j, x, y, h, hij, hx, hy => by
    have e : a = x := by simpa using hx
    subst e
    obtain ⟨j', rfl⟩ : ∃ k, j = k + 1 := ⟨j - 1, by omega⟩
    exact h.1 y (List.mem_of_getElem? (by simpa using hy))
  | a :: L, i + 1, j, x, y, h, hij, hx, hy => by
    obtain ⟨j', rfl⟩ : ∃ k, j = k + 1 := ⟨j - 1, by omega⟩
    exact so_gt2 L i j' x y h.2 (by omega) (by simpa using hx) (by simpa using hy)
theorem so_top {L : List ent} {e : ent} (h : so L) (he : L[L.length - 1]? = some e) : ∀ x ∈ L, ¬ e.1 < x.1 := fun x hx q => by
  obtain ⟨i, hi, ei⟩ := List.mem_iff_getElem.mp hx
  have hx' : L[i]? = some x := by rw [List.getElem?_eq_getElem hi, ei]
  by_cases e1 : i = L.length - 1
  · rw [e1, he] at hx'
    cases hx'
    rw [Int64.lt_iff_toInt_lt] at q
    omega
  · have := so_gt2 L i (L.length - 1) x e h (by omega) hx' he
    rw [Int64.lt_iff_toInt_lt] at q this
    omega
/-- the seen keys go into filter and lastKey -/
theorem rx_op_seen {d k : Nat} {a1 a2 a3 a4 a5 a6 a9 a10 : Int32} {L : List ent} {h : am_H} {Q : am_O → am_H → Prop} (hS : mo_Sk h) (hk : k < 9) (h35 : am_I h 72 35 = nI L.length) (hL : L.length < 60) (T : tr_S h 95 96 97 L)
    (hx : ∀ g x11, am_fi [84, 85] h g → (∀ t, t ≠ k → am_L g 84 t = am_L h 84 t) → (∀ e, L[L.length - 1]? = some e → am_L g 84 k = e.1) → am_Ex nm_pr (d + 2) mt_Mo_open (363, [.ref 72, .int a1, .int a2, .int a3, .int a4, .int a5, .int a6, .int (nI k), .int (nI k), .int a9, .int a10, .int x11], [], g) Q) : ∀ (m i : Nat) (g : am_H), m + i = L.length → am_fi [84, 85] h g → (∀ t, t ≠ k → am_L g 84 t = am_L h 84 t) → (∀ e, 0 < i → L[i - 1]? = some e → am_L g 84 k = e.1) →
    am_Ex nm_pr (d + 2) mt_Mo_open (321, [.ref 72, .int a1, .int a2, .int a3, .int a4, .int a5, .int a6, .int (nI k), .int (nI k), .int a9, .int a10, .int (nI i)], [], g) Q
  | 0, i, g, hm, F, v1, v2 => by
    have S := hS.fi F
    have e : i = L.length := by omega
    subst e
    have g35 : am_I g 72 35 = nI L.length := by rw [F.2.2.2.2.2.2.1 72 (by decide)]; exact h35
    have l1 : ¬ nI L.length < nI L.length := nI_nlt (Nat.le_refl _) (by omega)
    refine am_go [330, 363] 4 ?_
    simp only [am_wp, am_stp, am_en, am_as, am_pad, am_nth, am_set, am_st1, am_st2, am_kl, am_kill, am_mem, am_fv, am_tk, am_wt, am_bk, Option.toList, List.cons_append, List.nil_append, Nat.reduceAdd, Nat.reduceEqDiff, Nat.reduceLeDiff, reduceIte, Nat.reduceLT, or_self, true_or, or_true, if_true, if_false, and_self, and_true, true_and, not_false_eq_true, not_true_eq_false, fd_Mo_open_321, fd_Mo_open_323, fd_Mo_open_324, fd_Mo_open_327, S.all, g35, l1]
    refine hx g _ F v1 (fun e he => ?_)
    have := (List.getElem?_eq_some_iff.mp he).1
    exact v2 e (by omega) he
  | m + 1, i, g, hm, F, v1, v2 => by
    have S := hS.fi F
    have g35 : am_I g 72 35 = nI L.length := by rw [F.2.2.2.2.2.2.1 72 (by decide)]; exact h35
    have l1 : nI i < nI L.length := nI_lt (by omega) (by omega)
    have i1 := am_inb (c := i) (N := 60) (by omega) (by omega)
    have q1 : (nI i).toNatClampNeg = i := nI_clamp (by omega)
    have i2 := am_inb (c := k) (N := 100) (by omega) (by omega)
    have q2 : (nI k).toNatClampNeg = k := nI_clamp (by omega)
    obtain ⟨e, he⟩ : ∃ e, L[i]? = some e := ⟨L[i]'(by omega), List.getElem?_eq_getElem (by omega)⟩
    have t1 := (T i e he).1
    refine am_go [330, 363] 4 ?_
    simp only [am_wp, am_stp, am_en, am_as, am_pad, am_nth, am_set, am_st1, am_st2, am_kl, am_kill, am_mem, am_fv, am_tk, am_wt, am_bk, Option.toList, List.cons_append, List.nil_append, Nat.reduceAdd, Nat.reduceEqDiff, Nat.reduceLeDiff, reduceIte, Nat.reduceLT, or_self, true_or, or_true, if_true, if_false, and_self, and_true, true_and, not_false_eq_true, not_true_eq_false, fd_Mo_open_321, fd_Mo_open_323, fd_Mo_open_324, fd_Mo_open_327, S.all, g35, l1]
    refine am_go [] 7 ?_
    simp only [am_wp, am_stp, am_en, am_as, am_pad, am_nth, am_set, am_st1, am_st2, am_kl, am_kill, am_mem, am_fv, am_tk, am_wt, am_bk, Option.toList, List.cons_append, List.nil_append, Nat.reduceAdd, Nat.reduceEqDiff, Nat.reduceLeDiff, reduceIte, Nat.reduceLT, or_self, true_or, or_true, if_true, if_false, and_self, and_true, true_and, not_false_eq_true, not_true_eq_false, fd_Mo_open_330, fd_Mo_open_331, fd_Mo_open_333, fd_Mo_open_334, fd_Mo_open_337, fd_Mo_open_339, fd_Mo_open_340, S.all, i1, q1]
    refine am_call (l2_mark3 (d := d) S (show k < 100 by omega)) (fun o g1 w => ?_)
    obtain ⟨rfl, F1⟩ := w
    have F01 : am_fi [84, 85] h g1 := F.trans (F1.sub (by decide))
    have S1 := hS.fi F01
    have L95 : am_L g1 95 i = e.1 := by rw [F01.2.2.2.2.2.2.2 95 (by decide)]; exact t1
    simp only [am_wp, am_stp, am_en, am_as, am_pad, am_nth, am_set, am_st1, am_st2, am_kl, am_kill, am_mem, am_fv, am_tk, am_wt, am_bk, Option.toList, List.cons_append, List.nil_append, Nat.reduceAdd, Nat.reduceEqDiff, Nat.reduceLeDiff, reduceIte, Nat.reduceLT, or_self, true_or, or_true, if_true, if_false, and_self, and_true, true_and, not_false_eq_true, not_true_eq_false]
    refine am_go [357] 8 ?_
    simp only [am_wp, am_stp, am_en, am_as, am_pad, am_nth, am_set, am_st1, am_st2, am_kl, am_kill, am_mem, am_fv, am_tk, am_wt, am_bk, Option.toList, List.cons_append, List.nil_append, Nat.reduceAdd, Nat.reduceEqDiff, Nat.reduceLeDiff, reduceIte, Nat.reduceLT, or_self, true_or, or_true, if_true, if_false, and_self, and_true, true_and, not_false_eq_true, not_true_eq_false, fd_Mo_open_343, fd_Mo_open_344, fd_Mo_open_347, fd_Mo_open_349, fd_Mo_open_350, fd_Mo_open_353, fd_Mo_open_355, fd_Mo_open_356, S1.all, i1, q1, i2, q2, L95]
    refine am_go [321] 2 ?_
    simp only [am_wp, am_stp, am_en, am_as, am_pad, am_nth, am_set, am_st1, am_st2, am_kl, am_kill, am_mem, am_fv, am_tk, am_wt, am_bk, Option.toList, List.cons_append, List.nil_append, Nat.reduceAdd, Nat.reduceEqDiff, Nat.reduceLeDiff, reduceIte, Nat.reduceLT, or_self, true_or, or_true, if_true, if_false, and_self, and_true, true_and, not_false_eq_true, not_true_eq_false, fd_Mo_open_357, fd_Mo_open_360, nI_1]
    refine rx_op_seen hS hk h35 hL T hx m (i + 1) _ (by omega) (F01.sL (by decide)) (fun t ht => ?_) (fun e' _ he' => ?_)
    · rw [hx_L_sL, if_pos rfl, if_neg ht, F1.2.2.2.2.2.2.2 84 (by decide)]
      exact v1 t ht
    · rw [hx_L_sL, if_pos rfl, if_pos rfl]
      rw [Nat.add_sub_cancel, he] at he'
      cases he'
      rfl
def oS : List Nat := [72, 78, 79, 80, 81, 82, 83, 84, 85, 95, 96, 97, 106, 107]
/-- what open may have moved before its end -/
def oF (h g : am_H) : Prop := am_fi oS h g ∧ ∀ j, j ≠ 0 → j ≠ 6 → j ≠ 35 → am_I g 72 j = am_I h 72 j
theorem oF.C {P : Nat} {h g : am_H} (F : oF h g) (C : rC P h) : rC P g :=
  C.v F.1 (by decide) (F.2 1 (by decide) (by decide) (by decide)) (F.2 9 (by decide) (by decide) (by decide)) (F.2 11 (by decide) (by decide) (by decide)) (F.2 45 (by decide) (by decide) (by decide)) (by rw [F.2 8 (by decide) (by decide) (by decide)]; exact C.a8) (C.b.eq (F.1.2.2.2.2.2.2.1 73 (by decide)))
theorem oF.fi {S : List Nat} {h g g' : am_H} (F : oF h g) (f : am_fi S g g') (hS : ∀ q ∈ S, q ∈ oS) (h72 : ∀ j, j ≠ 0 → j ≠ 6 → j ≠ 35 → am_I g' 72 j = am_I g 72 j) : oF h g' := ⟨F.1.trans (f.sub hS), fun j a b c => (h72 j a b c).trans (F.2 j a b c)⟩
def oP (P : Nat) (E : Nat → List ent) (h g0 g : am_H) (k : Nat) (pl : List Nat) : Prop := oF h g ∧ (∀ i q, pl[i]? = some q → am_I g 82 (1024 * k + i) = nI q) ∧ (∀ q ∈ pl, pgw P h E q) ∧ so (ch_E (pe E pl)) ∧ (∀ x ∈ ch_E (pe E pl), ¬ am_L g 84 k < x.1) ∧ am_I g 78 = am_I g0 78 ∧ am_I g 79 = am_I g0 79 ∧ am_I g 80 = am_I g0 80 ∧ ∀ j, ¬ (1024 * k ≤ j ∧ j < 1024 * k + 1024) → am_I g 82 j = am_I g0 82 j
theorem ch_pe_snoc (E : Nat → List ent) : ∀ (pl : List Nat) (q : Nat), ch_E (pe E (pl ++ [q])) = ch_E (pe E pl) ++ E q
  | [], q => by
    show E q ++ [] = [] ++ E q
    rw [List.append_nil, List.nil_append]
  | a :: pl, q => by
    show E a ++ ch_E (pe E (pl ++ [q])) = (E a ++ ch_E (pe E pl)) ++ E q
    rw [ch_pe_snoc E pl q, List.append_assoc]
theorem rx_op_pages {d P k pc : Nat} {a1 a2 a3 a4 a5 a6 : Int32} {E : Nat → List ent} {h g0 : am_H} {Q : am_O → am_H → Prop} (C : rC P h) (hk : k < 9) (hE : ∀ q L, pg_M P h q L → so L → E q = L) (c80 : am_I g0 80 k = nI pc) (hpc : pc < 65536) (hb : ∀ g x, oF h g → Q (.inl (some (.int x))) g)
    (hx : ∀ g pl a9 w11, oP P E h g0 g k pl → pl.length = pc → am_Ex nm_pr (d + 3) mt_Mo_open (397, [.ref 72, .int a1, .int a2, .int a3, .int a4, .int a5, .int a6, .int (nI k), .int (nI k), .int a9, .int (nI pc), w11], [], g) Q) : ∀ (m : Nat) (pl : List Nat) (page : Nat) (w11 : Value) (g : am_H), m + pl.length = pc → page < 65536 → oP P E h g0 g k pl →
    am_Ex nm_pr (d + 3) mt_Mo_open (178, [.ref 72, .int a1, .int a2, .int a3, .int a4, .int a5, .int a6, .int (nI k), .int (nI k), .int (nI page), .int (nI pl.length), w11], [], g) Q
  | 0, pl, page, w11, g, hm, hpg, I => by
    have Cg := I.1.C C
    have S := Cg.1
    have e : pl.length = pc := by omega
    have i2 := am_inb (c := k) (N := 100) (by omega) (by omega)
    have q2 : (nI k).toNatClampNeg = k := nI_clamp (by omega)
    have g80 : am_I g 80 k = nI pc := by rw [I.2.2.2.2.2.2.2.1]; exact c80
    have l1 : ¬ nI pl.length < nI pc := nI_nlt (by omega) (by omega)
    refine am_go [190, 397] 6 ?_
    simp only [am_wp, am_stp, am_en, am_as, am_pad, am_nth, am_set, am_st1, am_st2, am_kl, am_kill, am_mem, am_fv, am_tk, am_wt, am_bk, Option.toList, List.cons_append, List.nil_append, Nat.reduceAdd, Nat.reduceEqDiff, Nat.reduceLeDiff, reduceIte, Nat.reduceLT, or_self, true_or, or_true, if_true, if_false, and_self, and_true, true_and, not_false_eq_true, not_true_eq_false, fd_Mo_open_178, fd_Mo_open_180, fd_Mo_open_181, fd_Mo_open_184, fd_Mo_open_186, fd_Mo_open_187, S.all, i2, q2, g80, l1]
    rw [e]
    exact hx g pl _ _ I e
  | m + 1, pl, page, w11, g, hm, hpg, I => by
    obtain ⟨F, v82, vpl, vso, vla, v78, v79, v80, vb⟩ := id I
    have Cg := F.C C
    have S := Cg.1
    have P1024 := C.2.2.1
    have e73 : am_I g 73 = am_I h 73 := F.1.2.2.2.2.2.2.1 73 (by decide)
    have hl := (pw_len vpl vso).2
    have i2 := am_inb (c := k) (N := 100) (by omega) (by omega)
    have q2 : (nI k).toNatClampNeg = k := nI_clamp (by omega)
    have g80 : am_I g 80 k = nI pc := by rw [v80]; exact c80
    have l1 : nI pl.length < nI pc := nI_lt (by omega) (by omega)
    have one0 : ¬ (1 : Int32) = 0 := by decide
    refine am_go [190, 397] 6 ?_
    simp only [am_wp, am_stp, am_en, am_as, am_pad, am_nth, am_set, am_st1, am_st2, am_kl, am_kill, am_mem, am_fv, am_tk, am_wt, am_bk, Option.toList, List.cons_append, List.nil_append, Nat.reduceAdd, Nat.reduceEqDiff, Nat.reduceLeDiff, reduceIte, Nat.reduceLT, or_self, true_or, or_true, if_true, if_false, and_self, and_true, true_and, not_false_eq_true, not_true_eq_false, fd_Mo_open_178, fd_Mo_open_180, fd_Mo_open_181, fd_Mo_open_184, fd_Mo_open_186, fd_Mo_open_187, S.all, i2, q2, g80, l1]
    refine am_go [200] 6 ?_
    simp only [am_wp, am_stp, am_en, am_as, am_pad, am_nth, am_set, am_st1, am_st2, am_kl, am_kill, am_mem, am_fv, am_tk, am_wt, am_bk, Option.toList, List.cons_append, List.nil_append, Nat.reduceAdd, Nat.reduceEqDiff, Nat.reduceLeDiff, reduceIte, Nat.reduceLT, or_self, true_or, or_true, if_true, if_false, and_self, and_true, true_and, not_false_eq_true, not_true_eq_false, fd_Mo_open_190, fd_Mo_open_191, fd_Mo_open_192, fd_Mo_open_195, fd_Mo_open_196, fd_Mo_open_197, S.all]
    have F1 : oF h (am_sI g 72 6 (am_I g 72 6 + 1)) := F.fi (S := [72]) (am_fi.refl.sI (by simp)) (by decide) (fun j _ h6 _ => by rw [hx_I_sI, if_pos rfl, if_neg h6])
    have f1 : am_fi [72] g (am_sI g 72 6 (am_I g 72 6 + 1)) := am_fi.refl.sI (by simp)
    generalize am_sI g 72 6 (am_I g 72 6 + 1) = g1 at *
    have C1 := F1.C C
    have S1 := C1.1
    have w1 := f1.2.2.2.2.2.2.1
    have no : ∀ g', oF h g' → am_Ex nm_pr (d + 3) mt_Mo_open (270, [.ref 72, .int a1, .int a2, .int a3, .int a4, .int a5, .int a6, .int (nI k), .int (nI k), .int (nI page), .int (nI pl.length), w11], [], g') Q := fun g' F' => by
      have S' := (F'.C C).1
      refine am_go [] 4 ?_
      simp only [am_wp, am_stp, am_en, am_as, am_pad, am_nth, am_set, am_st1, am_st2, am_kl, am_kill, am_mem, am_fv, am_tk, am_wt, am_bk, Option.toList, List.cons_append, List.nil_append, Nat.reduceAdd, Nat.reduceEqDiff, Nat.reduceLeDiff, reduceIte, Nat.reduceLT, or_self, true_or, or_true, if_true, if_false, and_self, and_true, true_and, not_false_eq_true, not_true_eq_false, fd_Mo_open_270, fd_Mo_open_272, fd_Mo_open_274, fd_Mo_open_275, S'.all]
      exact hb g' _ F'
    by_cases p2 : page < 2
    · have l2 : nI page < 2 := nI_lt (b := 2) p2 (by decide)
      refine am_go [206, 270] 3 ?_
      simp only [am_wp, am_stp, am_en, am_as, am_pad, am_nth, am_set, am_st1, am_st2, am_kl, am_kill, am_mem, am_fv, am_tk, am_wt, am_bk, Option.toList, List.cons_append, List.nil_append, Nat.reduceAdd, Nat.reduceEqDiff, Nat.reduceLeDiff, reduceIte, Nat.reduceLT, or_self, true_or, or_true, if_true, if_false, and_self, and_true, true_and, not_false_eq_true, not_true_eq_false, fd_Mo_open_200, fd_Mo_open_202, fd_Mo_open_203, S1.all, l2]
      exact no _ F1
    have l2 : ¬ nI page < 2 := nI_nlt (b := 2) (by omega) (by omega)
    refine am_go [206, 270] 3 ?_
    simp only [am_wp, am_stp, am_en, am_as, am_pad, am_nth, am_set, am_st1, am_st2, am_kl, am_kill, am_mem, am_fv, am_tk, am_wt, am_bk, Option.toList, List.cons_append, List.nil_append, Nat.reduceAdd, Nat.reduceEqDiff, Nat.reduceLeDiff, reduceIte, Nat.reduceLT, or_self, true_or, or_true, if_true, if_false, and_self, and_true, true_and, not_false_eq_true, not_true_eq_false, fd_Mo_open_200, fd_Mo_open_202, fd_Mo_open_203, S1.all, l2]
    by_cases pP : page < P
    · have l3 : nI page < nI P := nI_lt pP (by omega)
      refine am_go [215, 270] 4 ?_
      simp only [am_wp, am_stp, am_en, am_as, am_pad, am_nth, am_set, am_st1, am_st2, am_kl, am_kill, am_mem, am_fv, am_tk, am_wt, am_bk, Option.toList, List.cons_append, List.nil_append, Nat.reduceAdd, Nat.reduceEqDiff, Nat.reduceLeDiff, reduceIte, Nat.reduceLT, or_self, true_or, or_true, if_true, if_false, and_self, and_true, true_and, not_false_eq_true, not_true_eq_false, fd_Mo_open_206, fd_Mo_open_208, fd_Mo_open_209, fd_Mo_open_212, S1.all, C1.2.2.2.1, l3]
      refine am_go [] 3 ?_
      simp only [am_wp, am_stp, am_en, am_as, am_pad, am_nth, am_set, am_st1, am_st2, am_kl, am_kill, am_mem, am_fv, am_tk, am_wt, am_bk, Option.toList, List.cons_append, List.nil_append, Nat.reduceAdd, Nat.reduceEqDiff, Nat.reduceLeDiff, reduceIte, Nat.reduceLT, or_self, true_or, or_true, if_true, if_false, and_self, and_true, true_and, not_false_eq_true, not_true_eq_false, fd_Mo_open_215, fd_Mo_open_216, fd_Mo_open_218, S1.all]
      refine am_call (l2_Mo_isRight (d := d + 1) S1.Pg (show page < 1024 by omega)) (fun o g2 w => ?_)
      obtain ⟨rfl, w⟩ := w
      rcases w with ⟨rfl, hR⟩ | ⟨rfl, -⟩
      · simp only [am_wp, am_stp, am_en, am_as, am_pad, am_nth, am_set, am_st1, am_st2, am_kl, am_kill, am_mem, am_fv, am_tk, am_wt, am_bk, Option.toList, List.cons_append, List.nil_append, Nat.reduceAdd, Nat.reduceEqDiff, Nat.reduceLeDiff, reduceIte, Nat.reduceLT, or_self, true_or, or_true, if_true, if_false, and_self, and_true, true_and, not_false_eq_true, not_true_eq_false]
        have e128 : 128 * nI page = nI (128 * page) := (Int32.ofNat_mul 128 page).symm
        refine am_go [224, 270] 1 ?_
        simp only [am_wp, am_stp, am_en, am_as, am_pad, am_nth, am_set, am_st1, am_st2, am_kl, am_kill, am_mem, am_fv, am_tk, am_wt, am_bk, Option.toList, List.cons_append, List.nil_append, Nat.reduceAdd, Nat.reduceEqDiff, Nat.reduceLeDiff, reduceIte, Nat.reduceLT, or_self, true_or, or_true, if_true, if_false, and_self, and_true, true_and, not_false_eq_true, not_true_eq_false, fd_Mo_open_221, S1.all, one0]
        refine am_go [] 5 ?_
        simp only [am_wp, am_stp, am_en, am_as, am_pad, am_nth, am_set, am_st1, am_st2, am_kl, am_kill, am_mem, am_fv, am_tk, am_wt, am_bk, Option.toList, List.cons_append, List.nil_append, Nat.reduceAdd, Nat.reduceEqDiff, Nat.reduceLeDiff, reduceIte, Nat.reduceLT, or_self, true_or, or_true, if_true, if_false, and_self, and_true, true_and, not_false_eq_true, not_true_eq_false, fd_Mo_open_224, fd_Mo_open_225, fd_Mo_open_228, fd_Mo_open_230, fd_Mo_open_231, S1.all, e128]
        refine am_call (rx_two (d := d + 2) S1 (by omega)) (fun o g3 w => ?_)
        obtain ⟨rfl, rfl⟩ := w
        simp only [am_wp, am_stp, am_en, am_as, am_pad, am_nth, am_set, am_st1, am_st2, am_kl, am_kill, am_mem, am_fv, am_tk, am_wt, am_bk, Option.toList, List.cons_append, List.nil_append, Nat.reduceAdd, Nat.reduceEqDiff, Nat.reduceLeDiff, reduceIte, Nat.reduceLT, or_self, true_or, or_true, if_true, if_false, and_self, and_true, true_and, not_false_eq_true, not_true_eq_false]
        refine am_go [244, 270] 5 ?_
        simp only [am_wp, am_stp, am_en, am_as, am_pad, am_nth, am_set, am_st1, am_st2, am_kl, am_kill, am_mem, am_fv, am_tk, am_wt, am_bk, Option.toList, List.cons_append, List.nil_append, Nat.reduceAdd, Nat.reduceEqDiff, Nat.reduceLeDiff, reduceIte, Nat.reduceLT, or_self, true_or, or_true, if_true, if_false, and_self, and_true, true_and, not_false_eq_true, not_true_eq_false, fd_Mo_open_234, fd_Mo_open_235, fd_Mo_open_238, fd_Mo_open_240, fd_Mo_open_241, S1.all, i2, q2]
        refine wif ?_ (no _ F1)
        -- is it laid?
        have laid : ∀ bh : Int32, (bh ≠ 0 ∨ pl = []) → am_Ex nm_pr (d + 3) mt_Mo_open (257, [.ref 72, .int a1, .int a2, .int a3, .int a4, .int a5, .int a6, .int (nI k), .int (nI k), .int (nI page), .int (nI pl.length), w11], [.int bh, .int (nI page), .ref 72], g3) Q := fun bh hbh => by
          refine am_go [] 5 ?_
          simp only [am_wp, am_stp, am_en, am_as, am_pad, am_nth, am_set, am_st1, am_st2, am_kl, am_kill, am_mem, am_fv, am_tk, am_wt, am_bk, Option.toList, List.cons_append, List.nil_append, Nat.reduceAdd, Nat.reduceEqDiff, Nat.reduceLeDiff, reduceIte, Nat.reduceLT, or_self, true_or, or_true, if_true, if_false, and_self, and_true, true_and, not_false_eq_true, not_true_eq_false, fd_Mo_open_257, fd_Mo_open_258, fd_Mo_open_261, fd_Mo_open_263, fd_Mo_open_264, S1.all, i2, q2]
          refine am_call (rx_isLaid (d := d + 1) C1 (by omega) pP hR) (fun o g4 w => ?_)
          obtain ⟨F4, w⟩ := w
          have w4 := F4.2.2.2.2.2.2.1
          have F04 : oF h g4 := F1.fi F4 (by decide) (fun j _ _ _ => by rw [w4 72 (by decide)])
          have C4 := F04.C C
          have S4 := C4.1
          rcases w with rfl | ⟨rfl, L, M, sL, bL⟩
          · simp only [am_wp, am_stp, am_en, am_as, am_pad, am_nth, am_set, am_st1, am_st2, am_kl, am_kill, am_mem, am_fv, am_tk, am_wt, am_bk, Option.toList, List.cons_append, List.nil_append, Nat.reduceAdd, Nat.reduceEqDiff, Nat.reduceLeDiff, reduceIte, Nat.reduceLT, or_self, true_or, or_true, if_true, if_false, and_self, and_true, true_and, not_false_eq_true, not_true_eq_false]
            refine am_go [270, 276] 1 ?_
            simp only [am_wp, am_stp, am_en, am_as, am_pad, am_nth, am_set, am_st1, am_st2, am_kl, am_kill, am_mem, am_fv, am_tk, am_wt, am_bk, Option.toList, List.cons_append, List.nil_append, Nat.reduceAdd, Nat.reduceEqDiff, Nat.reduceLeDiff, reduceIte, Nat.reduceLT, or_self, true_or, or_true, if_true, if_false, and_self, and_true, true_and, not_false_eq_true, not_true_eq_false, fd_Mo_open_267, S4.all]
            exact no _ F04
          · simp only [am_wp, am_stp, am_en, am_as, am_pad, am_nth, am_set, am_st1, am_st2, am_kl, am_kill, am_mem, am_fv, am_tk, am_wt, am_bk, Option.toList, List.cons_append, List.nil_append, Nat.reduceAdd, Nat.reduceEqDiff, Nat.reduceLeDiff, reduceIte, Nat.reduceLT, or_self, true_or, or_true, if_true, if_false, and_self, and_true, true_and, not_false_eq_true, not_true_eq_false]
            refine am_go [270, 276] 1 ?_
            simp only [am_wp, am_stp, am_en, am_as, am_pad, am_nth, am_set, am_st1, am_st2, am_kl, am_kill, am_mem, am_fv, am_tk, am_wt, am_bk, Option.toList, List.cons_append, List.nil_append, Nat.reduceAdd, Nat.reduceEqDiff, Nat.reduceLeDiff, reduceIte, Nat.reduceLT, or_self, true_or, or_true, if_true, if_false, and_self, and_true, true_and, not_false_eq_true, not_true_eq_false, fd_Mo_open_267, S4.all, one0]
            have x73 : am_I g3 73 = am_I h 73 := F1.1.2.2.2.2.2.2.1 73 (by decide)
            have Mh : pg_M P h page L := M.mono (fun j _ => by rw [x73])
            have eE := hE page L Mh sL
            have M4 : pg_M P g4 page L := M.mono (fun j _ => by rw [w4 73 (by decide)])
            have L60 := M.2.2.2.1
            have e4 : 1024 * nI k = nI (1024 * k) := (Int32.ofNat_mul 1024 k).symm
            have i5 := am_inb (c := 1024 * k + pl.length) (N := 102400) (by omega) (by omega)
            have q5 : (nI (1024 * k + pl.length)).toNatClampNeg = 1024 * k + pl.length := nI_clamp (by omega)
            refine am_go [292] 9 ?_
            simp only [am_wp, am_stp, am_en, am_as, am_pad, am_nth, am_set, am_st1, am_st2, am_kl, am_kill, am_mem, am_fv, am_tk, am_wt, am_bk, Option.toList, List.cons_append, List.nil_append, Nat.reduceAdd, Nat.reduceEqDiff, Nat.reduceLeDiff, reduceIte, Nat.reduceLT, or_self, true_or, or_true, if_true, if_false, and_self, and_true, true_and, not_false_eq_true, not_true_eq_false, fd_Mo_open_276, fd_Mo_open_277, fd_Mo_open_280, fd_Mo_open_283, fd_Mo_open_285, fd_Mo_open_286, fd_Mo_open_288, fd_Mo_open_289, fd_Mo_open_291, S4.all, e4, nI_add, i5, q5]
            have F5 : oF h (am_sI g4 82 (1024 * k + pl.length) (nI page)) := F04.fi (S := [82]) (am_fi.refl.sI (by simp)) (by decide) (fun j _ _ _ => by rw [hx_I_sI, if_neg (by decide)])
            have f5 : am_fi [82] g4 (am_sI g4 82 (1024 * k + pl.length) (nI page)) := am_fi.refl.sI (by simp)
            have u82 : ∀ j, am_I (am_sI g4 82 (1024 * k + pl.length) (nI page)) 82 j = if j = 1024 * k + pl.length then nI page else am_I g4 82 j := fun j => by rw [hx_I_sI, if_pos rfl]
            generalize am_sI g4 82 (1024 * k + pl.length) (nI page) = g5 at *
            have w5 := f5.2.2.2.2.2.2.1
            have S5 := (F5.C C).1
            have M5 : pg_M P g5 page L := M4.mono (fun j _ => by rw [w5 73 (by decide)])
            refine am_go [] 3 ?_
            simp only [am_wp, am_stp, am_en, am_as, am_pad, am_nth, am_set, am_st1, am_st2, am_kl, am_kill, am_mem, am_fv, am_tk, am_wt, am_bk, Option.toList, List.cons_append, List.nil_append, Nat.reduceAdd, Nat.reduceEqDiff, Nat.reduceLeDiff, reduceIte, Nat.reduceLT, or_self, true_or, or_true, if_true, if_false, and_self, and_true, true_and, not_false_eq_true, not_true_eq_false, fd_Mo_open_292, fd_Mo_open_293, fd_Mo_open_295, S5.all]
            refine am_call (l2_see (d := d + 2) S5 P1024 M5) (fun o g6 w => ?_)
            obtain ⟨rfl, F6, b1, b2, b3⟩ := w
            have w6 := F6.2.2.2.2.2.2.1
            have F06 : oF h g6 := F5.fi F6 (by decide) (fun j _ _ h35 => b1 j h35)
            have S6 := (F06.C C).1
            have i0 : ((0 : Int32) < 0 ∨ 60 ≤ (0 : Int32).toNatClampNeg) = False := by decide
            simp only [am_wp, am_stp, am_en, am_as, am_pad, am_nth, am_set, am_st1, am_st2, am_kl, am_kill, am_mem, am_fv, am_tk, am_wt, am_bk, Option.toList, List.cons_append, List.nil_append, Nat.reduceAdd, Nat.reduceEqDiff, Nat.reduceLeDiff, reduceIte, Nat.reduceLT, or_self, true_or, or_true, if_true, if_false, and_self, and_true, true_and, not_false_eq_true, not_true_eq_false]
            refine am_go [] 12 ?_
            simp only [am_wp, am_stp, am_en, am_as, am_pad, am_nth, am_set, am_st1, am_st2, am_kl, am_kill, am_mem, am_fv, am_tk, am_wt, am_bk, Option.toList, List.cons_append, List.nil_append, Nat.reduceAdd, Nat.reduceEqDiff, Nat.reduceLeDiff, reduceIte, Nat.reduceLT, or_self, true_or, or_true, if_true, if_false, and_self, and_true, true_and, not_false_eq_true, not_true_eq_false, fd_Mo_open_298, fd_Mo_open_299, fd_Mo_open_302, fd_Mo_open_305, fd_Mo_open_307, fd_Mo_open_308, fd_Mo_open_310, fd_Mo_open_311, fd_Mo_open_312, fd_Mo_open_315, fd_Mo_open_316, fd_Mo_open_317, S6.all, e4, nI_add, i5, q5, i0]
            generalize hfk : am_L g6 95 (0 : Int32).toNatClampNeg = fk
            have f7 : am_fi [83] g6 (am_sL g6 83 (1024 * k + pl.length) fk) := am_fi.refl.sL (by simp)
            have F07 : oF h (am_sL g6 83 (1024 * k + pl.length) fk) := F06.fi f7 (by decide) (fun _ _ _ _ => rfl)
            generalize am_sL g6 83 (1024 * k + pl.length) fk = g7 at *
            have S7 := (F07.C C).1
            have w7 := f7.2.2.2.2.2.2.1
            have b27 : am_I g7 72 35 = nI L.length := by rw [w7 72 (by decide)]; exact b2
            have b37 : tr_S g7 95 96 97 L := b3.fi f7 (by decide)
            refine am_go [321] 2 ?_
            simp only [am_wp, am_stp, am_en, am_as, am_pad, am_nth, am_set, am_st1, am_st2, am_kl, am_kill, am_mem, am_fv, am_tk, am_wt, am_bk, Option.toList, List.cons_append, List.nil_append, Nat.reduceAdd, Nat.reduceEqDiff, Nat.reduceLeDiff, reduceIte, Nat.reduceLT, or_self, true_or, or_true, if_true, if_false, and_self, and_true, true_and, not_false_eq_true, not_true_eq_false, fd_Mo_open_318, fd_Mo_open_319]
            refine rx_op_seen (d := d + 1) S7 hk b27 L60 b37 (fun g8 x11 F8 y1 y2 => ?_) L.length 0 g7 (by omega) am_fi.refl (fun _ _ => rfl) (fun e h0 => by omega)
            have w8 := F8.2.2.2.2.2.2.1
            have F08 : oF h g8 := F07.fi F8 (by decide) (fun j _ _ _ => by rw [w8 72 (by decide)])
            have S8 := (F08.C C).1
            have b28 : am_I g8 72 35 = nI L.length := by rw [w8 72 (by decide)]; exact b27
            refine am_go [377] 9 ?_
            simp only [am_wp, am_stp, am_en, am_as, am_pad, am_nth, am_set, am_st1, am_st2, am_kl, am_kill, am_mem, am_fv, am_tk, am_wt, am_bk, Option.toList, List.cons_append, List.nil_append, Nat.reduceAdd, Nat.reduceEqDiff, Nat.reduceLeDiff, reduceIte, Nat.reduceLT, or_self, true_or, or_true, if_true, if_false, and_self, and_true, true_and, not_false_eq_true, not_true_eq_false, fd_Mo_open_363, fd_Mo_open_364, fd_Mo_open_367, fd_Mo_open_369, fd_Mo_open_370, fd_Mo_open_371, fd_Mo_open_372, fd_Mo_open_375, fd_Mo_open_376, S8.all, i2, q2, b28]
            generalize hec : am_I g8 81 k + nI L.length = ec
            have f9 : am_fi [81] g8 (am_sI g8 81 k ec) := am_fi.refl.sI (by simp)
            have F09 : oF h (am_sI g8 81 k ec) := F08.fi f9 (by decide) (fun j _ _ _ => by rw [hx_I_sI, if_neg (by decide)])
            generalize am_sI g8 81 k ec = g9 at *
            have S9 := (F09.C C).1
            have w9 := f9.2.2.2.2.2.2.1
            have e2' : nI (128 * page) + 2 = nI (128 * page + 2) := nI_add _ 2
            refine am_go [] 7 ?_
            simp only [am_wp, am_stp, am_en, am_as, am_pad, am_nth, am_set, am_st1, am_st2, am_kl, am_kill, am_mem, am_fv, am_tk, am_wt, am_bk, Option.toList, List.cons_append, List.nil_append, Nat.reduceAdd, Nat.reduceEqDiff, Nat.reduceLeDiff, reduceIte, Nat.reduceLT, or_self, true_or, or_true, if_true, if_false, and_self, and_true, true_and, not_false_eq_true, not_true_eq_false, fd_Mo_open_377, fd_Mo_open_378, fd_Mo_open_381, fd_Mo_open_383, fd_Mo_open_384, fd_Mo_open_385, fd_Mo_open_386, S9.all, e128, e2']
            refine am_call (rx_two (d := d + 2) S9 (by omega)) (fun o g10 w => ?_)
            obtain ⟨rfl, rfl⟩ := w
            obtain ⟨np, hnp, enp⟩ := tw_nat g10 (128 * page + 2)
            rw [enp]
            simp only [am_wp, am_stp, am_en, am_as, am_pad, am_nth, am_set, am_st1, am_st2, am_kl, am_kill, am_mem, am_fv, am_tk, am_wt, am_bk, Option.toList, List.cons_append, List.nil_append, Nat.reduceAdd, Nat.reduceEqDiff, Nat.reduceLeDiff, reduceIte, Nat.reduceLT, or_self, true_or, or_true, if_true, if_false, and_self, and_true, true_and, not_false_eq_true, not_true_eq_false]
            refine am_go [178] 3 ?_
            simp only [am_wp, am_stp, am_en, am_as, am_pad, am_nth, am_set, am_st1, am_st2, am_kl, am_kill, am_mem, am_fv, am_tk, am_wt, am_bk, Option.toList, List.cons_append, List.nil_append, Nat.reduceAdd, Nat.reduceEqDiff, Nat.reduceLeDiff, reduceIte, Nat.reduceLT, or_self, true_or, or_true, if_true, if_false, and_self, and_true, true_and, not_false_eq_true, not_true_eq_false, fd_Mo_open_389, fd_Mo_open_391, fd_Mo_open_394, nI_1]
            have el' : (pl ++ [page]).length = pl.length + 1 := by simp
            have pw : pgw P h E page := ⟨M.1, M.2.1, by rw [eE]; exact M.2.2.1, by rw [eE]; exact M.l36 sL, by rw [eE]; exact M.2.2.2.2.1, fun _ => by rw [eE]; exact Mh⟩
            have all : ∀ a, a ∉ [72, 81, 82, 83, 84, 85, 95, 96, 97, 106, 107] → am_I g10 a = am_I g a := fun a ha => by
              simp only [List.mem_cons, List.not_mem_nil, or_false, not_or] at ha
              rw [w9 a (by simp; omega), w8 a (by simp; omega), w7 a (by simp; omega), w6 a (by simp; omega), w5 a (by simp; omega), w4 a (by simp; omega), w1 a (by simp; omega)]
            have g82 : ∀ j, am_I g10 82 j = if j = 1024 * k + pl.length then nI page else am_I g 82 j := fun j => by
              rw [w9 82 (by decide), w8 82 (by decide), w7 82 (by decide), w6 82 (by decide), u82, w4 82 (by decide), w1 82 (by decide)]
            have la84 : am_L g3 84 k = am_L g 84 k := by rw [f1.2.2.2.2.2.2.2 84 (by decide)]
            have l84 : am_L g10 84 k = am_L g8 84 k := by rw [f9.2.2.2.2.2.2.2 84 (by decide)]
            have hpos := List.length_pos_iff.mpr M.2.2.1
            obtain ⟨te, hte⟩ : ∃ e, L[L.length - 1]? = some e := ⟨L[L.length - 1]'(by omega), List.getElem?_eq_getElem (by omega)⟩
            have ltop := y2 te hte
            have top := so_top sL hte
            have cross : ∀ x ∈ ch_E (pe E pl), ∀ y ∈ L, x.1 < y.1 := fun x hx y hy => by
              have hne : bh ≠ 0 := by
                rcases hbh with q | q
                · exact q
                · rw [q] at hx; simp [pe, ch_E] at hx
              exact lt_cut (vla x hx) (by rw [← la84]; exact bL hne y hy)
            have I' : oP P E h g0 g10 k (pl ++ [page]) := by
              refine ⟨F09, fun i q hi => ?_, fun q hq => ?_, ?_, ?_, ?_, ?_, ?_, fun j hj => ?_⟩
              · rw [g82]
                by_cases ei : i < pl.length
                · rw [List.getElem?_append_left ei] at hi
                  rw [if_neg (by omega)]
                  exact v82 i q hi
                · rw [List.getElem?_append_right (by omega)] at hi
                  have hi0 : i - pl.length = 0 := by
                    have := (List.getElem?_eq_some_iff.mp hi).1
                    simpa using this
                  rw [hi0] at hi
                  have : page = q := by simpa using hi
                  rw [if_pos (by omega), this]
              · rcases List.mem_append.mp hq with z | z
                · exact vpl q z
                · have : q = page := by simpa using z
                  rw [this]; exact pw
              · rw [ch_pe_snoc, eE, so_app3]
                exact ⟨vso, sL, cross⟩
              · rw [ch_pe_snoc, eE]
                intro x hx
                rw [l84, ltop]
                rcases List.mem_append.mp hx with z | z
                · intro q
                  have := cross x z te (List.mem_of_getElem? hte)
                  rw [Int64.lt_iff_toInt_lt] at q this
                  omega
                · exact top x z
              · rw [all 78 (by decide)]; exact v78
              · rw [all 79 (by decide)]; exact v79
              · rw [all 80 (by decide)]; exact v80
              · rw [g82, if_neg (by omega)]
                exact vb j hj
            have := rx_op_pages (d := d) (a1 := a1) (a2 := a2) (a3 := a3) (a4 := a4) (a5 := a5) (a6 := a6) C hk hE c80 hpc hb hx m (pl ++ [page]) np (.int x11) g10 (by rw [el']; omega) hnp I'
            rw [el'] at this
            exact this
        by_cases p0 : pl.length = 0
        · have z : ¬ 0 < nI pl.length := by rw [p0]; decide
          refine am_go [252, 256] 4 ?_
          simp only [am_wp, am_stp, am_en, am_as, am_pad, am_nth, am_set, am_st1, am_st2, am_kl, am_kill, am_mem, am_fv, am_tk, am_wt, am_bk, Option.toList, List.cons_append, List.nil_append, Nat.reduceAdd, Nat.reduceEqDiff, Nat.reduceLeDiff, reduceIte, Nat.reduceLT, or_self, true_or, or_true, if_true, if_false, and_self, and_true, true_and, not_false_eq_true, not_true_eq_false, fd_Mo_open_244, fd_Mo_open_245, fd_Mo_open_247, fd_Mo_open_249, S1.all, z]
          refine am_go [257] 1 ?_
          simp only [am_wp, am_stp, am_en, am_as, am_pad, am_nth, am_set, am_st1, am_st2, am_kl, am_kill, am_mem, am_fv, am_tk, am_wt, am_bk, Option.toList, List.cons_append, List.nil_append, Nat.reduceAdd, Nat.reduceEqDiff, Nat.reduceLeDiff, reduceIte, Nat.reduceLT, or_self, true_or, or_true, if_true, if_false, and_self, and_true, true_and, not_false_eq_true, not_true_eq_false, fd_Mo_open_256]
          exact laid 0 (Or.inr (List.length_eq_zero_iff.mp p0))
        · have z : 0 < nI pl.length := nI_gt0 (by omega) (by omega)
          refine am_go [252, 256] 4 ?_
          simp only [am_wp, am_stp, am_en, am_as, am_pad, am_nth, am_set, am_st1, am_st2, am_kl, am_kill, am_mem, am_fv, am_tk, am_wt, am_bk, Option.toList, List.cons_append, List.nil_append, Nat.reduceAdd, Nat.reduceEqDiff, Nat.reduceLeDiff, reduceIte, Nat.reduceLT, or_self, true_or, or_true, if_true, if_false, and_self, and_true, true_and, not_false_eq_true, not_true_eq_false, fd_Mo_open_244, fd_Mo_open_245, fd_Mo_open_247, fd_Mo_open_249, S1.all, z]
          refine am_go [257] 2 ?_
          simp only [am_wp, am_stp, am_en, am_as, am_pad, am_nth, am_set, am_st1, am_st2, am_kl, am_kill, am_mem, am_fv, am_tk, am_wt, am_bk, Option.toList, List.cons_append, List.nil_append, Nat.reduceAdd, Nat.reduceEqDiff, Nat.reduceLeDiff, reduceIte, Nat.reduceLT, or_self, true_or, or_true, if_true, if_false, and_self, and_true, true_and, not_false_eq_true, not_true_eq_false, fd_Mo_open_252, fd_Mo_open_253]
          exact laid 1 (Or.inl one0)
      · simp only [am_wp, am_stp, am_en, am_as, am_pad, am_nth, am_set, am_st1, am_st2, am_kl, am_kill, am_mem, am_fv, am_tk, am_wt, am_bk, Option.toList, List.cons_append, List.nil_append, Nat.reduceAdd, Nat.reduceEqDiff, Nat.reduceLeDiff, reduceIte, Nat.reduceLT, or_self, true_or, or_true, if_true, if_false, and_self, and_true, true_and, not_false_eq_true, not_true_eq_false]
        refine am_go [224, 270] 1 ?_
        simp only [am_wp, am_stp, am_en, am_as, am_pad, am_nth, am_set, am_st1, am_st2, am_kl, am_kill, am_mem, am_fv, am_tk, am_wt, am_bk, Option.toList, List.cons_append, List.nil_append, Nat.reduceAdd, Nat.reduceEqDiff, Nat.reduceLeDiff, reduceIte, Nat.reduceLT, or_self, true_or, or_true, if_true, if_false, and_self, and_true, true_and, not_false_eq_true, not_true_eq_false, fd_Mo_open_221, S1.all]
        exact no _ F1
    · have l3 : ¬ nI page < nI P := nI_nlt (by omega) (by omega)
      refine am_go [215, 270] 4 ?_
      simp only [am_wp, am_stp, am_en, am_as, am_pad, am_nth, am_set, am_st1, am_st2, am_kl, am_kill, am_mem, am_fv, am_tk, am_wt, am_bk, Option.toList, List.cons_append, List.nil_append, Nat.reduceAdd, Nat.reduceEqDiff, Nat.reduceLeDiff, reduceIte, Nat.reduceLT, or_self, true_or, or_true, if_true, if_false, and_self, and_true, true_and, not_false_eq_true, not_true_eq_false, fd_Mo_open_206, fd_Mo_open_208, fd_Mo_open_209, fd_Mo_open_212, S1.all, C1.2.2.2.1, l3]
      exact no _ F1
