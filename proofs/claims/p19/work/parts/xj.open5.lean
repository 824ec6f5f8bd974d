/-! THE REFERENCE OPENS, 5: isLaid -/
theorem moK_n (k : Int64) {j : Nat} (hj : j < 8) : ∃ x, x < 256 ∧ mo_K k j = nI x := by
  unfold mo_K
  rw [moO_n hj]
  have hlt : zN k / 256 ^ (7 - j) % 256 < 256 := Nat.mod_lt _ (by decide)
  split
  · exact ⟨_, (nx128 hlt).2.1, (nx128 hlt).1⟩
  · exact ⟨_, hlt, rfl⟩
def Bf (h : am_H) (pg : Nat) (j : Nat) : Int32 := am_I h 73 (128 * pg + j)
def li (h g : am_H) (pg : Nat) (bh : Int32) (bf la : Int64) (C : List ent) (u : Nat) : Prop := am_fi [106, 107] h g ∧ el (Bf h pg) 5 none C u ∧ u ≤ 120 ∧ so C ∧ (∀ e ∈ C, eo e) ∧ (C ≠ [] → lk none C = some la ∧ (∀ j, j < 8 → am_I g 106 j = mo_K la j) ∧ ∀ x ∈ C, ¬ la < x.1) ∧ (C = [] → la = bf) ∧ (bh ≠ 0 → ∀ x ∈ C, bf < x.1)
def il_Q (h : am_H) (pg n : Nat) (bh : Int32) (bf : Int64) (o : am_O) (h' : am_H) : Prop := am_fi [106, 107] h h' ∧ (o = .inl (some (.int 0)) ∨ (o = .inl (some (.int 1)) ∧ ∃ C u, C.length = n ∧ C ≠ [] ∧ el (Bf h pg) 5 none C u ∧ u ≤ 120 ∧ so C ∧ (∀ e ∈ C, eo e) ∧ (bh ≠ 0 → ∀ x ∈ C, bf < x.1)))
theorem lt_cut {a b c : Int64} (h1 : ¬ b < a) (h2 : b < c) : a < c := by
  rw [Int64.lt_iff_toInt_lt] at *
  omega
/-- one entry more -/
theorem li.step {h g g' : am_H} {pg u s kd v : Nat} {bh : Int32} {bf la K val : Int64} {C : List ent} {x : Nat → Nat} (I : li h g pg bh bf la C u) (hB : BY h) (F : am_fi [106, 107] h g') (hs : s ≤ 7) (h0 : C = [] → s = 0) (hx : ∀ j, j < 8 → x j < 256 ∧ nk g (128 * pg + u) s j = nI (x j)) (hK : zN K = ka (ky x) 8) (g106 : ∀ j, j < 8 → am_I g' 106 j = nI (x j)) (hu : Bf h pg u &&& 255 = nI s) (hne : C ≠ [] → am_I g 106 s ≠ nI (x s)) (hlt : C ≠ [] ∨ bh ≠ 0 → la < K) (hkd : Bf h pg (u + 9 - s) &&& 255 = nI kd) (k1 : 1 ≤ kd) (k3 : kd ≤ 3) (hv : (kd = 2 ∧ v = 0 ∧ val = 0) ∨ (kd ≠ 2 ∧ v = vs (zf val) ∧ ∀ i, i < v → Bf h pg (u + 10 - s + i) = am_b8 (nI (vb (zN (zf val)) v i)))) (hend : u + 10 - s + v ≤ 120) : li h g' pg bh bf K (C ++ [(K, nI kd, val)]) (u + 10 - s + v) := by
  obtain ⟨i1, i2, i3, i4, i5, i6, i7, i8⟩ := I
  have mk := moK_of (fun j hj => (hx j hj).1) hK
  have e73 : am_I g 73 = am_I h 73 := i1.2.2.2.2.2.2.1 73 (by decide)
  have small : ∀ (j t : Nat), t < 128 → Bf h pg j &&& 255 = nI t → Bf h pg j = nI t := fun j t ht e => by
    have b := hB (128 * pg + j)
    have : Bf h pg j = am_b8 (Bf h pg j &&& 255) := by rw [b8_of]; exact b.symm
    rw [this, e, oc_small ht]
  have esh : sh1 (lk none C) K = s := by
    by_cases e : C = []
    · rw [h0 e, e]; rfl
    · obtain ⟨l1, l2, -⟩ := i6 e
      rw [l1]
      show kc la K = s
      refine kc_eq (by omega) (fun j hj => ?_) ?_
      · rw [mk j (by omega), ← l2 j (by omega), ← (hx j (by omega)).2]
        unfold nk
        rw [if_pos hj]
      · rw [mk s (by omega), ← l2 s (by omega)]
        exact hne e
  have kdn : (nI kd : Int32) = 2 ↔ kd = 2 := ⟨fun e => wnI_inj (b := 2) (by omega) (by decide) e, fun e => by rw [e]; rfl⟩
  have ees : es s (K, nI kd, val) = 10 - s + v := by
    unfold es
    rcases hv with ⟨a1, a2, -⟩ | ⟨a1, a2, -⟩
    · rw [if_pos (kdn.mpr a1), a2]
    · rw [if_neg (fun e => a1 (kdn.mp e)), a2]
  have hea : ea (Bf h pg) u s (K, nI kd, val) := by
    refine ⟨small u s (by omega) hu, fun j h1 h2 => ?_, small _ kd (by omega) ?_, fun hk i hi => ?_⟩
    · have q := (hx j h2).2
      unfold nk at q
      rw [if_neg (by omega), e73] at q
      have b := hB (128 * pg + u + 1 + j - s)
      have : am_I h 73 (128 * pg + u + 1 + j - s) = am_b8 (mo_K K j) := by
        rw [mk j h2, ← q, b8_of]; exact b.symm
      rw [kb_eq h2] at this
      show am_I h 73 (128 * pg + (u + 1 + (j - s))) = _
      rw [show 128 * pg + (u + 1 + (j - s)) = 128 * pg + u + 1 + j - s by omega]
      exact this
    · exact hkd
    · rcases hv with ⟨a1, -, -⟩ | ⟨-, a2, a3⟩
      · exact absurd (kdn.mpr a1) hk
      · have := a3 i (by rw [a2]; exact hi)
        rw [a2] at this
        exact this
  have hel := el_snoc i2 (e := (K, nI kd, val)) (by rw [esh]; exact hea)
  rw [esh, ees, show u + (10 - s + v) = u + 10 - s + v by omega] at hel
  have low : ∀ y ∈ C, y.1 < K := fun y hy => by
    have hne' : C ≠ [] := fun e => by rw [e] at hy; simp at hy
    exact lt_cut ((i6 hne').2.2 y hy) (hlt (Or.inl hne'))
  refine ⟨F, hel, hend, ?_, fun e he => ?_, fun _ => ⟨lk_snoc _ _ _, fun j hj => by rw [g106 j hj, mk j hj], fun y hy => ?_⟩, fun e => by simp at e, fun hb y hy => ?_⟩
  · rw [so_app3]
    refine ⟨i4, ⟨by simp, trivial⟩, fun y hy z hz => ?_⟩
    have : z = (K, nI kd, val) := by simpa using hz
    rw [this]
    exact low y hy
  · rcases List.mem_append.mp he with q | q
    · exact i5 e q
    · have : e = (K, nI kd, val) := by simpa using q
      subst this
      have k123 : kd = 1 ∨ kd = 2 ∨ kd = 3 := by omega
      refine ⟨?_, fun h2 => ?_⟩
      · rcases k123 with e | e | e <;> rw [e]
        · exact Or.inl rfl
        · exact Or.inr (Or.inl rfl)
        · exact Or.inr (Or.inr rfl)
      · rcases hv with ⟨-, -, a3⟩ | ⟨a1, -, -⟩
        · exact a3
        · exact absurd (kdn.mp h2) a1
  · rcases List.mem_append.mp hy with q | q
    · have := low y q
      rw [Int64.lt_iff_toInt_lt] at this ⊢
      omega
    · have : y = (K, nI kd, val) := by simpa using q
      rw [this]
      show ¬ K < K
      intro e
      rw [Int64.lt_iff_toInt_lt] at e
      omega
  · rcases List.mem_append.mp hy with q | q
    · exact i8 hb y q
    · have : y = (K, nI kd, val) := by simpa using q
      rw [this]
      show bf < K
      have hl := hlt (Or.inr hb)
      by_cases e : C = []
      · rw [← i7 e]; exact hl
      · obtain ⟨y0, hy0⟩ := List.exists_mem_of_ne_nil _ e
        exact l_tr (i8 hb y0 hy0) (low y0 hy0)
theorem rx_il_end {d pg n : Nat} {bh : Int32} {bf la : Int64} {w11 w12 w13 w14 : Value} {h g : am_H} {C : List ent} {u : Nat} (hS : mo_Sk h) (hp : pg < 1024) (I : li h g pg bh bf la C u) (hn : C.length = n) (hne : C ≠ []) : ∀ (r a : Nat) (x : Int32), (x = 0 ∨ x = 1) → r + a = 120 →
    am_Ex nm_pr d mt_Mo_isLaid (345, [.ref 72, .int (nI pg), .int bh, .long bf, .retAddr 0, .int (nI (128 * pg + 120)), .int (nI (128 * pg + a)), .int (nI n), .long la, .retAddr 0, .int x, w11, w12, w13, w14], [], g) (il_Q h pg n bh bf)
  | r, a, x, hx, hr => by
    have S := hS.fi I.1
    have out : am_Ex nm_pr d mt_Mo_isLaid (380, [.ref 72, .int (nI pg), .int bh, .long bf, .retAddr 0, .int (nI (128 * pg + 120)), .int (nI (128 * pg + a)), .int (nI n), .long la, .retAddr 0, .int x, w11, w12, w13, w14], [], g) (il_Q h pg n bh bf) := by
      refine am_go [] 2 ?_
      simp only [am_wp, am_stp, am_en, am_as, am_pad, am_nth, am_set, am_st1, am_st2, am_kl, am_kill, am_mem, am_fv, am_tk, am_wt, am_bk, Option.toList, List.cons_append, List.nil_append, Nat.reduceAdd, Nat.reduceEqDiff, Nat.reduceLeDiff, reduceIte, Nat.reduceLT, or_self, true_or, or_true, if_true, if_false, and_self, and_true, true_and, not_false_eq_true, not_true_eq_false, fd_Mo_isLaid_380, fd_Mo_isLaid_382, hx]
      rcases hx with e | e
      · subst e
        exact ⟨I.1, Or.inl rfl⟩
      · subst e
        exact ⟨I.1, Or.inr ⟨rfl, C, u, hn, hne, I.2.1, I.2.2.1, I.2.2.2.1, I.2.2.2.2.1, I.2.2.2.2.2.2.2⟩⟩
    cases r with
    | zero =>
      have e : a = 120 := by omega
      subst e
      have l1 : ¬ nI (128 * pg + 120) < nI (128 * pg + 120) := nI_nlt (Nat.le_refl _) (by omega)
      generalize hE : 128 * pg + 120 = E at *
      refine am_go [352, 380] 3 ?_
      simp only [am_wp, am_stp, am_en, am_as, am_pad, am_nth, am_set, am_st1, am_st2, am_kl, am_kill, am_mem, am_fv, am_tk, am_wt, am_bk, Option.toList, List.cons_append, List.nil_append, Nat.reduceAdd, Nat.reduceEqDiff, Nat.reduceLeDiff, reduceIte, Nat.reduceLT, or_self, true_or, or_true, if_true, if_false, and_self, and_true, true_and, not_false_eq_true, not_true_eq_false, fd_Mo_isLaid_345, fd_Mo_isLaid_347, fd_Mo_isLaid_349, S.all, l1]
      exact out
    | succ r =>
      have l1 : nI (128 * pg + a) < nI (128 * pg + 120) := nI_lt (by omega) (by omega)
      have i1 := am_inb (c := 128 * pg + a) (N := 131072) (by omega) (by omega)
      have q1 : (nI (128 * pg + a)).toNatClampNeg = 128 * pg + a := nI_clamp (by omega)
      have e1 : nI (128 * pg + a) + 1 = nI (128 * pg + (a + 1)) := nI_add _ 1
      generalize hE : 128 * pg + 120 = E at *
      refine am_go [352, 380] 3 ?_
      simp only [am_wp, am_stp, am_en, am_as, am_pad, am_nth, am_set, am_st1, am_st2, am_kl, am_kill, am_mem, am_fv, am_tk, am_wt, am_bk, Option.toList, List.cons_append, List.nil_append, Nat.reduceAdd, Nat.reduceEqDiff, Nat.reduceLeDiff, reduceIte, Nat.reduceLT, or_self, true_or, or_true, if_true, if_false, and_self, and_true, true_and, not_false_eq_true, not_true_eq_false, fd_Mo_isLaid_345, fd_Mo_isLaid_347, fd_Mo_isLaid_349, S.all, l1]
      refine am_go [357, 380] 2 ?_
      simp only [am_wp, am_stp, am_en, am_as, am_pad, am_nth, am_set, am_st1, am_st2, am_kl, am_kill, am_mem, am_fv, am_tk, am_wt, am_bk, Option.toList, List.cons_append, List.nil_append, Nat.reduceAdd, Nat.reduceEqDiff, Nat.reduceLeDiff, reduceIte, Nat.reduceLT, or_self, true_or, or_true, if_true, if_false, and_self, and_true, true_and, not_false_eq_true, not_true_eq_false, fd_Mo_isLaid_352, fd_Mo_isLaid_354, S.all]
      refine wif out ?_
      refine am_go [367, 371] 5 ?_
      simp only [am_wp, am_stp, am_en, am_as, am_pad, am_nth, am_set, am_st1, am_st2, am_kl, am_kill, am_mem, am_fv, am_tk, am_wt, am_bk, Option.toList, List.cons_append, List.nil_append, Nat.reduceAdd, Nat.reduceEqDiff, Nat.reduceLeDiff, reduceIte, Nat.reduceLT, or_self, true_or, or_true, if_true, if_false, and_self, and_true, true_and, not_false_eq_true, not_true_eq_false, fd_Mo_isLaid_357, fd_Mo_isLaid_358, fd_Mo_isLaid_361, fd_Mo_isLaid_363, fd_Mo_isLaid_364, S.all, i1, q1]
      have next : ∀ y : Int32, (y = 0 ∨ y = 1) → am_Ex nm_pr d mt_Mo_isLaid (345, [.ref 72, .int (nI pg), .int bh, .long bf, .retAddr 0, .int (nI E), .int (nI (128 * pg + (a + 1))), .int (nI n), .long la, .retAddr 0, .int y, w11, w12, w13, w14], [], g) (il_Q h pg n bh bf) := fun y hy => by
        have := rx_il_end (d := d) (w11 := w11) (w12 := w12) (w13 := w13) (w14 := w14) hS hp I hn hne r (a + 1) y hy (by omega)
        rw [hE] at this
        exact this
      refine wif ?_ ?_
      rotate_left
      · refine am_go [345] 4 ?_
        simp only [am_wp, am_stp, am_en, am_as, am_pad, am_nth, am_set, am_st1, am_st2, am_kl, am_kill, am_mem, am_fv, am_tk, am_wt, am_bk, Option.toList, List.cons_append, List.nil_append, Nat.reduceAdd, Nat.reduceEqDiff, Nat.reduceLeDiff, reduceIte, Nat.reduceLT, or_self, true_or, or_true, if_true, if_false, and_self, and_true, true_and, not_false_eq_true, not_true_eq_false, fd_Mo_isLaid_371, fd_Mo_isLaid_372, fd_Mo_isLaid_374, fd_Mo_isLaid_377, e1]
        exact next 0 (Or.inl rfl)
      · refine am_go [345] 5 ?_
        simp only [am_wp, am_stp, am_en, am_as, am_pad, am_nth, am_set, am_st1, am_st2, am_kl, am_kill, am_mem, am_fv, am_tk, am_wt, am_bk, Option.toList, List.cons_append, List.nil_append, Nat.reduceAdd, Nat.reduceEqDiff, Nat.reduceLeDiff, reduceIte, Nat.reduceLT, or_self, true_or, or_true, if_true, if_false, and_self, and_true, true_and, not_false_eq_true, not_true_eq_false, fd_Mo_isLaid_367, fd_Mo_isLaid_368, fd_Mo_isLaid_372, fd_Mo_isLaid_374, fd_Mo_isLaid_377, e1]
        exact next 1 (Or.inr rfl)
theorem rx_bv {d f e : Nat} {h : am_H} (hS : mo_Sk h) (he : e ≤ 131072) (hf : f ≤ e) : am_Rt nm_pr (d + 1) mi_Mo_behindValue [.ref 72, .int (nI f), .int (nI e)] h (fun o h' => (o = .inl (some (.int (-1))) ∨ ∃ m, f + m < e ∧ m ≤ 9 ∧ (∀ i, i < m → am_I h 73 (f + i) < 0) ∧ ¬ am_I h 73 (f + m) < 0 ∧ (m = 0 ∨ 0 < am_I h 73 (f + m)) ∧ (m = 9 → am_I h 73 (f + m) = 1) ∧ o = .inl (some (.int (nI (f + m + 1))))) ∧ h' = h) := by
  refine am_in' (d := d) mt_Mo_behindValue 6 rfl rfl rfl ?_
  refine am_go [2] 2 ?_
  simp only [am_wp, am_stp, am_en, am_as, am_pad, am_nth, am_set, am_st1, am_st2, am_kl, am_kill, am_mem, am_fv, am_tk, am_wt, am_bk, Option.toList, List.cons_append, List.nil_append, Nat.reduceAdd, Nat.reduceEqDiff, Nat.reduceLeDiff, reduceIte, Nat.reduceLT, or_self, true_or, or_true, if_true, if_false, and_self, and_true, true_and, not_false_eq_true, not_true_eq_false, fd_Mo_behindValue_0, fd_Mo_behindValue_1]
  exact rx_bv_loop hS he hf 9 0 _ _ rfl (fun i hi => by omega)
theorem rx_il_loop {d pg n : Nat} {bh : Int32} {bf : Int64} {h : am_H} (hS : mo_Sk h) (hp : pg < 1024) (hB : BY h) (hn : n < 256) : ∀ (m : Nat) (C : List ent) (u : Nat) (la : Int64) (w11 w12 w13 w14 : Value) (g : am_H), m + C.length = n → li h g pg bh bf la C u →
    am_Ex nm_pr (d + 1) mt_Mo_isLaid (43, [.ref 72, .int (nI pg), .int bh, .long bf, .retAddr 0, .int (nI (128 * pg + 120)), .int (nI (128 * pg + u)), .int (nI n), .long la, .retAddr 0, .int (nI C.length), w11, w12, w13, w14], [], g) (il_Q h pg n bh bf)
  | 0, C, u, la, w11, w12, w13, w14, g, hm, I => by
    have S := hS.fi I.1
    have e : C.length = n := by omega
    have l1 : ¬ nI C.length < nI n := nI_nlt (by omega) (by omega)
    refine am_go [50, 333] 3 ?_
    simp only [am_wp, am_stp, am_en, am_as, am_pad, am_nth, am_set, am_st1, am_st2, am_kl, am_kill, am_mem, am_fv, am_tk, am_wt, am_bk, Option.toList, List.cons_append, List.nil_append, Nat.reduceAdd, Nat.reduceEqDiff, Nat.reduceLeDiff, reduceIte, Nat.reduceLT, or_self, true_or, or_true, if_true, if_false, and_self, and_true, true_and, not_false_eq_true, not_true_eq_false, fd_Mo_isLaid_43, fd_Mo_isLaid_45, fd_Mo_isLaid_47, S.all, l1]
    by_cases n0 : n = 0
    · have l0 : ¬ 0 < nI n := by rw [n0]; decide
      refine am_go [338, 342] 2 ?_
      simp only [am_wp, am_stp, am_en, am_as, am_pad, am_nth, am_set, am_st1, am_st2, am_kl, am_kill, am_mem, am_fv, am_tk, am_wt, am_bk, Option.toList, List.cons_append, List.nil_append, Nat.reduceAdd, Nat.reduceEqDiff, Nat.reduceLeDiff, reduceIte, Nat.reduceLT, or_self, true_or, or_true, if_true, if_false, and_self, and_true, true_and, not_false_eq_true, not_true_eq_false, fd_Mo_isLaid_333, fd_Mo_isLaid_335, S.all, l0]
      refine am_go [345] 2 ?_
      simp only [am_wp, am_stp, am_en, am_as, am_pad, am_nth, am_set, am_st1, am_st2, am_kl, am_kill, am_mem, am_fv, am_tk, am_wt, am_bk, Option.toList, List.cons_append, List.nil_append, Nat.reduceAdd, Nat.reduceEqDiff, Nat.reduceLeDiff, reduceIte, Nat.reduceLT, or_self, true_or, or_true, if_true, if_false, and_self, and_true, true_and, not_false_eq_true, not_true_eq_false, fd_Mo_isLaid_342, fd_Mo_isLaid_343]
      -- nothing is no page
      have hu := I.2.2.1
      by_cases hl : u < 120
      · have l2 : nI (128 * pg + u) < nI (128 * pg + 120) := nI_lt (by omega) (by omega)
        generalize hE : 128 * pg + 120 = E at *
        refine am_go [352, 380] 3 ?_
        simp only [am_wp, am_stp, am_en, am_as, am_pad, am_nth, am_set, am_st1, am_st2, am_kl, am_kill, am_mem, am_fv, am_tk, am_wt, am_bk, Option.toList, List.cons_append, List.nil_append, Nat.reduceAdd, Nat.reduceEqDiff, Nat.reduceLeDiff, reduceIte, Nat.reduceLT, or_self, true_or, or_true, if_true, if_false, and_self, and_true, true_and, not_false_eq_true, not_true_eq_false, fd_Mo_isLaid_345, fd_Mo_isLaid_347, fd_Mo_isLaid_349, S.all, l2]
        refine am_go [357, 380] 2 ?_
        simp only [am_wp, am_stp, am_en, am_as, am_pad, am_nth, am_set, am_st1, am_st2, am_kl, am_kill, am_mem, am_fv, am_tk, am_wt, am_bk, Option.toList, List.cons_append, List.nil_append, Nat.reduceAdd, Nat.reduceEqDiff, Nat.reduceLeDiff, reduceIte, Nat.reduceLT, or_self, true_or, or_true, if_true, if_false, and_self, and_true, true_and, not_false_eq_true, not_true_eq_false, fd_Mo_isLaid_352, fd_Mo_isLaid_354, S.all]
        refine am_go [] 2 ?_
        simp only [am_wp, am_stp, am_en, am_as, am_pad, am_nth, am_set, am_st1, am_st2, am_kl, am_kill, am_mem, am_fv, am_tk, am_wt, am_bk, Option.toList, List.cons_append, List.nil_append, Nat.reduceAdd, Nat.reduceEqDiff, Nat.reduceLeDiff, reduceIte, Nat.reduceLT, or_self, true_or, or_true, if_true, if_false, and_self, and_true, true_and, not_false_eq_true, not_true_eq_false, fd_Mo_isLaid_380, fd_Mo_isLaid_382, S.all]
        exact ⟨I.1, Or.inl rfl⟩
      · have l2 : ¬ nI (128 * pg + u) < nI (128 * pg + 120) := nI_nlt (by omega) (by omega)
        generalize hE : 128 * pg + 120 = E at *
        refine am_go [352, 380] 3 ?_
        simp only [am_wp, am_stp, am_en, am_as, am_pad, am_nth, am_set, am_st1, am_st2, am_kl, am_kill, am_mem, am_fv, am_tk, am_wt, am_bk, Option.toList, List.cons_append, List.nil_append, Nat.reduceAdd, Nat.reduceEqDiff, Nat.reduceLeDiff, reduceIte, Nat.reduceLT, or_self, true_or, or_true, if_true, if_false, and_self, and_true, true_and, not_false_eq_true, not_true_eq_false, fd_Mo_isLaid_345, fd_Mo_isLaid_347, fd_Mo_isLaid_349, S.all, l2]
        refine am_go [] 2 ?_
        simp only [am_wp, am_stp, am_en, am_as, am_pad, am_nth, am_set, am_st1, am_st2, am_kl, am_kill, am_mem, am_fv, am_tk, am_wt, am_bk, Option.toList, List.cons_append, List.nil_append, Nat.reduceAdd, Nat.reduceEqDiff, Nat.reduceLeDiff, reduceIte, Nat.reduceLT, or_self, true_or, or_true, if_true, if_false, and_self, and_true, true_and, not_false_eq_true, not_true_eq_false, fd_Mo_isLaid_380, fd_Mo_isLaid_382, S.all]
        exact ⟨I.1, Or.inl rfl⟩
    · have l0 : 0 < nI n := nI_gt0 (by omega) (by omega)
      have hne : C ≠ [] := fun q => n0 (by rw [← e, q]; rfl)
      have hu := I.2.2.1
      refine am_go [338, 342] 2 ?_
      simp only [am_wp, am_stp, am_en, am_as, am_pad, am_nth, am_set, am_st1, am_st2, am_kl, am_kill, am_mem, am_fv, am_tk, am_wt, am_bk, Option.toList, List.cons_append, List.nil_append, Nat.reduceAdd, Nat.reduceEqDiff, Nat.reduceLeDiff, reduceIte, Nat.reduceLT, or_self, true_or, or_true, if_true, if_false, and_self, and_true, true_and, not_false_eq_true, not_true_eq_false, fd_Mo_isLaid_333, fd_Mo_isLaid_335, S.all, l0]
      refine am_go [345] 3 ?_
      simp only [am_wp, am_stp, am_en, am_as, am_pad, am_nth, am_set, am_st1, am_st2, am_kl, am_kill, am_mem, am_fv, am_tk, am_wt, am_bk, Option.toList, List.cons_append, List.nil_append, Nat.reduceAdd, Nat.reduceEqDiff, Nat.reduceLeDiff, reduceIte, Nat.reduceLT, or_self, true_or, or_true, if_true, if_false, and_self, and_true, true_and, not_false_eq_true, not_true_eq_false, fd_Mo_isLaid_338, fd_Mo_isLaid_339, fd_Mo_isLaid_343]
      exact rx_il_end hS hp I e hne (120 - u) u 1 (Or.inr rfl) (by omega)
  | m + 1, C, u, la, w11, w12, w13, w14, g, hm, I => by
    obtain ⟨i1, i2, i3, i4, i5, i6, i7, i8⟩ := id I
    have S := hS.fi i1
    have e73 : am_I g 73 = am_I h 73 := i1.2.2.2.2.2.2.1 73 (by decide)
    have l1 : nI C.length < nI n := nI_lt (by omega) (by omega)
    have c0 : (nI C.length = 0) ↔ C = [] := ⟨fun q => List.length_eq_zero_iff.mp (wnI_inj (b := 0) (by omega) (by decide) q), fun q => by rw [q]; rfl⟩
    have no : ∀ (g' : am_H) (la' : Int64) (a6 : Int32) (w11 w12 w13 w14 : Value) (t : Nat), (t = 105 ∨ t = 257 ∨ t = 301 ∨ t = 325) → am_fi [106, 107] h g' → am_Ex nm_pr (d + 1) mt_Mo_isLaid (t, [.ref 72, .int (nI pg), .int bh, .long bf, .retAddr 0, .int (nI (128 * pg + 120)), .int a6, .int (nI n), .long la', .retAddr 0, .int (nI C.length), w11, w12, w13, w14], [], g') (il_Q h pg n bh bf) := fun g' la' a6 w11 w12 w13 w14 t ht F => by
      have S' := hS.fi F
      rcases ht with e | e | e | e <;> subst e
      · refine am_go [] 2 ?_
        simp only [am_wp, am_stp, am_en, am_as, am_pad, am_nth, am_set, am_st1, am_st2, am_kl, am_kill, am_mem, am_fv, am_tk, am_wt, am_bk, Option.toList, List.cons_append, List.nil_append, Nat.reduceAdd, Nat.reduceEqDiff, Nat.reduceLeDiff, reduceIte, Nat.reduceLT, or_self, true_or, or_true, if_true, if_false, and_self, and_true, true_and, not_false_eq_true, not_true_eq_false, fd_Mo_isLaid_105, fd_Mo_isLaid_106, S'.all]
        exact ⟨F, Or.inl rfl⟩
      · refine am_go [] 2 ?_
        simp only [am_wp, am_stp, am_en, am_as, am_pad, am_nth, am_set, am_st1, am_st2, am_kl, am_kill, am_mem, am_fv, am_tk, am_wt, am_bk, Option.toList, List.cons_append, List.nil_append, Nat.reduceAdd, Nat.reduceEqDiff, Nat.reduceLeDiff, reduceIte, Nat.reduceLT, or_self, true_or, or_true, if_true, if_false, and_self, and_true, true_and, not_false_eq_true, not_true_eq_false, fd_Mo_isLaid_257, fd_Mo_isLaid_258, S'.all]
        exact ⟨F, Or.inl rfl⟩
      · refine am_go [] 2 ?_
        simp only [am_wp, am_stp, am_en, am_as, am_pad, am_nth, am_set, am_st1, am_st2, am_kl, am_kill, am_mem, am_fv, am_tk, am_wt, am_bk, Option.toList, List.cons_append, List.nil_append, Nat.reduceAdd, Nat.reduceEqDiff, Nat.reduceLeDiff, reduceIte, Nat.reduceLT, or_self, true_or, or_true, if_true, if_false, and_self, and_true, true_and, not_false_eq_true, not_true_eq_false, fd_Mo_isLaid_301, fd_Mo_isLaid_302, S'.all]
        exact ⟨F, Or.inl rfl⟩
      · refine am_go [] 2 ?_
        simp only [am_wp, am_stp, am_en, am_as, am_pad, am_nth, am_set, am_st1, am_st2, am_kl, am_kill, am_mem, am_fv, am_tk, am_wt, am_bk, Option.toList, List.cons_append, List.nil_append, Nat.reduceAdd, Nat.reduceEqDiff, Nat.reduceLeDiff, reduceIte, Nat.reduceLT, or_self, true_or, or_true, if_true, if_false, and_self, and_true, true_and, not_false_eq_true, not_true_eq_false, fd_Mo_isLaid_325, fd_Mo_isLaid_326, S'.all]
        exact ⟨F, Or.inl rfl⟩
    refine am_go [50, 333] 3 ?_
    simp only [am_wp, am_stp, am_en, am_as, am_pad, am_nth, am_set, am_st1, am_st2, am_kl, am_kill, am_mem, am_fv, am_tk, am_wt, am_bk, Option.toList, List.cons_append, List.nil_append, Nat.reduceAdd, Nat.reduceEqDiff, Nat.reduceLeDiff, reduceIte, Nat.reduceLT, or_self, true_or, or_true, if_true, if_false, and_self, and_true, true_and, not_false_eq_true, not_true_eq_false, fd_Mo_isLaid_43, fd_Mo_isLaid_45, fd_Mo_isLaid_47, S.all, l1]
    by_cases hl : u < 120
    · have l2 : nI (128 * pg + u) < nI (128 * pg + 120) := nI_lt (by omega) (by omega)
      have ia := am_inb (c := 128 * pg + u) (N := 131072) (by omega) (by omega)
      have qa : (nI (128 * pg + u)).toNatClampNeg = 128 * pg + u := nI_clamp (by omega)
      obtain ⟨s, hs256, es⟩ := wand255 (am_I g 73 (128 * pg + u))
      generalize hA : 128 * pg + u = A at *
      generalize hE : 128 * pg + 120 = E at *
      refine am_go [57, 71] 3 ?_
      simp only [am_wp, am_stp, am_en, am_as, am_pad, am_nth, am_set, am_st1, am_st2, am_kl, am_kill, am_mem, am_fv, am_tk, am_wt, am_bk, Option.toList, List.cons_append, List.nil_append, Nat.reduceAdd, Nat.reduceEqDiff, Nat.reduceLeDiff, reduceIte, Nat.reduceLT, or_self, true_or, or_true, if_true, if_false, and_self, and_true, true_and, not_false_eq_true, not_true_eq_false, fd_Mo_isLaid_50, fd_Mo_isLaid_52, fd_Mo_isLaid_54, S.all, l2]
      refine am_go [75] 8 ?_
      simp only [am_wp, am_stp, am_en, am_as, am_pad, am_nth, am_set, am_st1, am_st2, am_kl, am_kill, am_mem, am_fv, am_tk, am_wt, am_bk, Option.toList, List.cons_append, List.nil_append, Nat.reduceAdd, Nat.reduceEqDiff, Nat.reduceLeDiff, reduceIte, Nat.reduceLT, or_self, true_or, or_true, if_true, if_false, and_self, and_true, true_and, not_false_eq_true, not_true_eq_false, fd_Mo_isLaid_57, fd_Mo_isLaid_58, fd_Mo_isLaid_61, fd_Mo_isLaid_63, fd_Mo_isLaid_64, fd_Mo_isLaid_67, fd_Mo_isLaid_68, fd_Mo_isLaid_73, S.all, ia, qa, es]
      by_cases h7 : s ≤ 7
      · have l7 : ¬ 7 < nI s := nI_nlt (a := 7) h7 (by decide)
        refine am_go [82, 105] 3 ?_
        simp only [am_wp, am_stp, am_en, am_as, am_pad, am_nth, am_set, am_st1, am_st2, am_kl, am_kill, am_mem, am_fv, am_tk, am_wt, am_bk, Option.toList, List.cons_append, List.nil_append, Nat.reduceAdd, Nat.reduceEqDiff, Nat.reduceLeDiff, reduceIte, Nat.reduceLT, or_self, true_or, or_true, if_true, if_false, and_self, and_true, true_and, not_false_eq_true, not_true_eq_false, fd_Mo_isLaid_75, fd_Mo_isLaid_77, fd_Mo_isLaid_79, S.all, l7]
        -- the size
        have size : (C = [] → s = 0) → am_Ex nm_pr (d + 1) mt_Mo_isLaid (92, [.ref 72, .int (nI pg), .int bh, .long bf, .retAddr 0, .int (nI E), .int (nI A), .int (nI n), .long la, .retAddr 0, .int (nI C.length), .int (nI s), w12, w13, w14], [], g) (il_Q h pg n bh bf) := fun h0 => by
          have e10 : nI A + 10 = nI (A + 10) := nI_add _ 10
          have es' : nI (A + 10) - nI s = nI (A + 10 - s) := nI_sub (by omega)
          by_cases hz : A + 10 - s ≤ E
          · have lz : ¬ nI E < nI (A + 10 - s) := nI_nlt hz (by omega)
            refine am_go [105, 107] 7 ?_
            simp only [am_wp, am_stp, am_en, am_as, am_pad, am_nth, am_set, am_st1, am_st2, am_kl, am_kill, am_mem, am_fv, am_tk, am_wt, am_bk, Option.toList, List.cons_append, List.nil_append, Nat.reduceAdd, Nat.reduceEqDiff, Nat.reduceLeDiff, reduceIte, Nat.reduceLT, or_self, true_or, or_true, if_true, if_false, and_self, and_true, true_and, not_false_eq_true, not_true_eq_false, fd_Mo_isLaid_92, fd_Mo_isLaid_94, fd_Mo_isLaid_96, fd_Mo_isLaid_97, fd_Mo_isLaid_99, fd_Mo_isLaid_100, fd_Mo_isLaid_102, e10, es', lz]
            refine am_go [113] 4 ?_
            simp only [am_wp, am_stp, am_en, am_as, am_pad, am_nth, am_set, am_st1, am_st2, am_kl, am_kill, am_mem, am_fv, am_tk, am_wt, am_bk, Option.toList, List.cons_append, List.nil_append, Nat.reduceAdd, Nat.reduceEqDiff, Nat.reduceLeDiff, reduceIte, Nat.reduceLT, or_self, true_or, or_true, if_true, if_false, and_self, and_true, true_and, not_false_eq_true, not_true_eq_false, fd_Mo_isLaid_107, fd_Mo_isLaid_108, fd_Mo_isLaid_110, fd_Mo_isLaid_111]
            -- the key's octets
            have hx' : ∀ j, ∃ x, j < 8 → (x < 256 ∧ nk g A s j = nI x) := fun j => by
              by_cases hj : j < 8
              · by_cases hjs : j < s
                · have hne : C ≠ [] := fun q => by have := h0 q; omega
                  obtain ⟨x, x1, x2⟩ := moK_n la hj
                  refine ⟨x, fun _ => ⟨x1, ?_⟩⟩
                  unfold nk
                  rw [if_pos hjs, (i6 hne).2.1 j hj, x2]
                · obtain ⟨x, x1, x2⟩ := wand255 (am_I g 73 (A + 1 + j - s))
                  refine ⟨x, fun _ => ⟨x1, ?_⟩⟩
                  unfold nk
                  rw [if_neg hjs, x2]
              · exact ⟨0, fun q => absurd q hj⟩
            obtain ⟨x, hx⟩ : ∃ x : Nat → Nat, ∀ j, j < 8 → (x j < 256 ∧ nk g A s j = nI (x j)) := ⟨fun j => Classical.choose (hx' j), fun j => Classical.choose_spec (hx' j)⟩
            refine rx_il_key (x := x) S (by omega) h7 hx (fun g1 K F1 v106 v107 hK => ?_) 8 0 0 g rfl am_fi.refl (fun j hj => by omega) (fun _ _ => rfl) (fun j hj => by omega) (by simp only [ka]; rfl)
            have F01 : am_fi [106, 107] h g1 := i1.trans F1
            have S1 := hS.fi F01
            have is := am_inb (c := s) (N := 8) (by omega) (by omega)
            have qs : (nI s).toNatClampNeg = s := nI_clamp (by omega)
            have f73 : am_I g1 73 = am_I h 73 := F01.2.2.2.2.2.2.1 73 (by decide)
            -- behind the checks of the key
            have good : (C ≠ [] → am_I g 106 s ≠ nI (x s)) → (C ≠ [] ∨ bh ≠ 0 → la < K) → am_Ex nm_pr (d + 1) mt_Mo_isLaid (259, [.ref 72, .int (nI pg), .int bh, .long bf, .retAddr 0, .int (nI E), .int (nI A), .int (nI n), .long la, .retAddr 0, .int (nI C.length), .int (nI s), .long K, .retAddr 0, .int (nI 8)], [], g1) (il_Q h pg n bh bf) := fun k1 k2 => by
              have e9 : 9 - nI s = nI (9 - s) := nI_sub (a := 9) (by omega)
              have eA : nI A + nI (9 - s) = nI (A + 9 - s) := by rw [nI_add]; congr 1; omega
              have ib := am_inb (c := A + 9 - s) (N := 131072) (by omega) (by omega)
              have qb : (nI (A + 9 - s)).toNatClampNeg = A + 9 - s := nI_clamp (by omega)
              have eA1 : nI (A + 9 - s) + 1 = nI (A + 10 - s) := by
                have := nI_add (A + 9 - s) 1
                rw [show A + 9 - s + 1 = A + 10 - s by omega] at this
                exact this
              obtain ⟨kd, kd256, ekd⟩ := wand255 (am_I g1 73 (A + 9 - s))
              refine am_go [] 8 ?_
              simp only [am_wp, am_stp, am_en, am_as, am_pad, am_nth, am_set, am_st1, am_st2, am_kl, am_kill, am_mem, am_fv, am_tk, am_wt, am_bk, Option.toList, List.cons_append, List.nil_append, Nat.reduceAdd, Nat.reduceEqDiff, Nat.reduceLeDiff, reduceIte, Nat.reduceLT, or_self, true_or, or_true, if_true, if_false, and_self, and_true, true_and, not_false_eq_true, not_true_eq_false, fd_Mo_isLaid_259, fd_Mo_isLaid_261, fd_Mo_isLaid_263, fd_Mo_isLaid_265, fd_Mo_isLaid_267, fd_Mo_isLaid_269, fd_Mo_isLaid_270, fd_Mo_isLaid_271, e9, eA]
              generalize hF : A + 9 - s = F9 at *
              refine am_go [] 7 ?_
              simp only [am_wp, am_stp, am_en, am_as, am_pad, am_nth, am_set, am_st1, am_st2, am_kl, am_kill, am_mem, am_fv, am_tk, am_wt, am_bk, Option.toList, List.cons_append, List.nil_append, Nat.reduceAdd, Nat.reduceEqDiff, Nat.reduceLeDiff, reduceIte, Nat.reduceLT, or_self, true_or, or_true, if_true, if_false, and_self, and_true, true_and, not_false_eq_true, not_true_eq_false, fd_Mo_isLaid_273, fd_Mo_isLaid_274, fd_Mo_isLaid_277, fd_Mo_isLaid_279, fd_Mo_isLaid_280, fd_Mo_isLaid_283, fd_Mo_isLaid_284, S1.all, ib, qb, ekd]
              refine am_go [] 1 ?_
              simp only [am_wp, am_stp, am_en, am_as, am_pad, am_nth, am_set, am_st1, am_st2, am_kl, am_kill, am_mem, am_fv, am_tk, am_wt, am_bk, Option.toList, List.cons_append, List.nil_append, Nat.reduceAdd, Nat.reduceEqDiff, Nat.reduceLeDiff, reduceIte, Nat.reduceLT, or_self, true_or, or_true, if_true, if_false, and_self, and_true, true_and, not_false_eq_true, not_true_eq_false, fd_Mo_isLaid_286, eA1]
              by_cases kd1 : kd < 1
              · have lk1 : nI kd < 1 := nI_lt (b := 1) kd1 (by decide)
                refine am_go [295, 301] 3 ?_
                simp only [am_wp, am_stp, am_en, am_as, am_pad, am_nth, am_set, am_st1, am_st2, am_kl, am_kill, am_mem, am_fv, am_tk, am_wt, am_bk, Option.toList, List.cons_append, List.nil_append, Nat.reduceAdd, Nat.reduceEqDiff, Nat.reduceLeDiff, reduceIte, Nat.reduceLT, or_self, true_or, or_true, if_true, if_false, and_self, and_true, true_and, not_false_eq_true, not_true_eq_false, fd_Mo_isLaid_289, fd_Mo_isLaid_291, fd_Mo_isLaid_292, S1.all, lk1]
                exact no _ _ _ _ _ _ _ 301 (by omega) F01
              have lk1 : ¬ nI kd < 1 := nI_nlt (b := 1) (by omega) (by omega)
              refine am_go [295, 301] 3 ?_
              simp only [am_wp, am_stp, am_en, am_as, am_pad, am_nth, am_set, am_st1, am_st2, am_kl, am_kill, am_mem, am_fv, am_tk, am_wt, am_bk, Option.toList, List.cons_append, List.nil_append, Nat.reduceAdd, Nat.reduceEqDiff, Nat.reduceLeDiff, reduceIte, Nat.reduceLT, or_self, true_or, or_true, if_true, if_false, and_self, and_true, true_and, not_false_eq_true, not_true_eq_false, fd_Mo_isLaid_289, fd_Mo_isLaid_291, fd_Mo_isLaid_292, S1.all, lk1]
              by_cases kd3 : 3 < kd
              · have lk3 : 3 < nI kd := nI_lt (a := 3) kd3 (by omega)
                refine am_go [301, 303] 3 ?_
                simp only [am_wp, am_stp, am_en, am_as, am_pad, am_nth, am_set, am_st1, am_st2, am_kl, am_kill, am_mem, am_fv, am_tk, am_wt, am_bk, Option.toList, List.cons_append, List.nil_append, Nat.reduceAdd, Nat.reduceEqDiff, Nat.reduceLeDiff, reduceIte, Nat.reduceLT, or_self, true_or, or_true, if_true, if_false, and_self, and_true, true_and, not_false_eq_true, not_true_eq_false, fd_Mo_isLaid_295, fd_Mo_isLaid_297, fd_Mo_isLaid_298, S1.all, lk3]
                exact no _ _ _ _ _ _ _ 301 (by omega) F01
              have lk3 : ¬ 3 < nI kd := nI_nlt (a := 3) (by omega) (by decide)
              refine am_go [301, 303] 3 ?_
              simp only [am_wp, am_stp, am_en, am_as, am_pad, am_nth, am_set, am_st1, am_st2, am_kl, am_kill, am_mem, am_fv, am_tk, am_wt, am_bk, Option.toList, List.cons_append, List.nil_append, Nat.reduceAdd, Nat.reduceEqDiff, Nat.reduceLeDiff, reduceIte, Nat.reduceLT, or_self, true_or, or_true, if_true, if_false, and_self, and_true, true_and, not_false_eq_true, not_true_eq_false, fd_Mo_isLaid_295, fd_Mo_isLaid_297, fd_Mo_isLaid_298, S1.all, lk3]
              have hkd : Bf h pg (u + 9 - s) &&& 255 = nI kd := by
                unfold Bf
                rw [← f73, show 128 * pg + (u + 9 - s) = F9 by omega]
                exact ekd
              have hu : Bf h pg u &&& 255 = nI s := by
                unfold Bf
                rw [← e73, hA]
                exact es
              have nxt : ∀ (v : Nat) (val : Int64), ((kd = 2 ∧ v = 0 ∧ val = 0) ∨ (kd ≠ 2 ∧ v = vs (zf val) ∧ ∀ i, i < v → Bf h pg (u + 10 - s + i) = am_b8 (nI (vb (zN (zf val)) v i)))) → u + 10 - s + v ≤ 120 → am_Ex nm_pr (d + 1) mt_Mo_isLaid (319, [.ref 72, .int (nI pg), .int bh, .long bf, .retAddr 0, .int (nI E), .int (nI (128 * pg + (u + 10 - s + v))), .int (nI n), .long K, .retAddr 0, .int (nI C.length), .int (nI s), .long K, .retAddr 0, .int (nI kd)], [], g1) (il_Q h pg n bh bf) := fun v val hv hend => by
                have n1 := nI_m1 (p := 128 * pg + (u + 10 - s + v)) (by omega)
                have I1 := I.step (g' := g1) (K := K) (val := val) (kd := kd) (v := v) (s := s) (x := x) hB F01 h7 h0 (by rw [hA]; exact hx) hK v106 hu k1 k2 hkd (by omega) (by omega) hv hend
                generalize hG : 128 * pg + (u + 10 - s + v) = G at *
                refine am_go [325, 327] 3 ?_
                simp only [am_wp, am_stp, am_en, am_as, am_pad, am_nth, am_set, am_st1, am_st2, am_kl, am_kill, am_mem, am_fv, am_tk, am_wt, am_bk, Option.toList, List.cons_append, List.nil_append, Nat.reduceAdd, Nat.reduceEqDiff, Nat.reduceLeDiff, reduceIte, Nat.reduceLT, or_self, true_or, or_true, if_true, if_false, and_self, and_true, true_and, not_false_eq_true, not_true_eq_false, fd_Mo_isLaid_319, fd_Mo_isLaid_321, fd_Mo_isLaid_322, S1.all, n1]
                refine am_go [43] 2 ?_
                simp only [am_wp, am_stp, am_en, am_as, am_pad, am_nth, am_set, am_st1, am_st2, am_kl, am_kill, am_mem, am_fv, am_tk, am_wt, am_bk, Option.toList, List.cons_append, List.nil_append, Nat.reduceAdd, Nat.reduceEqDiff, Nat.reduceLeDiff, reduceIte, Nat.reduceLT, or_self, true_or, or_true, if_true, if_false, and_self, and_true, true_and, not_false_eq_true, not_true_eq_false, fd_Mo_isLaid_327, fd_Mo_isLaid_330, nI_1]
                have el' : (C ++ [(K, nI kd, val)]).length = C.length + 1 := by simp
                have := rx_il_loop (d := d) hS hp hB hn m (C ++ [(K, nI kd, val)]) (u + 10 - s + v) K (.int (nI s)) (.long K) (.retAddr 0) (.int (nI kd)) g1 (by rw [el']; omega) I1
                rw [el', hG, hE] at this
                exact this
              by_cases k2e : kd = 2
              · have z : (nI kd = 2) = True := eq_true (by rw [k2e]; rfl)
                refine am_go [309, 319] 3 ?_
                simp only [am_wp, am_stp, am_en, am_as, am_pad, am_nth, am_set, am_st1, am_st2, am_kl, am_kill, am_mem, am_fv, am_tk, am_wt, am_bk, Option.toList, List.cons_append, List.nil_append, Nat.reduceAdd, Nat.reduceEqDiff, Nat.reduceLeDiff, reduceIte, Nat.reduceLT, or_self, true_or, or_true, if_true, if_false, and_self, and_true, true_and, not_false_eq_true, not_true_eq_false, fd_Mo_isLaid_303, fd_Mo_isLaid_305, fd_Mo_isLaid_306, S1.all, z]
                have := nxt 0 0 (Or.inl ⟨k2e, rfl, rfl⟩) (by omega)
                rw [show 128 * pg + (u + 10 - s + 0) = A + 10 - s by omega] at this
                exact this
              · have z : ¬ nI kd = 2 := fun q => k2e (wnI_inj (b := 2) (by omega) (by decide) q)
                refine am_go [309, 319] 3 ?_
                simp only [am_wp, am_stp, am_en, am_as, am_pad, am_nth, am_set, am_st1, am_st2, am_kl, am_kill, am_mem, am_fv, am_tk, am_wt, am_bk, Option.toList, List.cons_append, List.nil_append, Nat.reduceAdd, Nat.reduceEqDiff, Nat.reduceLeDiff, reduceIte, Nat.reduceLT, or_self, true_or, or_true, if_true, if_false, and_self, and_true, true_and, not_false_eq_true, not_true_eq_false, fd_Mo_isLaid_303, fd_Mo_isLaid_305, fd_Mo_isLaid_306, S1.all, z]
                refine am_go [] 4 ?_
                simp only [am_wp, am_stp, am_en, am_as, am_pad, am_nth, am_set, am_st1, am_st2, am_kl, am_kill, am_mem, am_fv, am_tk, am_wt, am_bk, Option.toList, List.cons_append, List.nil_append, Nat.reduceAdd, Nat.reduceEqDiff, Nat.reduceLeDiff, reduceIte, Nat.reduceLT, or_self, true_or, or_true, if_true, if_false, and_self, and_true, true_and, not_false_eq_true, not_true_eq_false, fd_Mo_isLaid_309, fd_Mo_isLaid_310, fd_Mo_isLaid_312, fd_Mo_isLaid_314, S1.all]
                refine am_call (rx_bv (d := d) S1 (show E ≤ 131072 by omega) hz) (fun o g2 w => ?_)
                · obtain ⟨w, rfl⟩ := w
                  rcases w with rfl | ⟨q, w1, w2, w3, w4, w5, w6, rfl⟩
                  · simp only [am_wp, am_stp, am_en, am_as, am_pad, am_nth, am_set, am_st1, am_st2, am_kl, am_kill, am_mem, am_fv, am_tk, am_wt, am_bk, Option.toList, List.cons_append, List.nil_append, Nat.reduceAdd, Nat.reduceEqDiff, Nat.reduceLeDiff, reduceIte, Nat.reduceLT, or_self, true_or, or_true, if_true, if_false, and_self, and_true, true_and, not_false_eq_true, not_true_eq_false]
                    refine am_go [319] 1 ?_
                    simp only [am_wp, am_stp, am_en, am_as, am_pad, am_nth, am_set, am_st1, am_st2, am_kl, am_kill, am_mem, am_fv, am_tk, am_wt, am_bk, Option.toList, List.cons_append, List.nil_append, Nat.reduceAdd, Nat.reduceEqDiff, Nat.reduceLeDiff, reduceIte, Nat.reduceLT, or_self, true_or, or_true, if_true, if_false, and_self, and_true, true_and, not_false_eq_true, not_true_eq_false, fd_Mo_isLaid_317]
                    refine am_go [325, 327] 3 ?_
                    simp only [am_wp, am_stp, am_en, am_as, am_pad, am_nth, am_set, am_st1, am_st2, am_kl, am_kill, am_mem, am_fv, am_tk, am_wt, am_bk, Option.toList, List.cons_append, List.nil_append, Nat.reduceAdd, Nat.reduceEqDiff, Nat.reduceLeDiff, reduceIte, Nat.reduceLT, or_self, true_or, or_true, if_true, if_false, and_self, and_true, true_and, not_false_eq_true, not_true_eq_false, fd_Mo_isLaid_319, fd_Mo_isLaid_321, fd_Mo_isLaid_322, S1.all]
                    exact no _ _ _ _ _ _ _ 325 (by omega) F01
                  · simp only [am_wp, am_stp, am_en, am_as, am_pad, am_nth, am_set, am_st1, am_st2, am_kl, am_kill, am_mem, am_fv, am_tk, am_wt, am_bk, Option.toList, List.cons_append, List.nil_append, Nat.reduceAdd, Nat.reduceEqDiff, Nat.reduceLeDiff, reduceIte, Nat.reduceLT, or_self, true_or, or_true, if_true, if_false, and_self, and_true, true_and, not_false_eq_true, not_true_eq_false]
                    refine am_go [319] 1 ?_
                    simp only [am_wp, am_stp, am_en, am_as, am_pad, am_nth, am_set, am_st1, am_st2, am_kl, am_kill, am_mem, am_fv, am_tk, am_wt, am_bk, Option.toList, List.cons_append, List.nil_append, Nat.reduceAdd, Nat.reduceEqDiff, Nat.reduceLeDiff, reduceIte, Nat.reduceLT, or_self, true_or, or_true, if_true, if_false, and_self, and_true, true_and, not_false_eq_true, not_true_eq_false, fd_Mo_isLaid_317]
                    have eb : ∀ i, Bf h pg (u + 10 - s + i) = am_I g2 73 (A + 10 - s + i) := fun i => by
                      unfold Bf
                      rw [f73, show 128 * pg + (u + 10 - s + i) = A + 10 - s + i by omega]
                    obtain ⟨val, v1, v2⟩ := vlay (B := Bf h pg) (a := u + 10 - s) (m := q) (fun i _ => hB _) (fun i hi => by rw [eb]; exact w3 i hi) (by rw [eb]; exact w4) (by rw [eb]; exact w5) w2 (by rw [eb]; exact w6)
                    have := nxt (q + 1) val (Or.inr ⟨k2e, v1.symm, v2⟩) (by omega)
                    rw [show 128 * pg + (u + 10 - s + (q + 1)) = A + 10 - s + q + 1 by omega] at this
                    exact this
            -- the order
            have ord : (C ≠ [] → am_I g 106 s ≠ nI (x s)) → am_Ex nm_pr (d + 1) mt_Mo_isLaid (240, [.ref 72, .int (nI pg), .int bh, .long bf, .retAddr 0, .int (nI E), .int (nI A), .int (nI n), .long la, .retAddr 0, .int (nI C.length), .int (nI s), .long K, .retAddr 0, .int (nI 8)], [], g1) (il_Q h pg n bh bf) := fun k1 => by
              have cmp : am_Ex nm_pr (d + 1) mt_Mo_isLaid (249, [.ref 72, .int (nI pg), .int bh, .long bf, .retAddr 0, .int (nI E), .int (nI A), .int (nI n), .long la, .retAddr 0, .int (nI C.length), .int (nI s), .long K, .retAddr 0, .int (nI 8)], [], g1) (il_Q h pg n bh bf) := by
                refine am_go [257, 259] 4 ?_
                simp only [am_wp, am_stp, am_en, am_as, am_pad, am_nth, am_set, am_st1, am_st2, am_kl, am_kill, am_mem, am_fv, am_tk, am_wt, am_bk, Option.toList, List.cons_append, List.nil_append, Nat.reduceAdd, Nat.reduceEqDiff, Nat.reduceLeDiff, reduceIte, Nat.reduceLT, or_self, true_or, or_true, if_true, if_false, and_self, and_true, true_and, not_false_eq_true, not_true_eq_false, fd_Mo_isLaid_249, fd_Mo_isLaid_251, fd_Mo_isLaid_253, fd_Mo_isLaid_254]
                simp only [lc_gt]
                by_cases hlt : la < K
                · simp only [hlt, am_wp, am_stp, am_en, am_as, am_pad, am_nth, am_set, am_st1, am_st2, am_kl, am_kill, am_mem, am_fv, am_tk, am_wt, am_bk, Option.toList, List.cons_append, List.nil_append, Nat.reduceAdd, Nat.reduceEqDiff, Nat.reduceLeDiff, reduceIte, Nat.reduceLT, or_self, true_or, or_true, if_true, if_false, and_self, and_true, true_and, not_false_eq_true, not_true_eq_false]
                  exact good k1 (fun _ => hlt)
                · simp only [hlt, am_wp, am_stp, am_en, am_as, am_pad, am_nth, am_set, am_st1, am_st2, am_kl, am_kill, am_mem, am_fv, am_tk, am_wt, am_bk, Option.toList, List.cons_append, List.nil_append, Nat.reduceAdd, Nat.reduceEqDiff, Nat.reduceLeDiff, reduceIte, Nat.reduceLT, or_self, true_or, or_true, if_true, if_false, and_self, and_true, true_and, not_false_eq_true, not_true_eq_false]
                  exact no _ _ _ _ _ _ _ 257 (by omega) F01
              by_cases e : C = []
              · have z : ¬ 0 < nI C.length := by rw [e]; decide
                refine am_go [245, 249] 2 ?_
                simp only [am_wp, am_stp, am_en, am_as, am_pad, am_nth, am_set, am_st1, am_st2, am_kl, am_kill, am_mem, am_fv, am_tk, am_wt, am_bk, Option.toList, List.cons_append, List.nil_append, Nat.reduceAdd, Nat.reduceEqDiff, Nat.reduceLeDiff, reduceIte, Nat.reduceLT, or_self, true_or, or_true, if_true, if_false, and_self, and_true, true_and, not_false_eq_true, not_true_eq_false, fd_Mo_isLaid_240, fd_Mo_isLaid_242, S1.all, z]
                by_cases b0 : bh = 0
                · have zb : (bh = 0) = True := eq_true b0
                  refine am_go [249, 259] 2 ?_
                  simp only [am_wp, am_stp, am_en, am_as, am_pad, am_nth, am_set, am_st1, am_st2, am_kl, am_kill, am_mem, am_fv, am_tk, am_wt, am_bk, Option.toList, List.cons_append, List.nil_append, Nat.reduceAdd, Nat.reduceEqDiff, Nat.reduceLeDiff, reduceIte, Nat.reduceLT, or_self, true_or, or_true, if_true, if_false, and_self, and_true, true_and, not_false_eq_true, not_true_eq_false, fd_Mo_isLaid_245, fd_Mo_isLaid_246, S1.all, zb]
                  exact good k1 (fun q => by rcases q with q | q; exact absurd e q; exact absurd b0 q)
                · refine am_go [249, 259] 2 ?_
                  simp only [am_wp, am_stp, am_en, am_as, am_pad, am_nth, am_set, am_st1, am_st2, am_kl, am_kill, am_mem, am_fv, am_tk, am_wt, am_bk, Option.toList, List.cons_append, List.nil_append, Nat.reduceAdd, Nat.reduceEqDiff, Nat.reduceLeDiff, reduceIte, Nat.reduceLT, or_self, true_or, or_true, if_true, if_false, and_self, and_true, true_and, not_false_eq_true, not_true_eq_false, fd_Mo_isLaid_245, fd_Mo_isLaid_246, S1.all, b0]
                  exact cmp
              · have z : 0 < nI C.length := nI_gt0 (List.length_pos_iff.mpr e) (by omega)
                refine am_go [245, 249] 2 ?_
                simp only [am_wp, am_stp, am_en, am_as, am_pad, am_nth, am_set, am_st1, am_st2, am_kl, am_kill, am_mem, am_fv, am_tk, am_wt, am_bk, Option.toList, List.cons_append, List.nil_append, Nat.reduceAdd, Nat.reduceEqDiff, Nat.reduceLeDiff, reduceIte, Nat.reduceLT, or_self, true_or, or_true, if_true, if_false, and_self, and_true, true_and, not_false_eq_true, not_true_eq_false, fd_Mo_isLaid_240, fd_Mo_isLaid_242, S1.all, z]
                exact cmp
            by_cases e : C = []
            · have z : ¬ 0 < nI C.length := by rw [e]; decide
              refine am_go [223, 240] 2 ?_
              simp only [am_wp, am_stp, am_en, am_as, am_pad, am_nth, am_set, am_st1, am_st2, am_kl, am_kill, am_mem, am_fv, am_tk, am_wt, am_bk, Option.toList, List.cons_append, List.nil_append, Nat.reduceAdd, Nat.reduceEqDiff, Nat.reduceLeDiff, reduceIte, Nat.reduceLT, or_self, true_or, or_true, if_true, if_false, and_self, and_true, true_and, not_false_eq_true, not_true_eq_false, fd_Mo_isLaid_218, fd_Mo_isLaid_220, S1.all, z]
              exact ord (fun q => absurd e q)
            · have z : 0 < nI C.length := nI_gt0 (List.length_pos_iff.mpr e) (by omega)
              refine am_go [223, 240] 2 ?_
              simp only [am_wp, am_stp, am_en, am_as, am_pad, am_nth, am_set, am_st1, am_st2, am_kl, am_kill, am_mem, am_fv, am_tk, am_wt, am_bk, Option.toList, List.cons_append, List.nil_append, Nat.reduceAdd, Nat.reduceEqDiff, Nat.reduceLeDiff, reduceIte, Nat.reduceLT, or_self, true_or, or_true, if_true, if_false, and_self, and_true, true_and, not_false_eq_true, not_true_eq_false, fd_Mo_isLaid_218, fd_Mo_isLaid_220, S1.all, z]
              by_cases q : nI (x s) = am_I g 106 s
              · have q' : (nI (x s) = am_I g 106 s) = True := eq_true q
                refine am_go [240, 257] 9 ?_
                simp only [am_wp, am_stp, am_en, am_as, am_pad, am_nth, am_set, am_st1, am_st2, am_kl, am_kill, am_mem, am_fv, am_tk, am_wt, am_bk, Option.toList, List.cons_append, List.nil_append, Nat.reduceAdd, Nat.reduceEqDiff, Nat.reduceLeDiff, reduceIte, Nat.reduceLT, or_self, true_or, or_true, if_true, if_false, and_self, and_true, true_and, not_false_eq_true, not_true_eq_false, fd_Mo_isLaid_223, fd_Mo_isLaid_224, fd_Mo_isLaid_227, fd_Mo_isLaid_229, fd_Mo_isLaid_230, fd_Mo_isLaid_231, fd_Mo_isLaid_234, fd_Mo_isLaid_236, fd_Mo_isLaid_237, S1.all, is, qs, v106 s (by omega), v107 s (by omega), q']
                exact no _ _ _ _ _ _ _ 257 (by omega) F01
              · refine am_go [240, 257] 9 ?_
                simp only [am_wp, am_stp, am_en, am_as, am_pad, am_nth, am_set, am_st1, am_st2, am_kl, am_kill, am_mem, am_fv, am_tk, am_wt, am_bk, Option.toList, List.cons_append, List.nil_append, Nat.reduceAdd, Nat.reduceEqDiff, Nat.reduceLeDiff, reduceIte, Nat.reduceLT, or_self, true_or, or_true, if_true, if_false, and_self, and_true, true_and, not_false_eq_true, not_true_eq_false, fd_Mo_isLaid_223, fd_Mo_isLaid_224, fd_Mo_isLaid_227, fd_Mo_isLaid_229, fd_Mo_isLaid_230, fd_Mo_isLaid_231, fd_Mo_isLaid_234, fd_Mo_isLaid_236, fd_Mo_isLaid_237, S1.all, is, qs, v106 s (by omega), v107 s (by omega), q]
                exact ord (fun _ z => q z.symm)
          · have lz : nI E < nI (A + 10 - s) := nI_lt (by omega) (by omega)
            refine am_go [105, 107] 7 ?_
            simp only [am_wp, am_stp, am_en, am_as, am_pad, am_nth, am_set, am_st1, am_st2, am_kl, am_kill, am_mem, am_fv, am_tk, am_wt, am_bk, Option.toList, List.cons_append, List.nil_append, Nat.reduceAdd, Nat.reduceEqDiff, Nat.reduceLeDiff, reduceIte, Nat.reduceLT, or_self, true_or, or_true, if_true, if_false, and_self, and_true, true_and, not_false_eq_true, not_true_eq_false, fd_Mo_isLaid_92, fd_Mo_isLaid_94, fd_Mo_isLaid_96, fd_Mo_isLaid_97, fd_Mo_isLaid_99, fd_Mo_isLaid_100, fd_Mo_isLaid_102, e10, es', lz]
            exact no _ _ _ _ _ _ _ 105 (by omega) i1
        by_cases e : C = []
        · have z : (nI C.length = 0) = True := eq_true (c0.mpr e)
          refine am_go [87, 92] 2 ?_
          simp only [am_wp, am_stp, am_en, am_as, am_pad, am_nth, am_set, am_st1, am_st2, am_kl, am_kill, am_mem, am_fv, am_tk, am_wt, am_bk, Option.toList, List.cons_append, List.nil_append, Nat.reduceAdd, Nat.reduceEqDiff, Nat.reduceLeDiff, reduceIte, Nat.reduceLT, or_self, true_or, or_true, if_true, if_false, and_self, and_true, true_and, not_false_eq_true, not_true_eq_false, fd_Mo_isLaid_82, fd_Mo_isLaid_84, S.all, z]
          by_cases s0 : s = 0
          · have ls : ¬ 0 < nI s := by rw [s0]; decide
            refine am_go [92, 105] 2 ?_
            simp only [am_wp, am_stp, am_en, am_as, am_pad, am_nth, am_set, am_st1, am_st2, am_kl, am_kill, am_mem, am_fv, am_tk, am_wt, am_bk, Option.toList, List.cons_append, List.nil_append, Nat.reduceAdd, Nat.reduceEqDiff, Nat.reduceLeDiff, reduceIte, Nat.reduceLT, or_self, true_or, or_true, if_true, if_false, and_self, and_true, true_and, not_false_eq_true, not_true_eq_false, fd_Mo_isLaid_87, fd_Mo_isLaid_89, S.all, ls]
            exact size (fun _ => s0)
          · have ls : 0 < nI s := nI_gt0 (by omega) (by omega)
            refine am_go [92, 105] 2 ?_
            simp only [am_wp, am_stp, am_en, am_as, am_pad, am_nth, am_set, am_st1, am_st2, am_kl, am_kill, am_mem, am_fv, am_tk, am_wt, am_bk, Option.toList, List.cons_append, List.nil_append, Nat.reduceAdd, Nat.reduceEqDiff, Nat.reduceLeDiff, reduceIte, Nat.reduceLT, or_self, true_or, or_true, if_true, if_false, and_self, and_true, true_and, not_false_eq_true, not_true_eq_false, fd_Mo_isLaid_87, fd_Mo_isLaid_89, S.all, ls]
            exact no _ _ _ _ _ _ _ 105 (by omega) i1
        · have z : ¬ nI C.length = 0 := fun q => e (c0.mp q)
          refine am_go [87, 92] 2 ?_
          simp only [am_wp, am_stp, am_en, am_as, am_pad, am_nth, am_set, am_st1, am_st2, am_kl, am_kill, am_mem, am_fv, am_tk, am_wt, am_bk, Option.toList, List.cons_append, List.nil_append, Nat.reduceAdd, Nat.reduceEqDiff, Nat.reduceLeDiff, reduceIte, Nat.reduceLT, or_self, true_or, or_true, if_true, if_false, and_self, and_true, true_and, not_false_eq_true, not_true_eq_false, fd_Mo_isLaid_82, fd_Mo_isLaid_84, S.all, z]
          exact size (fun q => absurd q e)
      · have l7 : 7 < nI s := nI_lt (a := 7) (by omega) (by omega)
        refine am_go [82, 105] 3 ?_
        simp only [am_wp, am_stp, am_en, am_as, am_pad, am_nth, am_set, am_st1, am_st2, am_kl, am_kill, am_mem, am_fv, am_tk, am_wt, am_bk, Option.toList, List.cons_append, List.nil_append, Nat.reduceAdd, Nat.reduceEqDiff, Nat.reduceLeDiff, reduceIte, Nat.reduceLT, or_self, true_or, or_true, if_true, if_false, and_self, and_true, true_and, not_false_eq_true, not_true_eq_false, fd_Mo_isLaid_75, fd_Mo_isLaid_77, fd_Mo_isLaid_79, S.all, l7]
        exact no _ _ _ _ _ _ _ 105 (by omega) i1
    · have l2 : ¬ nI (128 * pg + u) < nI (128 * pg + 120) := nI_nlt (by omega) (by omega)
      have l7 : (7 : Int32) < 8 := by decide
      generalize hA : 128 * pg + u = A at *
      generalize hE : 128 * pg + 120 = E at *
      refine am_go [57, 71] 3 ?_
      simp only [am_wp, am_stp, am_en, am_as, am_pad, am_nth, am_set, am_st1, am_st2, am_kl, am_kill, am_mem, am_fv, am_tk, am_wt, am_bk, Option.toList, List.cons_append, List.nil_append, Nat.reduceAdd, Nat.reduceEqDiff, Nat.reduceLeDiff, reduceIte, Nat.reduceLT, or_self, true_or, or_true, if_true, if_false, and_self, and_true, true_and, not_false_eq_true, not_true_eq_false, fd_Mo_isLaid_50, fd_Mo_isLaid_52, fd_Mo_isLaid_54, S.all, l2]
      refine am_go [75] 2 ?_
      simp only [am_wp, am_stp, am_en, am_as, am_pad, am_nth, am_set, am_st1, am_st2, am_kl, am_kill, am_mem, am_fv, am_tk, am_wt, am_bk, Option.toList, List.cons_append, List.nil_append, Nat.reduceAdd, Nat.reduceEqDiff, Nat.reduceLeDiff, reduceIte, Nat.reduceLT, or_self, true_or, or_true, if_true, if_false, and_self, and_true, true_and, not_false_eq_true, not_true_eq_false, fd_Mo_isLaid_71, fd_Mo_isLaid_73]
      refine am_go [82, 105] 3 ?_
      simp only [am_wp, am_stp, am_en, am_as, am_pad, am_nth, am_set, am_st1, am_st2, am_kl, am_kill, am_mem, am_fv, am_tk, am_wt, am_bk, Option.toList, List.cons_append, List.nil_append, Nat.reduceAdd, Nat.reduceEqDiff, Nat.reduceLeDiff, reduceIte, Nat.reduceLT, or_self, true_or, or_true, if_true, if_false, and_self, and_true, true_and, not_false_eq_true, not_true_eq_false, fd_Mo_isLaid_75, fd_Mo_isLaid_77, fd_Mo_isLaid_79, S.all, l7]
      exact no _ _ _ _ _ _ _ 105 (by omega) i1
