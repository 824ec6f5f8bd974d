/-! THE REFERENCE OPENS, 3: values and keys out of octets -/
theorem oc_u {x : Int32} (hx : am_b8 x = x) : ∃ u, u < 256 ∧ x &&& 255 = nI u ∧ x = am_b8 (nI u) ∧ (x < 0 ↔ 128 ≤ u) := by
  obtain ⟨u, hu, eu⟩ := wand255 x
  have e2 : x = am_b8 (nI u) := by
    rw [← eu, b8_of]
    exact hx.symm
  have : ∀ u : Fin 256, am_b8 (nI u.1) < 0 ↔ 128 ≤ u.1 := by decide +kernel
  exact ⟨u, hu, eu, e2, by rw [e2]; exact this ⟨u, hu⟩⟩
theorem oc_small {u : Nat} (hu : u < 128) : am_b8 (nI u) = nI u := by
  have : ∀ u : Fin 128, am_b8 (nI u.1) = nI u.1 := by decide +kernel
  exact this ⟨u, hu⟩
theorem vlay {B : Nat → Int32} {a m : Nat} (hb : ∀ i, i ≤ m → am_b8 (B (a + i)) = B (a + i)) (hneg : ∀ i, i < m → B (a + i) < 0) (hpos : ¬ B (a + m) < 0) (h1 : m = 0 ∨ 0 < B (a + m)) (h9 : m ≤ 9) (h91 : m = 9 → B (a + m) = 1) : ∃ v : Int64, vs (zf v) = m + 1 ∧ ∀ i, i < m + 1 → B (a + i) = am_b8 (nI (vb (zN (zf v)) (m + 1) i)) := by
  have hu : ∀ i, ∃ u, i ≤ m → (u < 256 ∧ B (a + i) &&& 255 = nI u ∧ B (a + i) = am_b8 (nI u) ∧ (B (a + i) < 0 ↔ 128 ≤ u)) := fun i => by
    by_cases e : i ≤ m
    · obtain ⟨u, q⟩ := oc_u (hb i e)
      exact ⟨u, fun _ => q⟩
    · exact ⟨0, fun q => absurd q e⟩
  obtain ⟨u, hu⟩ : ∃ u : Nat → Nat, ∀ i, i ≤ m → (u i < 256 ∧ B (a + i) &&& 255 = nI (u i) ∧ B (a + i) = am_b8 (nI (u i)) ∧ (B (a + i) < 0 ↔ 128 ≤ u i)) := ⟨fun i => Classical.choose (hu i), fun i => Classical.choose_spec (hu i)⟩
  have um : u m < 128 := by
    have := (hu m (Nat.le_refl _)).2.2.2
    rcases Nat.lt_or_ge (u m) 128 with q | q
    · exact q
    · exact absurd (this.mpr q) hpos
  have bm : B (a + m) = nI (u m) := by rw [(hu m (Nat.le_refl _)).2.2.1, oc_small um]
  have hy : ∀ i, i < m + 1 → u i % 128 < 128 := fun i _ => Nat.mod_lt _ (by decide)
  have hlt := dg_lt (B := 128) (y := fun i => u i % 128) (by decide) (m + 1) hy
  have hN : dg 128 (fun i => u i % 128) (m + 1) < 2 ^ 64 := by
    by_cases e9 : m = 9
    · subst e9
      have h1' : u 9 = 1 := by
        have := h91 rfl
        rw [bm] at this
        exact wnI_inj (b := 1) (by omega) (by decide) this
      have := dg_lt (B := 128) (y := fun i => u i % 128) (by decide) 9 (fun i hi => hy i (by omega))
      generalize hD : dg 128 (fun i => u i % 128) 9 = D at this
      show dg 128 (fun i => u i % 128) 9 + u 9 % 128 * 128 ^ 9 < 2 ^ 64
      rw [hD, h1']
      have e : (128 : Nat) ^ 9 = 2 ^ 63 := by decide
      rw [e] at this ⊢
      omega
    · have : (128 : Nat) ^ (m + 1) ≤ 128 ^ 9 := Nat.pow_le_pow_right (by decide) (by omega)
      have e : (128 : Nat) ^ 9 = 2 ^ 63 := by decide
      omega
  obtain ⟨v, hv⟩ := zf_sur (Int64.ofNat (dg 128 (fun i => u i % 128) (m + 1)))
  have zn : zN (zf v) = dg 128 (fun i => u i % 128) (m + 1) := by rw [hv, zN_of hN]
  have dig : ∀ i, i < m + 1 → zN (zf v) / 128 ^ i % 128 = u i % 128 := fun i hi => by
    rw [zn]
    exact dg_at (B := 128) (y := fun i => u i % 128) (by decide) (m + 1) i hi hy
  have top : zN (zf v) / 128 ^ (m + 1) = 0 := by rw [zn]; exact Nat.div_eq_of_lt hlt
  have hvs : vs (zf v) = m + 1 := by
    obtain ⟨v1, v2⟩ := vs_le (zf v)
    have v0 := vs_0 (zf v)
    rcases Nat.lt_trichotomy (vs (zf v)) (m + 1) with q | q | q
    · exfalso
      have hm : 0 < m := by omega
      have um0 : 0 < u m := by
        rcases h1 with z | z
        · omega
        · rw [bm] at z
          rcases Nat.eq_zero_or_pos (u m) with y | y
          · rw [y] at z; exact absurd z (by decide)
          · exact y
      have dm := dig m (by omega)
      rw [Nat.mod_eq_of_lt um] at dm
      have : zN (zf v) / 128 ^ m = 0 := by
        have e : (128 : Nat) ^ m = 128 ^ vs (zf v) * 128 ^ (m - vs (zf v)) := by rw [← Nat.pow_add]; congr 1; omega
        rw [e, ← Nat.div_div_eq_div_mul, v0, Nat.zero_div]
      rw [this] at dm
      omega
    · exact q
    · exfalso
      exact vz_n (zN (zf v)) 9 1 (m + 1) (by omega) q top
  refine ⟨v, hvs, fun i hi => ?_⟩
  obtain ⟨u1, -, u3, u4⟩ := hu i (by omega)
  have : vb (zN (zf v)) (m + 1) i = u i := by
    unfold vb
    rw [dig i hi]
    by_cases e : i < m
    · rw [if_pos (by omega)]
      have := u4.mp (hneg i e)
      omega
    · rw [if_neg (by omega)]
      have : i = m := by omega
      subst this
      omega
  rw [this]
  exact u3
theorem rx_bv_loop {d f e : Nat} {h : am_H} (hS : mo_Sk h) (he : e ≤ 131072) (hf : f ≤ e) : ∀ (r m : Nat) (w4 w5 : Value), r + m = 9 → (∀ i, i < m → am_I h 73 (f + i) < 0 ∧ f + i < e) →
    am_Ex nm_pr d mt_Mo_behindValue (2, [.ref 72, .int (nI f), .int (nI e), .int (nI m), w4, w5], [], h) (fun o h' => (o = .inl (some (.int (-1))) ∨ ∃ m, f + m < e ∧ m ≤ 9 ∧ (∀ i, i < m → am_I h 73 (f + i) < 0) ∧ ¬ am_I h 73 (f + m) < 0 ∧ (m = 0 ∨ 0 < am_I h 73 (f + m)) ∧ (m = 9 → am_I h 73 (f + m) = 1) ∧ o = .inl (some (.int (nI (f + m + 1))))) ∧ h' = h)
  | r, m, w4, w5, hr, hb => by
    have no : ∀ x : Int32, am_Ex nm_pr d mt_Mo_behindValue (83, [.ref 72, .int (nI f), .int (nI e), .int (nI m), .int x, w5], [], h) (fun o h' => (o = .inl (some (.int (-1))) ∨ ∃ m, f + m < e ∧ m ≤ 9 ∧ (∀ i, i < m → am_I h 73 (f + i) < 0) ∧ ¬ am_I h 73 (f + m) < 0 ∧ (m = 0 ∨ 0 < am_I h 73 (f + m)) ∧ (m = 9 → am_I h 73 (f + m) = 1) ∧ o = .inl (some (.int (nI (f + m + 1))))) ∧ h' = h) := fun x => by
      refine am_go [91, 99] 4 ?_
      simp only [am_wp, am_stp, am_en, am_as, am_pad, am_nth, am_set, am_st1, am_st2, am_kl, am_kill, am_mem, am_fv, am_tk, am_wt, am_bk, Option.toList, List.cons_append, List.nil_append, Nat.reduceAdd, Nat.reduceEqDiff, Nat.reduceLeDiff, reduceIte, Nat.reduceLT, or_self, true_or, or_true, if_true, if_false, and_self, and_true, true_and, not_false_eq_true, not_true_eq_false, fd_Mo_behindValue_83, fd_Mo_behindValue_84, fd_Mo_behindValue_86, fd_Mo_behindValue_88]
      refine am_go [] 2 ?_
      simp only [am_wp, am_stp, am_en, am_as, am_pad, am_nth, am_set, am_st1, am_st2, am_kl, am_kill, am_mem, am_fv, am_tk, am_wt, am_bk, Option.toList, List.cons_append, List.nil_append, Nat.reduceAdd, Nat.reduceEqDiff, Nat.reduceLeDiff, reduceIte, Nat.reduceLT, or_self, true_or, or_true, if_true, if_false, and_self, and_true, true_and, not_false_eq_true, not_true_eq_false, fd_Mo_behindValue_99, fd_Mo_behindValue_100, hS.all]
    -- behind the octets that go on
    have out : (¬ f + m < e ∨ m = 9 ∨ ¬ am_I h 73 (f + m) < 0) → am_Ex nm_pr d mt_Mo_behindValue (32, [.ref 72, .int (nI f), .int (nI e), .int (nI m), w4, w5], [], h) (fun o h' => (o = .inl (some (.int (-1))) ∨ ∃ m, f + m < e ∧ m ≤ 9 ∧ (∀ i, i < m → am_I h 73 (f + i) < 0) ∧ ¬ am_I h 73 (f + m) < 0 ∧ (m = 0 ∨ 0 < am_I h 73 (f + m)) ∧ (m = 9 → am_I h 73 (f + m) = 1) ∧ o = .inl (some (.int (nI (f + m + 1))))) ∧ h' = h) := fun _ => by
      by_cases hl : f + m < e
      · have l1 : nI (f + m) < nI e := nI_lt hl (by omega)
        have i1 := am_inb (c := f + m) (N := 131072) (by omega) (by omega)
        have q1 : (nI (f + m)).toNatClampNeg = f + m := nI_clamp (by omega)
        refine am_go [39, 50] 5 ?_
        simp only [am_wp, am_stp, am_en, am_as, am_pad, am_nth, am_set, am_st1, am_st2, am_kl, am_kill, am_mem, am_fv, am_tk, am_wt, am_bk, Option.toList, List.cons_append, List.nil_append, Nat.reduceAdd, Nat.reduceEqDiff, Nat.reduceLeDiff, reduceIte, Nat.reduceLT, or_self, true_or, or_true, if_true, if_false, and_self, and_true, true_and, not_false_eq_true, not_true_eq_false, fd_Mo_behindValue_32, fd_Mo_behindValue_33, fd_Mo_behindValue_34, fd_Mo_behindValue_35, fd_Mo_behindValue_36, nI_add, l1]
        refine am_go [] 8 ?_
        simp only [am_wp, am_stp, am_en, am_as, am_pad, am_nth, am_set, am_st1, am_st2, am_kl, am_kill, am_mem, am_fv, am_tk, am_wt, am_bk, Option.toList, List.cons_append, List.nil_append, Nat.reduceAdd, Nat.reduceEqDiff, Nat.reduceLeDiff, reduceIte, Nat.reduceLT, or_self, true_or, or_true, if_true, if_false, and_self, and_true, true_and, not_false_eq_true, not_true_eq_false, fd_Mo_behindValue_39, fd_Mo_behindValue_40, fd_Mo_behindValue_43, fd_Mo_behindValue_44, fd_Mo_behindValue_45, fd_Mo_behindValue_46, fd_Mo_behindValue_47, fd_Mo_behindValue_51, hS.all, nI_add, i1, q1]
        generalize hx : am_I h 73 (f + m) = x at *
        by_cases x0 : x < 0
        · refine am_go [58, 83] 2 ?_
          simp only [am_wp, am_stp, am_en, am_as, am_pad, am_nth, am_set, am_st1, am_st2, am_kl, am_kill, am_mem, am_fv, am_tk, am_wt, am_bk, Option.toList, List.cons_append, List.nil_append, Nat.reduceAdd, Nat.reduceEqDiff, Nat.reduceLeDiff, reduceIte, Nat.reduceLT, or_self, true_or, or_true, if_true, if_false, and_self, and_true, true_and, not_false_eq_true, not_true_eq_false, fd_Mo_behindValue_53, fd_Mo_behindValue_55, hS.all, x0]
          exact no _
        refine am_go [58, 83] 2 ?_
        simp only [am_wp, am_stp, am_en, am_as, am_pad, am_nth, am_set, am_st1, am_st2, am_kl, am_kill, am_mem, am_fv, am_tk, am_wt, am_bk, Option.toList, List.cons_append, List.nil_append, Nat.reduceAdd, Nat.reduceEqDiff, Nat.reduceLeDiff, reduceIte, Nat.reduceLT, or_self, true_or, or_true, if_true, if_false, and_self, and_true, true_and, not_false_eq_true, not_true_eq_false, fd_Mo_behindValue_53, fd_Mo_behindValue_55, hS.all, x0]
        have yes : (m = 0 ∨ 0 < x) → (m = 9 → x = 1) → am_Ex nm_pr d mt_Mo_behindValue (79, [.ref 72, .int (nI f), .int (nI e), .int (nI m), .int x, w5], [], h) (fun o h' => (o = .inl (some (.int (-1))) ∨ ∃ m, f + m < e ∧ m ≤ 9 ∧ (∀ i, i < m → am_I h 73 (f + i) < 0) ∧ ¬ am_I h 73 (f + m) < 0 ∧ (m = 0 ∨ 0 < am_I h 73 (f + m)) ∧ (m = 9 → am_I h 73 (f + m) = 1) ∧ o = .inl (some (.int (nI (f + m + 1))))) ∧ h' = h) := fun k1 k2 => by
          have one0 : ¬ (1 : Int32) = 0 := by decide
          refine am_go [91, 99] 5 ?_
          simp only [am_wp, am_stp, am_en, am_as, am_pad, am_nth, am_set, am_st1, am_st2, am_kl, am_kill, am_mem, am_fv, am_tk, am_wt, am_bk, Option.toList, List.cons_append, List.nil_append, Nat.reduceAdd, Nat.reduceEqDiff, Nat.reduceLeDiff, reduceIte, Nat.reduceLT, or_self, true_or, or_true, if_true, if_false, and_self, and_true, true_and, not_false_eq_true, not_true_eq_false, fd_Mo_behindValue_79, fd_Mo_behindValue_80, fd_Mo_behindValue_84, fd_Mo_behindValue_86, fd_Mo_behindValue_88, one0]
          refine am_go [] 7 ?_
          simp only [am_wp, am_stp, am_en, am_as, am_pad, am_nth, am_set, am_st1, am_st2, am_kl, am_kill, am_mem, am_fv, am_tk, am_wt, am_bk, Option.toList, List.cons_append, List.nil_append, Nat.reduceAdd, Nat.reduceEqDiff, Nat.reduceLeDiff, reduceIte, Nat.reduceLT, or_self, true_or, or_true, if_true, if_false, and_self, and_true, true_and, not_false_eq_true, not_true_eq_false, fd_Mo_behindValue_91, fd_Mo_behindValue_92, fd_Mo_behindValue_93, fd_Mo_behindValue_94, fd_Mo_behindValue_95, fd_Mo_behindValue_96, fd_Mo_behindValue_100, nI_add, nI_1]
          exact Or.inr ⟨m, hl, by omega, fun i hi => (hb i hi).1, by rw [hx]; exact x0, by rw [hx]; exact k1, by rw [hx]; exact k2, rfl⟩
        have nine : (m = 0 ∨ 0 < x) → am_Ex nm_pr d mt_Mo_behindValue (67, [.ref 72, .int (nI f), .int (nI e), .int (nI m), .int x, w5], [], h) (fun o h' => (o = .inl (some (.int (-1))) ∨ ∃ m, f + m < e ∧ m ≤ 9 ∧ (∀ i, i < m → am_I h 73 (f + i) < 0) ∧ ¬ am_I h 73 (f + m) < 0 ∧ (m = 0 ∨ 0 < am_I h 73 (f + m)) ∧ (m = 9 → am_I h 73 (f + m) = 1) ∧ o = .inl (some (.int (nI (f + m + 1))))) ∧ h' = h) := fun k1 => by
          by_cases m9 : m < 9
          · have l9 : nI m < 9 := nI_lt (b := 9) m9 (by decide)
            refine am_go [73, 79] 3 ?_
            simp only [am_wp, am_stp, am_en, am_as, am_pad, am_nth, am_set, am_st1, am_st2, am_kl, am_kill, am_mem, am_fv, am_tk, am_wt, am_bk, Option.toList, List.cons_append, List.nil_append, Nat.reduceAdd, Nat.reduceEqDiff, Nat.reduceLeDiff, reduceIte, Nat.reduceLT, or_self, true_or, or_true, if_true, if_false, and_self, and_true, true_and, not_false_eq_true, not_true_eq_false, fd_Mo_behindValue_67, fd_Mo_behindValue_68, fd_Mo_behindValue_70, hS.all, l9]
            exact yes k1 (fun z => by omega)
          · have l9 : ¬ nI m < 9 := nI_nlt (b := 9) (by omega) (by omega)
            refine am_go [73, 79] 3 ?_
            simp only [am_wp, am_stp, am_en, am_as, am_pad, am_nth, am_set, am_st1, am_st2, am_kl, am_kill, am_mem, am_fv, am_tk, am_wt, am_bk, Option.toList, List.cons_append, List.nil_append, Nat.reduceAdd, Nat.reduceEqDiff, Nat.reduceLeDiff, reduceIte, Nat.reduceLT, or_self, true_or, or_true, if_true, if_false, and_self, and_true, true_and, not_false_eq_true, not_true_eq_false, fd_Mo_behindValue_67, fd_Mo_behindValue_68, fd_Mo_behindValue_70, hS.all, l9]
            by_cases x1 : x = 1
            · have x1' : (x = 1) = True := eq_true x1
              refine am_go [79, 83] 3 ?_
              simp only [am_wp, am_stp, am_en, am_as, am_pad, am_nth, am_set, am_st1, am_st2, am_kl, am_kill, am_mem, am_fv, am_tk, am_wt, am_bk, Option.toList, List.cons_append, List.nil_append, Nat.reduceAdd, Nat.reduceEqDiff, Nat.reduceLeDiff, reduceIte, Nat.reduceLT, or_self, true_or, or_true, if_true, if_false, and_self, and_true, true_and, not_false_eq_true, not_true_eq_false, fd_Mo_behindValue_73, fd_Mo_behindValue_75, fd_Mo_behindValue_76, hS.all, x1']
              exact yes k1 (fun _ => x1)
            · refine am_go [79, 83] 3 ?_
              simp only [am_wp, am_stp, am_en, am_as, am_pad, am_nth, am_set, am_st1, am_st2, am_kl, am_kill, am_mem, am_fv, am_tk, am_wt, am_bk, Option.toList, List.cons_append, List.nil_append, Nat.reduceAdd, Nat.reduceEqDiff, Nat.reduceLeDiff, reduceIte, Nat.reduceLT, or_self, true_or, or_true, if_true, if_false, and_self, and_true, true_and, not_false_eq_true, not_true_eq_false, fd_Mo_behindValue_73, fd_Mo_behindValue_75, fd_Mo_behindValue_76, hS.all, x1]
              exact no _
        by_cases m0 : m = 0
        · have z : (nI m = 0) = True := eq_true (by rw [m0]; rfl)
          refine am_go [62, 67] 2 ?_
          simp only [am_wp, am_stp, am_en, am_as, am_pad, am_nth, am_set, am_st1, am_st2, am_kl, am_kill, am_mem, am_fv, am_tk, am_wt, am_bk, Option.toList, List.cons_append, List.nil_append, Nat.reduceAdd, Nat.reduceEqDiff, Nat.reduceLeDiff, reduceIte, Nat.reduceLT, or_self, true_or, or_true, if_true, if_false, and_self, and_true, true_and, not_false_eq_true, not_true_eq_false, fd_Mo_behindValue_58, fd_Mo_behindValue_59, hS.all, z]
          exact nine (Or.inl m0)
        · have z : ¬ nI m = 0 := nI_ne0 (by omega) (by omega)
          refine am_go [62, 67] 2 ?_
          simp only [am_wp, am_stp, am_en, am_as, am_pad, am_nth, am_set, am_st1, am_st2, am_kl, am_kill, am_mem, am_fv, am_tk, am_wt, am_bk, Option.toList, List.cons_append, List.nil_append, Nat.reduceAdd, Nat.reduceEqDiff, Nat.reduceLeDiff, reduceIte, Nat.reduceLT, or_self, true_or, or_true, if_true, if_false, and_self, and_true, true_and, not_false_eq_true, not_true_eq_false, fd_Mo_behindValue_58, fd_Mo_behindValue_59, hS.all, z]
          by_cases xp : 0 < x
          · refine am_go [67, 83] 2 ?_
            simp only [am_wp, am_stp, am_en, am_as, am_pad, am_nth, am_set, am_st1, am_st2, am_kl, am_kill, am_mem, am_fv, am_tk, am_wt, am_bk, Option.toList, List.cons_append, List.nil_append, Nat.reduceAdd, Nat.reduceEqDiff, Nat.reduceLeDiff, reduceIte, Nat.reduceLT, or_self, true_or, or_true, if_true, if_false, and_self, and_true, true_and, not_false_eq_true, not_true_eq_false, fd_Mo_behindValue_62, fd_Mo_behindValue_64, hS.all, xp]
            exact nine (Or.inr xp)
          · refine am_go [67, 83] 2 ?_
            simp only [am_wp, am_stp, am_en, am_as, am_pad, am_nth, am_set, am_st1, am_st2, am_kl, am_kill, am_mem, am_fv, am_tk, am_wt, am_bk, Option.toList, List.cons_append, List.nil_append, Nat.reduceAdd, Nat.reduceEqDiff, Nat.reduceLeDiff, reduceIte, Nat.reduceLT, or_self, true_or, or_true, if_true, if_false, and_self, and_true, true_and, not_false_eq_true, not_true_eq_false, fd_Mo_behindValue_62, fd_Mo_behindValue_64, hS.all, xp]
            exact no _
      · have l1 : ¬ nI (f + m) < nI e := nI_nlt (by omega) (by omega)
        have n1 : (-1 : Int32) < 0 := by decide
        refine am_go [39, 50] 5 ?_
        simp only [am_wp, am_stp, am_en, am_as, am_pad, am_nth, am_set, am_st1, am_st2, am_kl, am_kill, am_mem, am_fv, am_tk, am_wt, am_bk, Option.toList, List.cons_append, List.nil_append, Nat.reduceAdd, Nat.reduceEqDiff, Nat.reduceLeDiff, reduceIte, Nat.reduceLT, or_self, true_or, or_true, if_true, if_false, and_self, and_true, true_and, not_false_eq_true, not_true_eq_false, fd_Mo_behindValue_32, fd_Mo_behindValue_33, fd_Mo_behindValue_34, fd_Mo_behindValue_35, fd_Mo_behindValue_36, nI_add, l1]
        refine am_go [] 2 ?_
        simp only [am_wp, am_stp, am_en, am_as, am_pad, am_nth, am_set, am_st1, am_st2, am_kl, am_kill, am_mem, am_fv, am_tk, am_wt, am_bk, Option.toList, List.cons_append, List.nil_append, Nat.reduceAdd, Nat.reduceEqDiff, Nat.reduceLeDiff, reduceIte, Nat.reduceLT, or_self, true_or, or_true, if_true, if_false, and_self, and_true, true_and, not_false_eq_true, not_true_eq_false, fd_Mo_behindValue_50, fd_Mo_behindValue_51]
        refine am_go [58, 83] 2 ?_
        simp only [am_wp, am_stp, am_en, am_as, am_pad, am_nth, am_set, am_st1, am_st2, am_kl, am_kill, am_mem, am_fv, am_tk, am_wt, am_bk, Option.toList, List.cons_append, List.nil_append, Nat.reduceAdd, Nat.reduceEqDiff, Nat.reduceLeDiff, reduceIte, Nat.reduceLT, or_self, true_or, or_true, if_true, if_false, and_self, and_true, true_and, not_false_eq_true, not_true_eq_false, fd_Mo_behindValue_53, fd_Mo_behindValue_55, hS.all, n1]
        exact no _
    by_cases hl : f + m < e
    · have l1 : nI (f + m) < nI e := nI_lt hl (by omega)
      have i1 := am_inb (c := f + m) (N := 131072) (by omega) (by omega)
      have q1 : (nI (f + m)).toNatClampNeg = f + m := nI_clamp (by omega)
      refine am_go [9, 32] 5 ?_
      simp only [am_wp, am_stp, am_en, am_as, am_pad, am_nth, am_set, am_st1, am_st2, am_kl, am_kill, am_mem, am_fv, am_tk, am_wt, am_bk, Option.toList, List.cons_append, List.nil_append, Nat.reduceAdd, Nat.reduceEqDiff, Nat.reduceLeDiff, reduceIte, Nat.reduceLT, or_self, true_or, or_true, if_true, if_false, and_self, and_true, true_and, not_false_eq_true, not_true_eq_false, fd_Mo_behindValue_2, fd_Mo_behindValue_3, fd_Mo_behindValue_4, fd_Mo_behindValue_5, fd_Mo_behindValue_6, nI_add, l1]
      cases r with
      | zero =>
        have e9 : m = 9 := by omega
        have l9 : ¬ nI m < 9 := by rw [e9]; decide
        refine am_go [15, 32] 3 ?_
        simp only [am_wp, am_stp, am_en, am_as, am_pad, am_nth, am_set, am_st1, am_st2, am_kl, am_kill, am_mem, am_fv, am_tk, am_wt, am_bk, Option.toList, List.cons_append, List.nil_append, Nat.reduceAdd, Nat.reduceEqDiff, Nat.reduceLeDiff, reduceIte, Nat.reduceLT, or_self, true_or, or_true, if_true, if_false, and_self, and_true, true_and, not_false_eq_true, not_true_eq_false, fd_Mo_behindValue_9, fd_Mo_behindValue_10, fd_Mo_behindValue_12, hS.all, l9]
        exact out (Or.inr (Or.inl e9))
      | succ r =>
        have l9 : nI m < 9 := nI_lt (b := 9) (by omega) (by decide)
        refine am_go [15, 32] 3 ?_
        simp only [am_wp, am_stp, am_en, am_as, am_pad, am_nth, am_set, am_st1, am_st2, am_kl, am_kill, am_mem, am_fv, am_tk, am_wt, am_bk, Option.toList, List.cons_append, List.nil_append, Nat.reduceAdd, Nat.reduceEqDiff, Nat.reduceLeDiff, reduceIte, Nat.reduceLT, or_self, true_or, or_true, if_true, if_false, and_self, and_true, true_and, not_false_eq_true, not_true_eq_false, fd_Mo_behindValue_9, fd_Mo_behindValue_10, fd_Mo_behindValue_12, hS.all, l9]
        refine am_go [26, 32] 7 ?_
        simp only [am_wp, am_stp, am_en, am_as, am_pad, am_nth, am_set, am_st1, am_st2, am_kl, am_kill, am_mem, am_fv, am_tk, am_wt, am_bk, Option.toList, List.cons_append, List.nil_append, Nat.reduceAdd, Nat.reduceEqDiff, Nat.reduceLeDiff, reduceIte, Nat.reduceLT, or_self, true_or, or_true, if_true, if_false, and_self, and_true, true_and, not_false_eq_true, not_true_eq_false, fd_Mo_behindValue_15, fd_Mo_behindValue_16, fd_Mo_behindValue_19, fd_Mo_behindValue_20, fd_Mo_behindValue_21, fd_Mo_behindValue_22, fd_Mo_behindValue_23, hS.all, nI_add, i1, q1]
        by_cases x0 : am_I h 73 (f + m) < 0
        · simp only [x0, am_wp, am_stp, am_en, am_as, am_pad, am_nth, am_set, am_st1, am_st2, am_kl, am_kill, am_mem, am_fv, am_tk, am_wt, am_bk, Option.toList, List.cons_append, List.nil_append, Nat.reduceAdd, Nat.reduceEqDiff, Nat.reduceLeDiff, reduceIte, Nat.reduceLT, or_self, true_or, or_true, if_true, if_false, and_self, and_true, true_and, not_false_eq_true, not_true_eq_false]
          refine am_go [2] 2 ?_
          simp only [am_wp, am_stp, am_en, am_as, am_pad, am_nth, am_set, am_st1, am_st2, am_kl, am_kill, am_mem, am_fv, am_tk, am_wt, am_bk, Option.toList, List.cons_append, List.nil_append, Nat.reduceAdd, Nat.reduceEqDiff, Nat.reduceLeDiff, reduceIte, Nat.reduceLT, or_self, true_or, or_true, if_true, if_false, and_self, and_true, true_and, not_false_eq_true, not_true_eq_false, fd_Mo_behindValue_26, fd_Mo_behindValue_29, hS.all, nI_1]
          refine rx_bv_loop hS he hf r (m + 1) _ _ (by omega) (fun i hi => ?_)
          by_cases ei : i = m
          · rw [ei]; exact ⟨x0, hl⟩
          · exact hb i (by omega)
        · simp only [x0, am_wp, am_stp, am_en, am_as, am_pad, am_nth, am_set, am_st1, am_st2, am_kl, am_kill, am_mem, am_fv, am_tk, am_wt, am_bk, Option.toList, List.cons_append, List.nil_append, Nat.reduceAdd, Nat.reduceEqDiff, Nat.reduceLeDiff, reduceIte, Nat.reduceLT, or_self, true_or, or_true, if_true, if_false, and_self, and_true, true_and, not_false_eq_true, not_true_eq_false]
          exact out (Or.inr (Or.inr x0))
    · have l1 : ¬ nI (f + m) < nI e := nI_nlt (by omega) (by omega)
      refine am_go [9, 32] 5 ?_
      simp only [am_wp, am_stp, am_en, am_as, am_pad, am_nth, am_set, am_st1, am_st2, am_kl, am_kill, am_mem, am_fv, am_tk, am_wt, am_bk, Option.toList, List.cons_append, List.nil_append, Nat.reduceAdd, Nat.reduceEqDiff, Nat.reduceLeDiff, reduceIte, Nat.reduceLT, or_self, true_or, or_true, if_true, if_false, and_self, and_true, true_and, not_false_eq_true, not_true_eq_false, fd_Mo_behindValue_2, fd_Mo_behindValue_3, fd_Mo_behindValue_4, fd_Mo_behindValue_5, fd_Mo_behindValue_6, nI_add, l1]
      exact out (Or.inl hl)
