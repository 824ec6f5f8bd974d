/-! THE REFERENCE'S writeRun -/
def rf_K (P : Nat) (h : am_H) : Prop := mo_Sk h ∧ am_I h 72 1 = nI P ∧ am_I h 72 8 = 0 ∧ am_I h 72 3 = 0 ∧ 4 ≤ P ∧ P ≤ 1024
def rw_Q (P : Nat) (h h' : am_H) (lv : Int32) (L : List ent) (s : Nat) (ps : List (Nat × List ent)) : Prop :=
  am_fi [72, 73, 78, 79, 80, 81, 82, 83, 84, 85, 90, 91] h h' ∧ (∀ j, j ≠ 7 → am_I h' 72 j = am_I h 72 j) ∧ (s < 100 ∧ ¬ 0 < am_I h 77 s) ∧ am_I h' 79 = up_f (am_I h 79) s lv ∧ am_I h' 80 = up_f (am_I h 80) s (nI ps.length) ∧ (∀ j, ¬ (1024 * s ≤ j ∧ j < 1024 * s + 1024) → am_I h' 82 j = am_I h 82 j) ∧ (∀ k q, ps[k]? = some q → am_I h' 82 (1024 * s + k) = nI q.1) ∧ (∀ q ∈ ps, pg_M P h' q.1 q.2 ∧ ¬ us_T h 100 q.1) ∧ (ps.map (·.1)).Nodup ∧ (∀ x, x ∉ ps.map (·.1) → ∀ j, j < 128 → am_I h' 73 (x * 128 + j) = am_I h 73 (x * 128 + j)) ∧ ch_E ps = L ∧ ps.length = npg L
theorem least_ex {p : Nat → Prop} {n : Nat} (h : ∃ s, s < n ∧ ¬ p s) : ∃ s, s < n ∧ ¬ p s ∧ ∀ t, t < s → p t := by
  obtain ⟨s, h1, h2⟩ := h
  induction s using Nat.strongRecOn with
  | ind s ih =>
    by_cases e : ∃ t, t < s ∧ ¬ p t
    · obtain ⟨t, t1, t2⟩ := e
      exact ih t t1 (by omega) t2
    · refine ⟨s, h1, h2, fun t ht => ?_⟩
      by_cases q : p t
      · exact q
      · exact absurd ⟨t, ht, q⟩ e
theorem us_fz {f : Nat → Int32} : ∀ n, (∀ p, p < n → p < 2 → f p ≠ 0) → us_N f n = fz f n
  | 0, _ => rfl
  | n + 1, h => by
    show us_N f n + (if f n = 0 then 1 else 0) = fz f n + (if 2 ≤ n ∧ f n = 0 then 1 else 0)
    rw [us_fz n (fun p h1 h2 => h p (by omega) h2)]
    by_cases e : 2 ≤ n
    · simp [e]
    · rw [if_neg (h n (by omega) (by omega)), if_neg (fun z => e z.1)]
theorem l2_marks_loop {d s : Nat} {lv x2 x4 x5 : Int32} {w7 w8 : Value} {L : List ent} {h : am_H} {Q : am_O → am_H → Prop} (K : ky_S h L) (hs : s < 100) (hx : ∀ g, am_fi [85] h g → Q (.inl (some (.int (nI s)))) g) : ∀ (m k : Nat) (g : am_H), m + k = L.length → am_fi [85] h g →
    am_Ex nm_pr (d + 2) mt_Mo_writeRun (331, [.ref 72, .int lv, .int x2, .int (nI s), .int x4, .int x5, .int (nI k), w7, w8], [], g) Q
  | 0, k, g, hm, F => by
    obtain ⟨hS, i31, hl, T⟩ := id K
    have G := hS.fi F
    have e : k = L.length := by omega
    subst e
    have i31' : am_I g 72 31 = nI L.length := by rw [F.2.2.2.2.2.2.1 72 (by simp)]; exact i31
    have l1 : ¬ nI L.length < nI L.length := nI_nlt (Nat.le_refl _) (by omega)
    refine am_go [340] 6 ?_
    simp only [am_wp, am_stp, am_en, am_as, am_pad, am_nth, am_set, am_st1, am_st2, am_kl, am_kill, am_mem, am_fv, am_tk, am_wt, am_bk, Option.toList, List.cons_append, List.nil_append, Nat.reduceAdd, Nat.reduceEqDiff, Nat.reduceLeDiff, reduceIte, Nat.reduceLT, or_self, true_or, or_true, if_true, if_false, and_self, and_true, true_and, not_false_eq_true, not_true_eq_false, fd_Mo_writeRun_331, fd_Mo_writeRun_333, fd_Mo_writeRun_334, fd_Mo_writeRun_337, fd_Mo_writeRun_358, fd_Mo_writeRun_359, G.1, i31', l1]
    exact hx g F
  | m + 1, k, g, hm, F => by
    obtain ⟨hS, i31, hl, T⟩ := id K
    have G := hS.fi F
    obtain ⟨k72, r32, -, -, k92, n92, -⟩ := mo_ky G
    have i31' : am_I g 72 31 = nI L.length := by rw [F.2.2.2.2.2.2.1 72 (by simp)]; exact i31
    have l1 : nI k < nI L.length := nI_lt (by omega) (by omega)
    have i1 := am_inb (c := k) (N := 45000) (by omega) (by omega)
    have q1 : (nI k).toNatClampNeg = k := nI_clamp (by omega)
    refine am_go [340, 358] 4 ?_
    simp only [am_wp, am_stp, am_en, am_as, am_pad, am_nth, am_set, am_st1, am_st2, am_kl, am_kill, am_mem, am_fv, am_tk, am_wt, am_bk, Option.toList, List.cons_append, List.nil_append, Nat.reduceAdd, Nat.reduceEqDiff, Nat.reduceLeDiff, reduceIte, Nat.reduceLT, or_self, true_or, or_true, if_true, if_false, and_self, and_true, true_and, not_false_eq_true, not_true_eq_false, fd_Mo_writeRun_331, fd_Mo_writeRun_333, fd_Mo_writeRun_334, fd_Mo_writeRun_337, k72, i31', l1]
    refine am_go [] 7 ?_
    simp only [am_wp, am_stp, am_en, am_as, am_pad, am_nth, am_set, am_st1, am_st2, am_kl, am_kill, am_mem, am_fv, am_tk, am_wt, am_bk, Option.toList, List.cons_append, List.nil_append, Nat.reduceAdd, Nat.reduceEqDiff, Nat.reduceLeDiff, reduceIte, Nat.reduceLT, or_self, true_or, or_true, if_true, if_false, and_self, and_true, true_and, not_false_eq_true, not_true_eq_false, fd_Mo_writeRun_340, fd_Mo_writeRun_341, fd_Mo_writeRun_342, fd_Mo_writeRun_343, fd_Mo_writeRun_346, fd_Mo_writeRun_348, fd_Mo_writeRun_349, k72, r32, k92, n92, i1, q1]
    refine am_call (l2_mark3 (d := d) G hs) (fun o g1 z => ?_)
    obtain ⟨rfl, F1⟩ := z
    simp only [am_wp, am_stp, am_en, am_as, am_pad, am_nth, am_set, am_st1, am_st2, am_kl, am_kill, am_mem, am_fv, am_tk, am_wt, am_bk, Option.toList, List.cons_append, List.nil_append, Nat.reduceAdd, Nat.reduceEqDiff, Nat.reduceLeDiff, reduceIte, Nat.reduceLT, or_self, true_or, or_true, if_true, if_false, and_self, and_true, true_and, not_false_eq_true, not_true_eq_false]
    refine am_go [331] 2 ?_
    simp only [am_wp, am_stp, am_en, am_as, am_pad, am_nth, am_set, am_st1, am_st2, am_kl, am_kill, am_mem, am_fv, am_tk, am_wt, am_bk, Option.toList, List.cons_append, List.nil_append, Nat.reduceAdd, Nat.reduceEqDiff, Nat.reduceLeDiff, reduceIte, Nat.reduceLT, or_self, true_or, or_true, if_true, if_false, and_self, and_true, true_and, not_false_eq_true, not_true_eq_false, fd_Mo_writeRun_352, fd_Mo_writeRun_355, nI_1]
    exact l2_marks_loop K hs hx m (k + 1) g1 (by omega) (F.trans F1)
theorem l2_Mo_writeRun {d P fr : Nat} {lv : Int32} {L : List ent} {h : am_H} (K : rf_K P h) (Ky : ky_S h L) (hne : L ≠ []) (hO : ∀ e ∈ L, eo e) (hW : us_W P h) (hs0 : ∃ s, s < 100 ∧ ¬ 0 < am_I h 77 s) (hfr : ∀ f : Nat → Int32, (∀ p, p < P → (f p = 0 ∨ f p = 1) ∧ (f p = 1 ↔ p < 2 ∨ us_T h 100 p)) → us_N f P = fr) (hfr2 : fr ≤ 1024) : am_Rt nm_pr (d + 5) mi_Mo_writeRun [.ref 72, .int lv] h (fun o h' => (npg L ≤ fr ∧ ∃ s ps, o = .inl (some (.int (nI s))) ∧ rw_Q P h h' lv L s ps) ∨ (fr < npg L ∧ o = .inl (some (.int (-1))) ∧ am_fi [90] h h')) := by
  obtain ⟨hS, jP, j8, j3, P4, P1024⟩ := id K
  obtain ⟨-, i31, hl, T⟩ := id Ky
  have k72 := hS.1
  have hnl := npg_le (L := L)
  refine am_in' (d := d + 4) mt_Mo_writeRun 9 rfl rfl rfl ?_
  refine am_go [] 2 ?_
  simp only [am_wp, am_stp, am_en, am_as, am_pad, am_nth, am_set, am_st1, am_st2, am_kl, am_kill, am_mem, am_fv, am_tk, am_wt, am_bk, Option.toList, List.cons_append, List.nil_append, Nat.reduceAdd, Nat.reduceEqDiff, Nat.reduceLeDiff, reduceIte, Nat.reduceLT, or_self, true_or, or_true, if_true, if_false, and_self, and_true, true_and, not_false_eq_true, not_true_eq_false, fd_Mo_writeRun_0, fd_Mo_writeRun_1, k72]
  refine am_call (l2_pagesFor (d := d) Ky) (fun o h1 z => ?_)
  obtain ⟨rfl, rfl⟩ := z
  simp only [am_wp, am_stp, am_en, am_as, am_pad, am_nth, am_set, am_st1, am_st2, am_kl, am_kill, am_mem, am_fv, am_tk, am_wt, am_bk, Option.toList, List.cons_append, List.nil_append, Nat.reduceAdd, Nat.reduceEqDiff, Nat.reduceLeDiff, reduceIte, Nat.reduceLT, or_self, true_or, or_true, if_true, if_false, and_self, and_true, true_and, not_false_eq_true, not_true_eq_false]
  refine am_go [] 4 ?_
  simp only [am_wp, am_stp, am_en, am_as, am_pad, am_nth, am_set, am_st1, am_st2, am_kl, am_kill, am_mem, am_fv, am_tk, am_wt, am_bk, Option.toList, List.cons_append, List.nil_append, Nat.reduceAdd, Nat.reduceEqDiff, Nat.reduceLeDiff, reduceIte, Nat.reduceLT, or_self, true_or, or_true, if_true, if_false, and_self, and_true, true_and, not_false_eq_true, not_true_eq_false, fd_Mo_writeRun_4, fd_Mo_writeRun_5, fd_Mo_writeRun_6, fd_Mo_writeRun_7, k72]
  refine am_call (l2_Mo_freeCount (d := d + 2) (by omega) P1024 hS jP hW) (fun o h2 z => ?_)
  obtain ⟨rfl, F2, L2, v⟩ := z
  rw [hfr _ v]
  simp only [am_wp, am_stp, am_en, am_as, am_pad, am_nth, am_set, am_st1, am_st2, am_kl, am_kill, am_mem, am_fv, am_tk, am_wt, am_bk, Option.toList, List.cons_append, List.nil_append, Nat.reduceAdd, Nat.reduceEqDiff, Nat.reduceLeDiff, reduceIte, Nat.reduceLT, or_self, true_or, or_true, if_true, if_false, and_self, and_true, true_and, not_false_eq_true, not_true_eq_false]
  refine am_go [13, 15] 1 ?_
  simp only [am_wp, am_stp, am_en, am_as, am_pad, am_nth, am_set, am_st1, am_st2, am_kl, am_kill, am_mem, am_fv, am_tk, am_wt, am_bk, Option.toList, List.cons_append, List.nil_append, Nat.reduceAdd, Nat.reduceEqDiff, Nat.reduceLeDiff, reduceIte, Nat.reduceLT, or_self, true_or, or_true, if_true, if_false, and_self, and_true, true_and, not_false_eq_true, not_true_eq_false, fd_Mo_writeRun_10]
  by_cases hf : fr < npg L
  · have l1 : nI fr < nI (npg L) := nI_lt hf (by omega)
    simp only [l1, am_wp, am_stp, am_en, am_as, am_pad, am_nth, am_set, am_st1, am_st2, am_kl, am_kill, am_mem, am_fv, am_tk, am_wt, am_bk, Option.toList, List.cons_append, List.nil_append, Nat.reduceAdd, Nat.reduceEqDiff, Nat.reduceLeDiff, reduceIte, Nat.reduceLT, or_self, true_or, or_true, if_true, if_false, and_self, and_true, true_and, not_false_eq_true, not_true_eq_false]
    refine am_go [] 2 ?_
    simp only [am_wp, am_stp, am_en, am_as, am_pad, am_nth, am_set, am_st1, am_st2, am_kl, am_kill, am_mem, am_fv, am_tk, am_wt, am_bk, Option.toList, List.cons_append, List.nil_append, Nat.reduceAdd, Nat.reduceEqDiff, Nat.reduceLeDiff, reduceIte, Nat.reduceLT, or_self, true_or, or_true, if_true, if_false, and_self, and_true, true_and, not_false_eq_true, not_true_eq_false, fd_Mo_writeRun_13, fd_Mo_writeRun_14]
    exact Or.inr ⟨hf, F2⟩
  have l1 : ¬ nI fr < nI (npg L) := nI_nlt (by omega) (by omega)
  simp only [l1, am_wp, am_stp, am_en, am_as, am_pad, am_nth, am_set, am_st1, am_st2, am_kl, am_kill, am_mem, am_fv, am_tk, am_wt, am_bk, Option.toList, List.cons_append, List.nil_append, Nat.reduceAdd, Nat.reduceEqDiff, Nat.reduceLeDiff, reduceIte, Nat.reduceLT, or_self, true_or, or_true, if_true, if_false, and_self, and_true, true_and, not_false_eq_true, not_true_eq_false]
  refine am_go [17] 2 ?_
  simp only [am_wp, am_stp, am_en, am_as, am_pad, am_nth, am_set, am_st1, am_st2, am_kl, am_kill, am_mem, am_fv, am_tk, am_wt, am_bk, Option.toList, List.cons_append, List.nil_append, Nat.reduceAdd, Nat.reduceEqDiff, Nat.reduceLeDiff, reduceIte, Nat.reduceLT, or_self, true_or, or_true, if_true, if_false, and_self, and_true, true_and, not_false_eq_true, not_true_eq_false, fd_Mo_writeRun_15, fd_Mo_writeRun_16]
  have I77 : am_I h2 77 = am_I h1 77 := F2.2.2.2.2.2.2.1 77 (by simp)
  have S2 := hS.fi F2
  obtain ⟨s, hs, hsz, hsl⟩ := least_ex (p := fun s => 0 < am_I h1 77 s) hs0
  refine l2_slot_loop (s0 := s) S2 hs (by rw [I77]; exact hsz) ?_ s 0 (by omega) (fun t _ ht => by rw [I77]; exact hsl t ht)
  obtain ⟨k72a, ⟨r15, k77, n77⟩, ⟨r16, k78, n78⟩, ⟨r17, k79, n79⟩, ⟨r18, k80, n80⟩, ⟨r19, k81, n81⟩, ⟨r20, k82, n82⟩, ⟨r21, k83, n83⟩, ⟨r22, k84, n84⟩, ⟨r23, k85, n85⟩, ⟨r25, k86, n86⟩, ⟨r29, k90, n90⟩⟩ := mo_sl_ S2
  have i1 := am_inb (c := s) (N := 100) (by omega) (by omega)
  have q1 : (nI s).toNatClampNeg = s := nI_clamp (by omega)
  have i31a : am_I h2 72 31 = nI L.length := by rw [F2.2.2.2.2.2.2.1 72 (by simp)]; exact i31
  refine am_go [] 11 ?_
  simp only [am_wp, am_stp, am_en, am_as, am_pad, am_nth, am_set, am_st1, am_st2, am_kl, am_kill, am_mem, am_fv, am_tk, am_wt, am_bk, Option.toList, List.cons_append, List.nil_append, Nat.reduceAdd, Nat.reduceEqDiff, Nat.reduceLeDiff, reduceIte, Nat.reduceLT, or_self, true_or, or_true, if_true, if_false, and_self, and_true, true_and, not_false_eq_true, not_true_eq_false, fd_Mo_writeRun_32, fd_Mo_writeRun_33, fd_Mo_writeRun_36, fd_Mo_writeRun_37, fd_Mo_writeRun_38, fd_Mo_writeRun_41, fd_Mo_writeRun_42, fd_Mo_writeRun_43, fd_Mo_writeRun_46, fd_Mo_writeRun_47, fd_Mo_writeRun_48, hx_nx_sI, hx_ce_sI, hx_sl_sI, hx_kd_sI, hx_ln_sI, hx_I_sI, hx_L_sI, hx_R_sI, hx_nx_sL, hx_ce_sL, hx_sl_sL, hx_kd_sL, hx_ln_sL, hx_I_sL, hx_L_sL, hx_R_sL, hx_nx_sR, hx_ce_sR, hx_sl_sR, hx_kd_sR, hx_ln_sR, hx_I_sR, hx_L_sR, hx_R_sR, hx_nx_al, hx_ce_al, hx_sl_al, hx_kd_al, hx_ln_al, hx_I_al, hx_L_al, hx_R_al, hx_nx_row, hx_ce_row, hx_sl_row, hx_kd_row, hx_ln_row, hx_I_row, hx_L_row, hx_R_row, hx_nx_mk, hx_kd_mk, hx_ln_mk, hx_I_mk, hx_L_mk, hx_R_mk, k72a, r16, k78, n78, r17, k79, n79, i1, q1]
  refine am_go [72] 15 ?_
  simp only [am_wp, am_stp, am_en, am_as, am_pad, am_nth, am_set, am_st1, am_st2, am_kl, am_kill, am_mem, am_fv, am_tk, am_wt, am_bk, Option.toList, List.cons_append, List.nil_append, Nat.reduceAdd, Nat.reduceEqDiff, Nat.reduceLeDiff, reduceIte, Nat.reduceLT, or_self, true_or, or_true, if_true, if_false, and_self, and_true, true_and, not_false_eq_true, not_true_eq_false, fd_Mo_writeRun_49, fd_Mo_writeRun_50, fd_Mo_writeRun_53, fd_Mo_writeRun_54, fd_Mo_writeRun_55, fd_Mo_writeRun_56, fd_Mo_writeRun_57, fd_Mo_writeRun_60, fd_Mo_writeRun_61, fd_Mo_writeRun_62, fd_Mo_writeRun_65, fd_Mo_writeRun_66, fd_Mo_writeRun_67, fd_Mo_writeRun_69, fd_Mo_writeRun_70, hx_nx_sI, hx_ce_sI, hx_sl_sI, hx_kd_sI, hx_ln_sI, hx_I_sI, hx_L_sI, hx_R_sI, hx_nx_sL, hx_ce_sL, hx_sl_sL, hx_kd_sL, hx_ln_sL, hx_I_sL, hx_L_sL, hx_R_sL, hx_nx_sR, hx_ce_sR, hx_sl_sR, hx_kd_sR, hx_ln_sR, hx_I_sR, hx_L_sR, hx_R_sR, hx_nx_al, hx_ce_al, hx_sl_al, hx_kd_al, hx_ln_al, hx_I_al, hx_L_al, hx_R_al, hx_nx_row, hx_ce_row, hx_sl_row, hx_kd_row, hx_ln_row, hx_I_row, hx_L_row, hx_R_row, hx_nx_mk, hx_kd_mk, hx_ln_mk, hx_I_mk, hx_L_mk, hx_R_mk, k72a, r18, k80, n80, r19, k81, n81, i1, q1, i31a]
  have F3 : am_fi [78, 79, 80, 81] h2 (am_sI (am_sI (am_sI (am_sI h2 78 s (am_I h2 72 5)) 79 s lv) 80 s (nI (npg L))) 81 s (nI L.length)) := (((am_fi.refl.sI (by simp)).sI (by simp)).sI (by simp)).sI (by simp)
  have v79 : am_I (am_sI (am_sI (am_sI (am_sI h2 78 s (am_I h2 72 5)) 79 s lv) 80 s (nI (npg L))) 81 s (nI L.length)) 79 = up_f (am_I h1 79) s lv := by
    rw [← F2.2.2.2.2.2.2.1 79 (by simp)]; funext j; unfold up_f; simp only [hx_nx_sI, hx_ce_sI, hx_sl_sI, hx_kd_sI, hx_ln_sI, hx_I_sI, hx_L_sI, hx_R_sI, hx_nx_sL, hx_ce_sL, hx_sl_sL, hx_kd_sL, hx_ln_sL, hx_I_sL, hx_L_sL, hx_R_sL, hx_nx_sR, hx_ce_sR, hx_sl_sR, hx_kd_sR, hx_ln_sR, hx_I_sR, hx_L_sR, hx_R_sR, hx_nx_al, hx_ce_al, hx_sl_al, hx_kd_al, hx_ln_al, hx_I_al, hx_L_al, hx_R_al, hx_nx_row, hx_ce_row, hx_sl_row, hx_kd_row, hx_ln_row, hx_I_row, hx_L_row, hx_R_row, hx_nx_mk, hx_kd_mk, hx_ln_mk, hx_I_mk, hx_L_mk, hx_R_mk, am_wp, am_stp, am_en, am_as, am_pad, am_nth, am_set, am_st1, am_st2, am_kl, am_kill, am_mem, am_fv, am_tk, am_wt, am_bk, Option.toList, List.cons_append, List.nil_append, Nat.reduceAdd, Nat.reduceEqDiff, Nat.reduceLeDiff, reduceIte, Nat.reduceLT, or_self, true_or, or_true, if_true, if_false, and_self, and_true, true_and, not_false_eq_true, not_true_eq_false]
  have v80 : am_I (am_sI (am_sI (am_sI (am_sI h2 78 s (am_I h2 72 5)) 79 s lv) 80 s (nI (npg L))) 81 s (nI L.length)) 80 = up_f (am_I h1 80) s (nI (npg L)) := by
    rw [← F2.2.2.2.2.2.2.1 80 (by simp)]; funext j; unfold up_f; simp only [hx_nx_sI, hx_ce_sI, hx_sl_sI, hx_kd_sI, hx_ln_sI, hx_I_sI, hx_L_sI, hx_R_sI, hx_nx_sL, hx_ce_sL, hx_sl_sL, hx_kd_sL, hx_ln_sL, hx_I_sL, hx_L_sL, hx_R_sL, hx_nx_sR, hx_ce_sR, hx_sl_sR, hx_kd_sR, hx_ln_sR, hx_I_sR, hx_L_sR, hx_R_sR, hx_nx_al, hx_ce_al, hx_sl_al, hx_kd_al, hx_ln_al, hx_I_al, hx_L_al, hx_R_al, hx_nx_row, hx_ce_row, hx_sl_row, hx_kd_row, hx_ln_row, hx_I_row, hx_L_row, hx_R_row, hx_nx_mk, hx_kd_mk, hx_ln_mk, hx_I_mk, hx_L_mk, hx_R_mk, am_wp, am_stp, am_en, am_as, am_pad, am_nth, am_set, am_st1, am_st2, am_kl, am_kill, am_mem, am_fv, am_tk, am_wt, am_bk, Option.toList, List.cons_append, List.nil_append, Nat.reduceAdd, Nat.reduceEqDiff, Nat.reduceLeDiff, reduceIte, Nat.reduceLT, or_self, true_or, or_true, if_true, if_false, and_self, and_true, true_and, not_false_eq_true, not_true_eq_false]
  generalize am_sI (am_sI (am_sI (am_sI h2 78 s (am_I h2 72 5)) 79 s lv) 80 s (nI (npg L))) 81 s (nI L.length) = h3 at F3 v79 v80 ⊢
  have F13 : am_fi [78, 79, 80, 81, 90] h1 h3 := (F2.sub (by simp)).trans (F3.sub (by simp))
  have S3 := hS.fi F13
  have I90 : am_I h3 90 = am_I h2 90 := F3.2.2.2.2.2.2.1 90 (by simp)
  have hz : us_N (am_I h2 90) P = fz (am_I h2 90) P := us_fz P (fun p p1 p2 => by
    have := (v p p1).2.mpr (Or.inl p2)
    rw [this]; decide)
  have hfz : fz (am_I h3 90) P = fr := by rw [I90, ← hz]; exact hfr _ v
  have f2 : fz (am_I h3 90) 2 = 0 := by have := fz_le (am_I h3 90) 2; omega
  refine l2_pick_loop (P := P) (s := s) S3 P1024 hs (by omega) (fun g pl p A hlen => ?_) (npg L) 2 [] h3 (by simp) (by omega) (by omega) ⟨am_fi.refl, rfl, by simp, fun _ _ => rfl, by simp, by simp⟩ (by omega)
  obtain ⟨FA, FL, a1, a2, a3, a4⟩ := A
  have F1g : am_fi [78, 79, 80, 81, 82, 90] h1 g := (F13.sub (by simp)).trans (FA.sub (by simp))
  have Sg := hS.fi F1g
  have Kyg : ky_S g L := ⟨Sg, by rw [F1g.2.2.2.2.2.2.1 72 (by simp)]; exact i31, hl, T.fi F1g (by simp)⟩
  refine am_go [124] 4 ?_
  simp only [am_wp, am_stp, am_en, am_as, am_pad, am_nth, am_set, am_st1, am_st2, am_kl, am_kill, am_mem, am_fv, am_tk, am_wt, am_bk, Option.toList, List.cons_append, List.nil_append, Nat.reduceAdd, Nat.reduceEqDiff, Nat.reduceLeDiff, reduceIte, Nat.reduceLT, or_self, true_or, or_true, if_true, if_false, and_self, and_true, true_and, not_false_eq_true, not_true_eq_false, fd_Mo_writeRun_118, fd_Mo_writeRun_119, fd_Mo_writeRun_121, fd_Mo_writeRun_122]
  have I72 : am_I g 72 = am_I h1 72 := F1g.2.2.2.2.2.2.1 72 (by simp)
  have I73 : am_I g 73 = am_I h1 73 := F1g.2.2.2.2.2.2.1 73 (by simp)
  have RI : rw_I P g g L (npg L) pl [] L := ⟨am_fi.refl, fun _ _ => rfl, by simp, by simp [ch_E], by simp, fun _ _ _ _ => rfl, by simp⟩
  refine l2_page_loop (d := d) (pl := pl) Kyg hO (by rw [I72]; exact j8) P1024 hs (by omega) hlen a3 a1 (fun q hq => ⟨(a4 q hq).1, (a4 q hq).2.1⟩) (fun g1 done w7 w8 I hdl => ?_) (npg L) [] L _ _ g (by simp) RI
  obtain ⟨Fg, y1, y2, y3, y4, y5, y6⟩ := I
  have eL : ch_E done = L := by simpa using y3
  have S1 := Sg.fi Fg
  obtain ⟨k72b, -, -, -, -, -, -, -, ⟨r22b, k84b, n84b⟩, -⟩ := mo_sl_ S1
  obtain ⟨-, r32b, -, -, k92b, n92b, -⟩ := mo_ky S1
  have i31b : am_I g1 72 31 = nI L.length := by rw [y1 31 (by decide), I72]; exact i31
  obtain ⟨j, hj⟩ : ∃ j, L.length = j + 1 := ⟨L.length - 1, by have := List.length_pos_iff.mpr hne; omega⟩
  have em : nI L.length - 1 = nI j := by rw [hj]; exact nI_pred j
  have iA := am_inb (c := j) (N := 45000) (by omega) (by omega)
  have qA : (nI j).toNatClampNeg = j := nI_clamp (by omega)
  refine am_go [] 11 ?_
  simp only [am_wp, am_stp, am_en, am_as, am_pad, am_nth, am_set, am_st1, am_st2, am_kl, am_kill, am_mem, am_fv, am_tk, am_wt, am_bk, Option.toList, List.cons_append, List.nil_append, Nat.reduceAdd, Nat.reduceEqDiff, Nat.reduceLeDiff, reduceIte, Nat.reduceLT, or_self, true_or, or_true, if_true, if_false, and_self, and_true, true_and, not_false_eq_true, not_true_eq_false, fd_Mo_writeRun_306, fd_Mo_writeRun_307, fd_Mo_writeRun_310, fd_Mo_writeRun_311, fd_Mo_writeRun_312, fd_Mo_writeRun_315, fd_Mo_writeRun_316, fd_Mo_writeRun_319, fd_Mo_writeRun_320, fd_Mo_writeRun_321, fd_Mo_writeRun_322, k72b, r22b, r32b, i31b, em, k92b, n92b, iA, qA, k84b, n84b, i1, q1]
  have F4 : am_fi [84] g1 (am_sL g1 84 s (am_L g1 92 j)) := am_fi.refl.sL (by simp)
  generalize am_sL g1 84 s (am_L g1 92 j) = g2 at F4 ⊢
  have S4 := S1.fi F4
  refine am_go [] 3 ?_
  simp only [am_wp, am_stp, am_en, am_as, am_pad, am_nth, am_set, am_st1, am_st2, am_kl, am_kill, am_mem, am_fv, am_tk, am_wt, am_bk, Option.toList, List.cons_append, List.nil_append, Nat.reduceAdd, Nat.reduceEqDiff, Nat.reduceLeDiff, reduceIte, Nat.reduceLT, or_self, true_or, or_true, if_true, if_false, and_self, and_true, true_and, not_false_eq_true, not_true_eq_false, fd_Mo_writeRun_323, fd_Mo_writeRun_324, fd_Mo_writeRun_325, S4.1]
  refine am_call (l2_clearFilter (d := d + 3) S4 hs) (fun o g3 z => ?_)
  obtain ⟨rfl, F5⟩ := z
  have S5 := S4.fi F5
  simp only [am_wp, am_stp, am_en, am_as, am_pad, am_nth, am_set, am_st1, am_st2, am_kl, am_kill, am_mem, am_fv, am_tk, am_wt, am_bk, Option.toList, List.cons_append, List.nil_append, Nat.reduceAdd, Nat.reduceEqDiff, Nat.reduceLeDiff, reduceIte, Nat.reduceLT, or_self, true_or, or_true, if_true, if_false, and_self, and_true, true_and, not_false_eq_true, not_true_eq_false]
  refine am_go [331] 2 ?_
  simp only [am_wp, am_stp, am_en, am_as, am_pad, am_nth, am_set, am_st1, am_st2, am_kl, am_kill, am_mem, am_fv, am_tk, am_wt, am_bk, Option.toList, List.cons_append, List.nil_append, Nat.reduceAdd, Nat.reduceEqDiff, Nat.reduceLeDiff, reduceIte, Nat.reduceLT, or_self, true_or, or_true, if_true, if_false, and_self, and_true, true_and, not_false_eq_true, not_true_eq_false, fd_Mo_writeRun_328, fd_Mo_writeRun_329]
  have F15 : am_fi [84, 85] g1 g3 := (F4.sub (by simp)).trans (F5.sub (by simp))
  have Fg3 : am_fi [72, 73, 83, 84, 85, 91] g g3 := (Fg.sub (by simp)).trans (F15.sub (by simp))
  have Ky3 : ky_S g3 L := ⟨S5, by rw [F15.2.2.2.2.2.2.1 72 (by simp)]; exact i31b, hl, (T.fi F1g (by simp)).fi Fg3 (by simp)⟩
  refine l2_marks_loop (d := d + 2) Ky3 hs (fun g4 F6 => ?_) L.length 0 g3 (by omega) am_fi.refl
  have Fg4 : am_fi [72, 73, 83, 84, 85, 91] g g4 := Fg3.trans (F6.sub (by simp))
  have F14 : am_fi [84, 85] g1 g4 := F15.trans (F6.sub (by simp))
  refine Or.inl ⟨by omega, s, done, rfl, (F1g.sub (by simp)).trans (Fg4.sub (by simp)), fun x hx => ?_, ⟨hs, hsz⟩, ?_, ?_, fun x hx => ?_, fun k q hk => ?_, fun q hq => ⟨?_, ?_⟩, ?_, fun x hx jj hjj => ?_, eL, hdl⟩
  · rw [F14.2.2.2.2.2.2.1 72 (by simp), y1 x hx, I72]
  · rw [Fg4.2.2.2.2.2.2.1 79 (by simp), FA.2.2.2.2.2.2.1 79 (by simp)]; exact v79
  · rw [Fg4.2.2.2.2.2.2.1 80 (by simp), FA.2.2.2.2.2.2.1 80 (by simp), hdl]; exact v80
  · rw [Fg4.2.2.2.2.2.2.1 82 (by simp), a2 x hx, F13.2.2.2.2.2.2.1 82 (by simp)]
  · rw [Fg4.2.2.2.2.2.2.1 82 (by simp)]
    refine a1 k q.1 ?_
    have h1' : (done.map (·.1))[k]? = some q.1 := by rw [List.getElem?_map, hk]; rfl
    rw [y2, List.getElem?_take] at h1'
    split at h1'
    · exact h1'
    · cases h1'
  · exact (y4 q hq).mono (fun jj _ => congrFun (F14.2.2.2.2.2.2.1 73 (by simp)) _)
  · have hm : q.1 ∈ pl := by
      have : q.1 ∈ done.map (·.1) := List.mem_map_of_mem hq
      rw [y2] at this
      exact List.mem_of_mem_take this
    obtain ⟨z1, z2, z3, z4⟩ := a4 q.1 hm
    intro hu
    have := (v q.1 z2).2.mpr (Or.inr hu)
    rw [I90, this] at z4
    exact absurd z4 (by decide)
  · rw [y2]; exact a3.sublist (List.take_sublist _ _)
  · rw [F14.2.2.2.2.2.2.1 73 (by simp), y5 x hx jj hjj, I73]
