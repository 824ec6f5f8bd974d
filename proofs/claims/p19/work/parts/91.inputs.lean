/-! THE BLEND: its inputs -/
theorem l2_addInput {d P t : Nat} {ins : List (Nat × List ent)} {L : List ent} {h : am_H} (hB : bl_S P h ins) (hc : ins.length < 10) (hS : st_P P h t L) (ht : t ∉ ins.map (·.1)) : am_Rt nm_pr (d + 1) mi_Blend_addInput [.ref 25, .ref t] h (fun o h' => o = .inl none ∧ am_fx [25, 28] h h' ∧ bl_S P h' (ins ++ [(t, L)]) ∧ am_I h' 25 6 = am_I h 25 6 ∧ am_I h' 25 7 = am_I h 25 7) := by
  obtain ⟨hK, i5, hn, hd, hs⟩ := id hB
  obtain ⟨k25, r0, k26, r2, r3, r4, k28, n28, k27, n27, r27, kts, krs⟩ := id hK
  have l10 : nI ins.length < 10 := nI_lt (b := 10) hc (by decide)
  have gx : (am_kd h t = 7 ∨ am_kd h t = 11) = True := eq_true hS.kd
  have i1 := am_inb (c := ins.length) (N := 10) hc (by omega)
  have q1 : (nI ins.length).toNatClampNeg = ins.length := nI_clamp (by omega)
  refine am_in' mt_Blend_addInput 2 rfl rfl rfl ?_
  refine am_go [29, 9] 4 ?_
  simp only [am_wp, am_stp, am_en, am_as, am_pad, am_nth, am_set, am_st1, am_st2, am_kl, am_kill, am_mem, am_fv, am_tk, am_wt, am_bk, Option.toList, List.cons_append, List.nil_append, Nat.reduceAdd, Nat.reduceEqDiff, Nat.reduceLeDiff, reduceIte, Nat.reduceLT, or_self, true_or, or_true, if_true, if_false, and_self, and_true, true_and, not_false_eq_true, not_true_eq_false, fd_Blend_addInput_0, fd_Blend_addInput_1, fd_Blend_addInput_4, fd_Blend_addInput_6, k25, i5, l10]
  refine am_go [] 6 ?_
  simp only [am_wp, am_stp, am_en, am_as, am_pad, am_nth, am_set, am_st1, am_st2, am_kl, am_kill, am_mem, am_fv, am_tk, am_wt, am_bk, Option.toList, List.cons_append, List.nil_append, Nat.reduceAdd, Nat.reduceEqDiff, Nat.reduceLeDiff, reduceIte, Nat.reduceLT, or_self, true_or, or_true, if_true, if_false, and_self, and_true, true_and, not_false_eq_true, not_true_eq_false, fd_Blend_addInput_9, fd_Blend_addInput_10, fd_Blend_addInput_13, fd_Blend_addInput_14, fd_Blend_addInput_17, fd_Blend_addInput_18, k25, r4, i5, k28, n28, gx, i1, q1]
  refine am_go [] 7 ?_
  simp only [am_wp, am_stp, am_en, am_as, am_pad, am_nth, am_set, am_st1, am_st2, am_kl, am_kill, am_mem, am_fv, am_tk, am_wt, am_bk, Option.toList, List.cons_append, List.nil_append, Nat.reduceAdd, Nat.reduceEqDiff, Nat.reduceLeDiff, reduceIte, Nat.reduceLT, or_self, true_or, or_true, if_true, if_false, and_self, and_true, true_and, not_false_eq_true, not_true_eq_false, fd_Blend_addInput_19, fd_Blend_addInput_20, fd_Blend_addInput_21, fd_Blend_addInput_24, fd_Blend_addInput_25, fd_Blend_addInput_26, fd_Blend_addInput_29, hx_kd_sR, hx_I_sR, k25, i5, nI_1]
  have F1 : am_fx [28] h (am_sR h 28 ins.length t) := am_fx.refl.sR (by simp)
  have F2 : am_fi [25] (am_sR h 28 ins.length t) (am_sI (am_sR h 28 ins.length t) 25 5 (nI (ins.length + 1))) := am_fi.refl.sI (by simp)
  have F : am_fx [25, 28] h (am_sI (am_sR h 28 ins.length t) 25 5 (nI (ins.length + 1))) := (F1.sub (by simp)).trans (F2.fx.sub (by simp))
  refine ⟨F, ⟨(hK.fx F1 (by simp)).fi F2, ?_, by simp; omega, ?_, fun s x hx => ?_⟩, ?_, ?_⟩
  · simp only [hx_nx_sI, hx_ce_sI, hx_sl_sI, hx_kd_sI, hx_ln_sI, hx_I_sI, hx_L_sI, hx_R_sI, hx_nx_sL, hx_ce_sL, hx_sl_sL, hx_kd_sL, hx_ln_sL, hx_I_sL, hx_L_sL, hx_R_sL, hx_nx_sR, hx_ce_sR, hx_sl_sR, hx_kd_sR, hx_ln_sR, hx_I_sR, hx_L_sR, hx_R_sR, hx_nx_al, hx_ce_al, hx_sl_al, hx_kd_al, hx_ln_al, hx_I_al, hx_L_al, hx_R_al, hx_nx_row, hx_ce_row, hx_sl_row, hx_kd_row, hx_ln_row, hx_I_row, hx_L_row, hx_R_row, hx_nx_mk, hx_kd_mk, hx_ln_mk, hx_I_mk, hx_L_mk, hx_R_mk, am_wp, am_stp, am_en, am_as, am_pad, am_nth, am_set, am_st1, am_st2, am_kl, am_kill, am_mem, am_fv, am_tk, am_wt, am_bk, Option.toList, List.cons_append, List.nil_append, Nat.reduceAdd, Nat.reduceEqDiff, Nat.reduceLeDiff, reduceIte, Nat.reduceLT, or_self, true_or, or_true, if_true, if_false, and_self, and_true, true_and, not_false_eq_true, not_true_eq_false, List.length_append, List.length_cons, List.length_nil]
  · rw [List.map_append]
    refine List.nodup_append.mpr ⟨hd, by simp, fun a ha b hb => ?_⟩
    have : b = t := by simpa using hb
    rw [this]
    exact fun e => ht (e ▸ ha)
  · by_cases e : s < ins.length
    · rw [List.getElem?_append_left e] at hx
      obtain ⟨u1, u2⟩ := hs s x hx
      have u3 := u2.1
      refine ⟨?_, u2.fi F (by simp; omega) (by simp)⟩
      simp only [hx_nx_sI, hx_ce_sI, hx_sl_sI, hx_kd_sI, hx_ln_sI, hx_I_sI, hx_L_sI, hx_R_sI, hx_nx_sL, hx_ce_sL, hx_sl_sL, hx_kd_sL, hx_ln_sL, hx_I_sL, hx_L_sL, hx_R_sL, hx_nx_sR, hx_ce_sR, hx_sl_sR, hx_kd_sR, hx_ln_sR, hx_I_sR, hx_L_sR, hx_R_sR, hx_nx_al, hx_ce_al, hx_sl_al, hx_kd_al, hx_ln_al, hx_I_al, hx_L_al, hx_R_al, hx_nx_row, hx_ce_row, hx_sl_row, hx_kd_row, hx_ln_row, hx_I_row, hx_L_row, hx_R_row, hx_nx_mk, hx_kd_mk, hx_ln_mk, hx_I_mk, hx_L_mk, hx_R_mk, am_wp, am_stp, am_en, am_as, am_pad, am_nth, am_set, am_st1, am_st2, am_kl, am_kill, am_mem, am_fv, am_tk, am_wt, am_bk, Option.toList, List.cons_append, List.nil_append, Nat.reduceAdd, Nat.reduceEqDiff, Nat.reduceLeDiff, reduceIte, Nat.reduceLT, or_self, true_or, or_true, if_true, if_false, and_self, and_true, true_and, not_false_eq_true, not_true_eq_false]
      rw [if_neg (by omega)]
      exact u1
    · have e2 : s = ins.length := by
        have := (List.getElem?_eq_some_iff.mp hx).1
        simp at this
        omega
      subst e2
      simp at hx
      subst hx
      have u3 := hS.1
      refine ⟨?_, hS.fi F (by simp; omega) (by simp)⟩
      simp only [hx_nx_sI, hx_ce_sI, hx_sl_sI, hx_kd_sI, hx_ln_sI, hx_I_sI, hx_L_sI, hx_R_sI, hx_nx_sL, hx_ce_sL, hx_sl_sL, hx_kd_sL, hx_ln_sL, hx_I_sL, hx_L_sL, hx_R_sL, hx_nx_sR, hx_ce_sR, hx_sl_sR, hx_kd_sR, hx_ln_sR, hx_I_sR, hx_L_sR, hx_R_sR, hx_nx_al, hx_ce_al, hx_sl_al, hx_kd_al, hx_ln_al, hx_I_al, hx_L_al, hx_R_al, hx_nx_row, hx_ce_row, hx_sl_row, hx_kd_row, hx_ln_row, hx_I_row, hx_L_row, hx_R_row, hx_nx_mk, hx_kd_mk, hx_ln_mk, hx_I_mk, hx_L_mk, hx_R_mk, am_wp, am_stp, am_en, am_as, am_pad, am_nth, am_set, am_st1, am_st2, am_kl, am_kill, am_mem, am_fv, am_tk, am_wt, am_bk, Option.toList, List.cons_append, List.nil_append, Nat.reduceAdd, Nat.reduceEqDiff, Nat.reduceLeDiff, reduceIte, Nat.reduceLT, or_self, true_or, or_true, if_true, if_false, and_self, and_true, true_and, not_false_eq_true, not_true_eq_false]
  · simp only [hx_nx_sI, hx_ce_sI, hx_sl_sI, hx_kd_sI, hx_ln_sI, hx_I_sI, hx_L_sI, hx_R_sI, hx_nx_sL, hx_ce_sL, hx_sl_sL, hx_kd_sL, hx_ln_sL, hx_I_sL, hx_L_sL, hx_R_sL, hx_nx_sR, hx_ce_sR, hx_sl_sR, hx_kd_sR, hx_ln_sR, hx_I_sR, hx_L_sR, hx_R_sR, hx_nx_al, hx_ce_al, hx_sl_al, hx_kd_al, hx_ln_al, hx_I_al, hx_L_al, hx_R_al, hx_nx_row, hx_ce_row, hx_sl_row, hx_kd_row, hx_ln_row, hx_I_row, hx_L_row, hx_R_row, hx_nx_mk, hx_kd_mk, hx_ln_mk, hx_I_mk, hx_L_mk, hx_R_mk, am_wp, am_stp, am_en, am_as, am_pad, am_nth, am_set, am_st1, am_st2, am_kl, am_kill, am_mem, am_fv, am_tk, am_wt, am_bk, Option.toList, List.cons_append, List.nil_append, Nat.reduceAdd, Nat.reduceEqDiff, Nat.reduceLeDiff, reduceIte, Nat.reduceLT, or_self, true_or, or_true, if_true, if_false, and_self, and_true, true_and, not_false_eq_true, not_true_eq_false]
  · simp only [hx_nx_sI, hx_ce_sI, hx_sl_sI, hx_kd_sI, hx_ln_sI, hx_I_sI, hx_L_sI, hx_R_sI, hx_nx_sL, hx_ce_sL, hx_sl_sL, hx_kd_sL, hx_ln_sL, hx_I_sL, hx_L_sL, hx_R_sL, hx_nx_sR, hx_ce_sR, hx_sl_sR, hx_kd_sR, hx_ln_sR, hx_I_sR, hx_L_sR, hx_R_sR, hx_nx_al, hx_ce_al, hx_sl_al, hx_kd_al, hx_ln_al, hx_I_al, hx_L_al, hx_R_al, hx_nx_row, hx_ce_row, hx_sl_row, hx_kd_row, hx_ln_row, hx_I_row, hx_L_row, hx_R_row, hx_nx_mk, hx_kd_mk, hx_ln_mk, hx_I_mk, hx_L_mk, hx_R_mk, am_wp, am_stp, am_en, am_as, am_pad, am_nth, am_set, am_st1, am_st2, am_kl, am_kill, am_mem, am_fv, am_tk, am_wt, am_bk, Option.toList, List.cons_append, List.nil_append, Nat.reduceAdd, Nat.reduceEqDiff, Nat.reduceLeDiff, reduceIte, Nat.reduceLT, or_self, true_or, or_true, if_true, if_false, and_self, and_true, true_and, not_false_eq_true, not_true_eq_false]
theorem bl_S.nil {P : Nat} {h : am_H} (hK : bl_K h) (h5 : am_I h 25 5 = 0) : bl_S P h [] := ⟨hK, h5, by simp, by simp, fun s x hx => by simp at hx⟩
theorem l2_addTable {d P n : Nat} {h : am_H} (hB : bl_S P h []) (T : tb_S h n) : am_Rt nm_pr (d + 2) mi_Blend_addTable [.ref 25] h (fun o h' => o = .inl none ∧ am_fx [25, 28, 29] h h' ∧ bl_S P h' [(29, tl h 0 n)] ∧ am_I h' 25 7 = am_I h 25 7) := by
  obtain ⟨k25, r0, k26, r2, r3, r4, k28, n28, k27, n27, r27, kts, krs⟩ := id hB.1
  have k29 := kts.1
  refine am_in' (d := d + 1) mt_Blend_addTable 1 rfl rfl rfl ?_
  refine am_go [] 3 ?_
  simp only [am_wp, am_stp, am_en, am_as, am_pad, am_nth, am_set, am_st1, am_st2, am_kl, am_kill, am_mem, am_fv, am_tk, am_wt, am_bk, Option.toList, List.cons_append, List.nil_append, Nat.reduceAdd, Nat.reduceEqDiff, Nat.reduceLeDiff, reduceIte, Nat.reduceLT, or_self, true_or, or_true, if_true, if_false, and_self, and_true, true_and, not_false_eq_true, not_true_eq_false, fd_Blend_addTable_0, fd_Blend_addTable_1, fd_Blend_addTable_4, k25, r2, k29]
  refine am_call (Q := fun o h' => o = .inl none ∧ h' = am_sI h 29 5 0) ?_ (fun o h1 q => ?_)
  · refine am_in' (d := d) mt_TableStream_start 1 rfl rfl rfl ?_
    refine am_go [] 5 ?_
    simp only [am_wp, am_stp, am_en, am_as, am_pad, am_nth, am_set, am_st1, am_st2, am_kl, am_kill, am_mem, am_fv, am_tk, am_wt, am_bk, Option.toList, List.cons_append, List.nil_append, Nat.reduceAdd, Nat.reduceEqDiff, Nat.reduceLeDiff, reduceIte, Nat.reduceLT, or_self, true_or, or_true, if_true, if_false, and_self, and_true, true_and, not_false_eq_true, not_true_eq_false, fd_TableStream_start_0, fd_TableStream_start_1, fd_TableStream_start_2, fd_TableStream_start_5, k29]
  obtain ⟨rfl, e1⟩ := q
  have F1 : am_fi [29] h h1 := by rw [e1]; exact am_fi.refl.sI (by simp)
  have z5 : am_I h1 29 5 = nI 0 := by rw [e1]; simp only [hx_nx_sI, hx_ce_sI, hx_sl_sI, hx_kd_sI, hx_ln_sI, hx_I_sI, hx_L_sI, hx_R_sI, hx_nx_sL, hx_ce_sL, hx_sl_sL, hx_kd_sL, hx_ln_sL, hx_I_sL, hx_L_sL, hx_R_sL, hx_nx_sR, hx_ce_sR, hx_sl_sR, hx_kd_sR, hx_ln_sR, hx_I_sR, hx_L_sR, hx_R_sR, hx_nx_al, hx_ce_al, hx_sl_al, hx_kd_al, hx_ln_al, hx_I_al, hx_L_al, hx_R_al, hx_nx_row, hx_ce_row, hx_sl_row, hx_kd_row, hx_ln_row, hx_I_row, hx_L_row, hx_R_row, hx_nx_mk, hx_kd_mk, hx_ln_mk, hx_I_mk, hx_L_mk, hx_R_mk, am_wp, am_stp, am_en, am_as, am_pad, am_nth, am_set, am_st1, am_st2, am_kl, am_kill, am_mem, am_fv, am_tk, am_wt, am_bk, Option.toList, List.cons_append, List.nil_append, Nat.reduceAdd, Nat.reduceEqDiff, Nat.reduceLeDiff, reduceIte, Nat.reduceLT, or_self, true_or, or_true, if_true, if_false, and_self, and_true, true_and, not_false_eq_true, not_true_eq_false]; rfl
  clear e1
  simp only [am_wp, am_stp, am_en, am_as, am_pad, am_nth, am_set, am_st1, am_st2, am_kl, am_kill, am_mem, am_fv, am_tk, am_wt, am_bk, Option.toList, List.cons_append, List.nil_append, Nat.reduceAdd, Nat.reduceEqDiff, Nat.reduceLeDiff, reduceIte, Nat.reduceLT, or_self, true_or, or_true, if_true, if_false, and_self, and_true, true_and, not_false_eq_true, not_true_eq_false]
  have K1 := hB.1.fi F1
  obtain ⟨k25', r0', k26', r2', r3', r4', k28', n28', k27', n27', r27', kts', krs'⟩ := id K1
  refine am_go [] 3 ?_
  simp only [am_wp, am_stp, am_en, am_as, am_pad, am_nth, am_set, am_st1, am_st2, am_kl, am_kill, am_mem, am_fv, am_tk, am_wt, am_bk, Option.toList, List.cons_append, List.nil_append, Nat.reduceAdd, Nat.reduceEqDiff, Nat.reduceLeDiff, reduceIte, Nat.reduceLT, or_self, true_or, or_true, if_true, if_false, and_self, and_true, true_and, not_false_eq_true, not_true_eq_false, fd_Blend_addTable_7, fd_Blend_addTable_8, fd_Blend_addTable_11, k25', r2', kts'.1]
  refine am_call (l2_TS_step (d := d) kts' (T.fi F1 (by simp)) z5 (Nat.zero_le _) (by decide)) (fun o h2 q => ?_)
  obtain ⟨rfl, F2, S2⟩ := q
  rw [Nat.sub_zero, tl_eq (h := h) (F1.2.2.2.2.2.2.2 4 (by simp)) (F1.2.2.2.2.2.2.1 5 (by simp)) (F1.2.2.2.2.2.2.2 6 (by simp))] at S2
  have F12 : am_fi [29] h h2 := F1.trans F2
  have I25 : am_I h2 25 = am_I h 25 := F12.2.2.2.2.2.2.1 25 (by simp)
  have B2 : bl_S P h2 [] := bl_S.nil (hB.1.fi F12) (by rw [I25]; exact hB.2.1)
  simp only [am_wp, am_stp, am_en, am_as, am_pad, am_nth, am_set, am_st1, am_st2, am_kl, am_kill, am_mem, am_fv, am_tk, am_wt, am_bk, Option.toList, List.cons_append, List.nil_append, Nat.reduceAdd, Nat.reduceEqDiff, Nat.reduceLeDiff, reduceIte, Nat.reduceLT, or_self, true_or, or_true, if_true, if_false, and_self, and_true, true_and, not_false_eq_true, not_true_eq_false]
  refine am_go [] 4 ?_
  simp only [am_wp, am_stp, am_en, am_as, am_pad, am_nth, am_set, am_st1, am_st2, am_kl, am_kill, am_mem, am_fv, am_tk, am_wt, am_bk, Option.toList, List.cons_append, List.nil_append, Nat.reduceAdd, Nat.reduceEqDiff, Nat.reduceLeDiff, reduceIte, Nat.reduceLT, or_self, true_or, or_true, if_true, if_false, and_self, and_true, true_and, not_false_eq_true, not_true_eq_false, fd_Blend_addTable_14, fd_Blend_addTable_15, fd_Blend_addTable_16, fd_Blend_addTable_19, B2.1.1, B2.1.2.2.2.1]
  refine am_call (l2_addInput (d := d) (L := tl h 0 n) B2 (by simp) ⟨by decide, Or.inr S2⟩ (by simp)) (fun o h3 q => ?_)
  obtain ⟨rfl, F3, B3, -, j7⟩ := q
  simp only [am_wp, am_stp, am_en, am_as, am_pad, am_nth, am_set, am_st1, am_st2, am_kl, am_kill, am_mem, am_fv, am_tk, am_wt, am_bk, Option.toList, List.cons_append, List.nil_append, Nat.reduceAdd, Nat.reduceEqDiff, Nat.reduceLeDiff, reduceIte, Nat.reduceLT, or_self, true_or, or_true, if_true, if_false, and_self, and_true, true_and, not_false_eq_true, not_true_eq_false]
  refine am_go [] 2 ?_
  simp only [am_wp, am_stp, am_en, am_as, am_pad, am_nth, am_set, am_st1, am_st2, am_kl, am_kill, am_mem, am_fv, am_tk, am_wt, am_bk, Option.toList, List.cons_append, List.nil_append, Nat.reduceAdd, Nat.reduceEqDiff, Nat.reduceLeDiff, reduceIte, Nat.reduceLT, or_self, true_or, or_true, if_true, if_false, and_self, and_true, true_and, not_false_eq_true, not_true_eq_false, fd_Blend_addTable_22]
  exact ⟨(F12.fx.sub (by simp)).trans (F3.sub (by simp)), B3, by rw [j7, I25]⟩
theorem l2_blendTable {d P n : Nat} {h : am_H} (k2 : am_kd h 2 = 1) (r5 : am_R h 2 5 = 25) (hK : bl_K h) (T : tb_S h n) : am_Rt nm_pr (d + 3) mi_SR_blendTable [.ref 2] h (fun o h' => o = .inl none ∧ am_fx [25, 28, 29] h h' ∧ bl_S P h' [(29, tl h 0 n)] ∧ am_I h' 25 7 = 0) := by
  have k25 := hK.1
  refine am_in' (d := d + 2) mt_SR_blendTable 1 rfl rfl rfl ?_
  refine am_go [] 4 ?_
  simp only [am_wp, am_stp, am_en, am_as, am_pad, am_nth, am_set, am_st1, am_st2, am_kl, am_kill, am_mem, am_fv, am_tk, am_wt, am_bk, Option.toList, List.cons_append, List.nil_append, Nat.reduceAdd, Nat.reduceEqDiff, Nat.reduceLeDiff, reduceIte, Nat.reduceLT, or_self, true_or, or_true, if_true, if_false, and_self, and_true, true_and, not_false_eq_true, not_true_eq_false, fd_SR_blendTable_0, fd_SR_blendTable_1, fd_SR_blendTable_4, fd_SR_blendTable_5, k2, r5, k25]
  refine am_call (l2_Bl_begin (d := d + 1) k25 (Or.inl rfl)) (fun o h1 q => ?_)
  obtain ⟨rfl, F1, j5, j6, j7⟩ := q
  have B1 : bl_S P h1 [] := bl_S.nil (hK.fi F1) j5
  have k2' : am_kd h1 2 = 1 := by rw [F1.2.2.2.1]; exact k2
  have r5' : am_R h1 2 5 = 25 := by rw [F1.2.2.2.2.2.1]; exact r5
  simp only [am_wp, am_stp, am_en, am_as, am_pad, am_nth, am_set, am_st1, am_st2, am_kl, am_kill, am_mem, am_fv, am_tk, am_wt, am_bk, Option.toList, List.cons_append, List.nil_append, Nat.reduceAdd, Nat.reduceEqDiff, Nat.reduceLeDiff, reduceIte, Nat.reduceLT, or_self, true_or, or_true, if_true, if_false, and_self, and_true, true_and, not_false_eq_true, not_true_eq_false]
  refine am_go [] 3 ?_
  simp only [am_wp, am_stp, am_en, am_as, am_pad, am_nth, am_set, am_st1, am_st2, am_kl, am_kill, am_mem, am_fv, am_tk, am_wt, am_bk, Option.toList, List.cons_append, List.nil_append, Nat.reduceAdd, Nat.reduceEqDiff, Nat.reduceLeDiff, reduceIte, Nat.reduceLT, or_self, true_or, or_true, if_true, if_false, and_self, and_true, true_and, not_false_eq_true, not_true_eq_false, fd_SR_blendTable_8, fd_SR_blendTable_9, fd_SR_blendTable_12, k2', r5', B1.1.1]
  refine am_call (l2_addTable (d := d) B1 (T.fi F1 (by simp))) (fun o h2 q => ?_)
  obtain ⟨rfl, F2, B2, i7⟩ := q
  rw [tl_eq (h := h) (F1.2.2.2.2.2.2.2 4 (by simp)) (F1.2.2.2.2.2.2.1 5 (by simp)) (F1.2.2.2.2.2.2.2 6 (by simp))] at B2
  simp only [am_wp, am_stp, am_en, am_as, am_pad, am_nth, am_set, am_st1, am_st2, am_kl, am_kill, am_mem, am_fv, am_tk, am_wt, am_bk, Option.toList, List.cons_append, List.nil_append, Nat.reduceAdd, Nat.reduceEqDiff, Nat.reduceLeDiff, reduceIte, Nat.reduceLT, or_self, true_or, or_true, if_true, if_false, and_self, and_true, true_and, not_false_eq_true, not_true_eq_false]
  refine am_go [] 2 ?_
  simp only [am_wp, am_stp, am_en, am_as, am_pad, am_nth, am_set, am_st1, am_st2, am_kl, am_kill, am_mem, am_fv, am_tk, am_wt, am_bk, Option.toList, List.cons_append, List.nil_append, Nat.reduceAdd, Nat.reduceEqDiff, Nat.reduceLeDiff, reduceIte, Nat.reduceLT, or_self, true_or, or_true, if_true, if_false, and_self, and_true, true_and, not_false_eq_true, not_true_eq_false, fd_SR_blendTable_15]
  exact ⟨(F1.fx.sub (by simp)).trans F2, B2, by rw [i7, j7]⟩
/-- a run at address a can be read: its pages ps -/
def rd_S (P : Nat) (h : am_H) (a : Nat) (ps : List (Nat × List ent)) : Prop := am_kd h a = 5 ∧ am_I h a 4 = nI ps.length ∧ ps.length < 2000 ∧ ch_C P h ps ∧ ∃ q rest, ps = q :: rest ∧ am_I h a 3 = nI q.1 ∧ ∀ x ∈ rest, (-9223372036854775808 : Int64) < am_L h 24 x.1
theorem rd_S.fx {P a : Nat} {S : List Nat} {ps : List (Nat × List ent)} {h h' : am_H} (c : rd_S P h a ps) (f : am_fx S h h') (hS : a ∉ S ∧ 19 ∉ S ∧ 23 ∉ S ∧ 24 ∉ S ∧ 22 ∉ S) : rd_S P h' a ps := by
  obtain ⟨c1, c2, c3, c4, q, rest, c5, c6, c7⟩ := c
  obtain ⟨f1, f2, f3, f4, f5, f6, f7, f8⟩ := f
  refine ⟨by rw [f4]; exact c1, by rw [f6 a hS.1]; exact c2, c3, c4.mono (fun q _ j _ => congrFun (f6 19 hS.2.1) _) (fun q _ => congrFun (f6 23 hS.2.2.1) _) (fun q _ => congrFun (f6 22 hS.2.2.2.2) _), q, rest, c5, by rw [f6 a hS.1]; exact c6, fun x hx => ?_⟩
  rw [f7 24 hS.2.2.2.1]
  exact c7 x hx
theorem l2_beginsAbove {d P p : Nat} {key : Int64} {h : am_H} (hP : cl_Sp P h) (h2 : 2 ≤ p) (hp : p < P) (hk : key < am_L h 24 p) : am_Rt nm_pr (d + 2) mi_Space_beginsAbove [.ref 21, .int (nI p), .long key] h (fun o h' => o = .inl (some (.int 1)) ∧ h' = h) := by
  obtain ⟨k21, r1, r2, r3, i0, k22, n22, k23, n23, k24, n24, p4, p1⟩ := id hP
  have i1 := am_inb (c := p) (N := P) hp (by omega)
  have q1 : (nI p).toNatClampNeg = p := nI_clamp (by omega)
  have one0 : ¬ (1 : Int32) = 0 := by decide
  have o1 : (1 : Int32) = 0 ∨ (1 : Int32) = 1 := by decide
  refine am_in' (d := d + 1) mt_Space_beginsAbove 4 rfl rfl rfl ?_
  refine am_go [] 3 ?_
  simp only [am_wp, am_stp, am_en, am_as, am_pad, am_nth, am_set, am_st1, am_st2, am_kl, am_kill, am_mem, am_fv, am_tk, am_wt, am_bk, Option.toList, List.cons_append, List.nil_append, Nat.reduceAdd, Nat.reduceEqDiff, Nat.reduceLeDiff, reduceIte, Nat.reduceLT, or_self, true_or, or_true, if_true, if_false, and_self, and_true, true_and, not_false_eq_true, not_true_eq_false, fd_Space_beginsAbove_0, fd_Space_beginsAbove_1, fd_Space_beginsAbove_2, k21]
  refine am_call (l2_Sp_has hP h2 hp) (fun o h1 q => ?_)
  obtain ⟨rfl, rfl⟩ := q
  simp only [am_wp, am_stp, am_en, am_as, am_pad, am_nth, am_set, am_st1, am_st2, am_kl, am_kill, am_mem, am_fv, am_tk, am_wt, am_bk, Option.toList, List.cons_append, List.nil_append, Nat.reduceAdd, Nat.reduceEqDiff, Nat.reduceLeDiff, reduceIte, Nat.reduceLT, or_self, true_or, or_true, if_true, if_false, and_self, and_true, true_and, not_false_eq_true, not_true_eq_false]
  refine am_go [19, 23] 8 ?_
  simp only [am_wp, am_stp, am_en, am_as, am_pad, am_nth, am_set, am_st1, am_st2, am_kl, am_kill, am_mem, am_fv, am_tk, am_wt, am_bk, Option.toList, List.cons_append, List.nil_append, Nat.reduceAdd, Nat.reduceEqDiff, Nat.reduceLeDiff, reduceIte, Nat.reduceLT, or_self, true_or, or_true, if_true, if_false, and_self, and_true, true_and, not_false_eq_true, not_true_eq_false, fd_Space_beginsAbove_5, fd_Space_beginsAbove_8, fd_Space_beginsAbove_9, fd_Space_beginsAbove_12, fd_Space_beginsAbove_13, fd_Space_beginsAbove_14, fd_Space_beginsAbove_15, fd_Space_beginsAbove_16, k21, r3, k24, n24, i1, q1, one0]
  simp only [lc_gt]
  simp only [hk, am_wp, am_stp, am_en, am_as, am_pad, am_nth, am_set, am_st1, am_st2, am_kl, am_kill, am_mem, am_fv, am_tk, am_wt, am_bk, Option.toList, List.cons_append, List.nil_append, Nat.reduceAdd, Nat.reduceEqDiff, Nat.reduceLeDiff, reduceIte, Nat.reduceLT, or_self, true_or, or_true, if_true, if_false, and_self, and_true, true_and, not_false_eq_true, not_true_eq_false]
  refine am_go [] 4 ?_
  simp only [am_wp, am_stp, am_en, am_as, am_pad, am_nth, am_set, am_st1, am_st2, am_kl, am_kill, am_mem, am_fv, am_tk, am_wt, am_bk, Option.toList, List.cons_append, List.nil_append, Nat.reduceAdd, Nat.reduceEqDiff, Nat.reduceLeDiff, reduceIte, Nat.reduceLT, or_self, true_or, or_true, if_true, if_false, and_self, and_true, true_and, not_false_eq_true, not_true_eq_false, fd_Space_beginsAbove_19, fd_Space_beginsAbove_20, fd_Space_beginsAbove_24, o1]
theorem l2_RS_start {d P t a : Nat} {ps : List (Nat × List ent)} {h : am_H} (hSp : cl_Sp P h) (hK : rs_K h t) (hR : rd_S P h a ps) (ht : t ≠ a ∧ t ≠ 19 ∧ t ≠ 21 ∧ t ≠ 23 ∧ t ≠ 24 ∧ t ≠ 22) : am_Rt nm_pr (d + 3) mi_RunStream_start [.ref t, .ref a, .long (-9223372036854775808)] h (fun o h' => o = .inl none ∧ am_fi [t] h h' ∧ ps_S P h' t [] ps) := by
  obtain ⟨ka, i4, hl, hC, q, rest, rfl, i3, hf⟩ := id hR
  have kt := hK.1
  have ta : a ≠ t := fun e => ht.1 e.symm
  refine am_in' (d := d + 2) mt_RunStream_start 4 rfl rfl rfl ?_
  refine am_go [21] 11 ?_
  simp only [am_wp, am_stp, am_en, am_as, am_pad, am_nth, am_set, am_st1, am_st2, am_kl, am_kill, am_mem, am_fv, am_tk, am_wt, am_bk, Option.toList, List.cons_append, List.nil_append, Nat.reduceAdd, Nat.reduceEqDiff, Nat.reduceLeDiff, reduceIte, Nat.reduceLT, or_self, true_or, or_true, if_true, if_false, and_self, and_true, true_and, not_false_eq_true, not_true_eq_false, fd_RunStream_start_0, fd_RunStream_start_1, fd_RunStream_start_2, fd_RunStream_start_5, fd_RunStream_start_8, fd_RunStream_start_9, fd_RunStream_start_10, fd_RunStream_start_13, fd_RunStream_start_16, fd_RunStream_start_17, fd_RunStream_start_18, hx_nx_sI, hx_ce_sI, hx_sl_sI, hx_kd_sI, hx_ln_sI, hx_I_sI, hx_L_sI, hx_R_sI, hx_nx_sL, hx_ce_sL, hx_sl_sL, hx_kd_sL, hx_ln_sL, hx_I_sL, hx_L_sL, hx_R_sL, hx_nx_sR, hx_ce_sR, hx_sl_sR, hx_kd_sR, hx_ln_sR, hx_I_sR, hx_L_sR, hx_R_sR, hx_nx_al, hx_ce_al, hx_sl_al, hx_kd_al, hx_ln_al, hx_I_al, hx_L_al, hx_R_al, hx_nx_row, hx_ce_row, hx_sl_row, hx_kd_row, hx_ln_row, hx_I_row, hx_L_row, hx_R_row, hx_nx_mk, hx_kd_mk, hx_ln_mk, hx_I_mk, hx_L_mk, hx_R_mk, kt, ka, i3, i4, ta]
  have F : am_fi [t] h (am_sI (am_sI (am_sI h t 6 (nI q.1)) t 7 (nI (q :: rest).length)) t 8 0) := ((am_fi.refl.sI (by simp)).sI (by simp)).sI (by simp)
  have y6 : am_I (am_sI (am_sI (am_sI h t 6 (nI q.1)) t 7 (nI (q :: rest).length)) t 8 0) t 6 = nI q.1 := by simp only [hx_nx_sI, hx_ce_sI, hx_sl_sI, hx_kd_sI, hx_ln_sI, hx_I_sI, hx_L_sI, hx_R_sI, hx_nx_sL, hx_ce_sL, hx_sl_sL, hx_kd_sL, hx_ln_sL, hx_I_sL, hx_L_sL, hx_R_sL, hx_nx_sR, hx_ce_sR, hx_sl_sR, hx_kd_sR, hx_ln_sR, hx_I_sR, hx_L_sR, hx_R_sR, hx_nx_al, hx_ce_al, hx_sl_al, hx_kd_al, hx_ln_al, hx_I_al, hx_L_al, hx_R_al, hx_nx_row, hx_ce_row, hx_sl_row, hx_kd_row, hx_ln_row, hx_I_row, hx_L_row, hx_R_row, hx_nx_mk, hx_kd_mk, hx_ln_mk, hx_I_mk, hx_L_mk, hx_R_mk, am_wp, am_stp, am_en, am_as, am_pad, am_nth, am_set, am_st1, am_st2, am_kl, am_kill, am_mem, am_fv, am_tk, am_wt, am_bk, Option.toList, List.cons_append, List.nil_append, Nat.reduceAdd, Nat.reduceEqDiff, Nat.reduceLeDiff, reduceIte, Nat.reduceLT, or_self, true_or, or_true, if_true, if_false, and_self, and_true, true_and, not_false_eq_true, not_true_eq_false]
  have y7 : am_I (am_sI (am_sI (am_sI h t 6 (nI q.1)) t 7 (nI (q :: rest).length)) t 8 0) t 7 = nI (q :: rest).length := by simp only [hx_nx_sI, hx_ce_sI, hx_sl_sI, hx_kd_sI, hx_ln_sI, hx_I_sI, hx_L_sI, hx_R_sI, hx_nx_sL, hx_ce_sL, hx_sl_sL, hx_kd_sL, hx_ln_sL, hx_I_sL, hx_L_sL, hx_R_sL, hx_nx_sR, hx_ce_sR, hx_sl_sR, hx_kd_sR, hx_ln_sR, hx_I_sR, hx_L_sR, hx_R_sR, hx_nx_al, hx_ce_al, hx_sl_al, hx_kd_al, hx_ln_al, hx_I_al, hx_L_al, hx_R_al, hx_nx_row, hx_ce_row, hx_sl_row, hx_kd_row, hx_ln_row, hx_I_row, hx_L_row, hx_R_row, hx_nx_mk, hx_kd_mk, hx_ln_mk, hx_I_mk, hx_L_mk, hx_R_mk, am_wp, am_stp, am_en, am_as, am_pad, am_nth, am_set, am_st1, am_st2, am_kl, am_kill, am_mem, am_fv, am_tk, am_wt, am_bk, Option.toList, List.cons_append, List.nil_append, Nat.reduceAdd, Nat.reduceEqDiff, Nat.reduceLeDiff, reduceIte, Nat.reduceLT, or_self, true_or, or_true, if_true, if_false, and_self, and_true, true_and, not_false_eq_true, not_true_eq_false]
  have y8 : am_I (am_sI (am_sI (am_sI h t 6 (nI q.1)) t 7 (nI (q :: rest).length)) t 8 0) t 8 = 0 := by simp only [hx_nx_sI, hx_ce_sI, hx_sl_sI, hx_kd_sI, hx_ln_sI, hx_I_sI, hx_L_sI, hx_R_sI, hx_nx_sL, hx_ce_sL, hx_sl_sL, hx_kd_sL, hx_ln_sL, hx_I_sL, hx_L_sL, hx_R_sL, hx_nx_sR, hx_ce_sR, hx_sl_sR, hx_kd_sR, hx_ln_sR, hx_I_sR, hx_L_sR, hx_R_sR, hx_nx_al, hx_ce_al, hx_sl_al, hx_kd_al, hx_ln_al, hx_I_al, hx_L_al, hx_R_al, hx_nx_row, hx_ce_row, hx_sl_row, hx_kd_row, hx_ln_row, hx_I_row, hx_L_row, hx_R_row, hx_nx_mk, hx_kd_mk, hx_ln_mk, hx_I_mk, hx_L_mk, hx_R_mk, am_wp, am_stp, am_en, am_as, am_pad, am_nth, am_set, am_st1, am_st2, am_kl, am_kill, am_mem, am_fv, am_tk, am_wt, am_bk, Option.toList, List.cons_append, List.nil_append, Nat.reduceAdd, Nat.reduceEqDiff, Nat.reduceLeDiff, reduceIte, Nat.reduceLT, or_self, true_or, or_true, if_true, if_false, and_self, and_true, true_and, not_false_eq_true, not_true_eq_false]
  generalize am_sI (am_sI (am_sI h t 6 (nI q.1)) t 7 (nI (q :: rest).length)) t 8 0 = g at F y6 y7 y8 ⊢
  have b19 : am_I g 19 = am_I h 19 := F.2.2.2.2.2.2.1 19 (by simp; omega)
  have b23 : am_I g 23 = am_I h 23 := F.2.2.2.2.2.2.1 23 (by simp; omega)
  have b22 : am_I g 22 = am_I h 22 := F.2.2.2.2.2.2.1 22 (by simp; omega)
  have b24 : am_L g 24 = am_L h 24 := F.2.2.2.2.2.2.2 24 (by simp; omega)
  have hC' : ch_C P g (q :: rest) := hC.mono (fun q _ j _ => congrFun b19 _) (fun q _ => congrFun b23 _) (fun q _ => congrFun b22 _)
  have Sp' := hSp.fi F (by simp; omega)
  have K' := hK.fi F
  have done : ps_S P g t [] (q :: rest) := ⟨K', y8, by simp, by simp, fun c => absurd rfl c, y7, hl, y6, hC'⟩
  cases rest with
  | nil =>
    have l1 : ¬ (1 : Int32) < nI [q].length := by show ¬ (1 : Int32) < nI 1; decide
    refine am_go [29] 6 ?_
    simp only [am_wp, am_stp, am_en, am_as, am_pad, am_nth, am_set, am_st1, am_st2, am_kl, am_kill, am_mem, am_fv, am_tk, am_wt, am_bk, Option.toList, List.cons_append, List.nil_append, Nat.reduceAdd, Nat.reduceEqDiff, Nat.reduceLeDiff, reduceIte, Nat.reduceLT, or_self, true_or, or_true, if_true, if_false, and_self, and_true, true_and, not_false_eq_true, not_true_eq_false, fd_RunStream_start_21, fd_RunStream_start_22, fd_RunStream_start_25, fd_RunStream_start_26, fd_RunStream_start_79, K'.1, y7, l1]
    exact ⟨F, done⟩
  | cons q' rest =>
    have l1 : (1 : Int32) < nI (q :: q' :: rest).length := nI_lt (a := 1) (by simp) (by omega)
    have hp := hC'.1
    have hp' := hC'.2.2.1
    have hn : am_I g 23 q.1 = nI q'.1 := hC'.2.1
    refine am_go [29, 79] 4 ?_
    simp only [am_wp, am_stp, am_en, am_as, am_pad, am_nth, am_set, am_st1, am_st2, am_kl, am_kill, am_mem, am_fv, am_tk, am_wt, am_bk, Option.toList, List.cons_append, List.nil_append, Nat.reduceAdd, Nat.reduceEqDiff, Nat.reduceLeDiff, reduceIte, Nat.reduceLT, or_self, true_or, or_true, if_true, if_false, and_self, and_true, true_and, not_false_eq_true, not_true_eq_false, fd_RunStream_start_21, fd_RunStream_start_22, fd_RunStream_start_25, fd_RunStream_start_26, K'.1, y7, l1]
    refine am_go [] 7 ?_
    simp only [am_wp, am_stp, am_en, am_as, am_pad, am_nth, am_set, am_st1, am_st2, am_kl, am_kill, am_mem, am_fv, am_tk, am_wt, am_bk, Option.toList, List.cons_append, List.nil_append, Nat.reduceAdd, Nat.reduceEqDiff, Nat.reduceLeDiff, reduceIte, Nat.reduceLT, or_self, true_or, or_true, if_true, if_false, and_self, and_true, true_and, not_false_eq_true, not_true_eq_false, fd_RunStream_start_29, fd_RunStream_start_30, fd_RunStream_start_33, fd_RunStream_start_34, fd_RunStream_start_37, fd_RunStream_start_38, fd_RunStream_start_41, K'.1, K'.2.2, y6, Sp'.1]
    refine am_call (l2_Sp_after (d := d) Sp' hp.1 hp.2.1.1) (fun o h1 z => ?_)
    obtain ⟨rfl, rfl⟩ := z
    rw [hn]
    simp only [am_wp, am_stp, am_en, am_as, am_pad, am_nth, am_set, am_st1, am_st2, am_kl, am_kill, am_mem, am_fv, am_tk, am_wt, am_bk, Option.toList, List.cons_append, List.nil_append, Nat.reduceAdd, Nat.reduceEqDiff, Nat.reduceLeDiff, reduceIte, Nat.reduceLT, or_self, true_or, or_true, if_true, if_false, and_self, and_true, true_and, not_false_eq_true, not_true_eq_false]
    refine am_go [] 2 ?_
    simp only [am_wp, am_stp, am_en, am_as, am_pad, am_nth, am_set, am_st1, am_st2, am_kl, am_kill, am_mem, am_fv, am_tk, am_wt, am_bk, Option.toList, List.cons_append, List.nil_append, Nat.reduceAdd, Nat.reduceEqDiff, Nat.reduceLeDiff, reduceIte, Nat.reduceLT, or_self, true_or, or_true, if_true, if_false, and_self, and_true, true_and, not_false_eq_true, not_true_eq_false, fd_RunStream_start_44, fd_RunStream_start_45, Sp'.1]
    refine am_call (l2_beginsAbove (d := d) Sp' hp'.1 hp'.2.1.1 (by rw [b24]; exact hf q' (by simp))) (fun o h2 z => ?_)
    obtain ⟨rfl, rfl⟩ := z
    have one0 : ¬ (1 : Int32) = 0 := by decide
    simp only [am_wp, am_stp, am_en, am_as, am_pad, am_nth, am_set, am_st1, am_st2, am_kl, am_kill, am_mem, am_fv, am_tk, am_wt, am_bk, Option.toList, List.cons_append, List.nil_append, Nat.reduceAdd, Nat.reduceEqDiff, Nat.reduceLeDiff, reduceIte, Nat.reduceLT, or_self, true_or, or_true, if_true, if_false, and_self, and_true, true_and, not_false_eq_true, not_true_eq_false]
    refine am_go [51] 3 ?_
    simp only [am_wp, am_stp, am_en, am_as, am_pad, am_nth, am_set, am_st1, am_st2, am_kl, am_kill, am_mem, am_fv, am_tk, am_wt, am_bk, Option.toList, List.cons_append, List.nil_append, Nat.reduceAdd, Nat.reduceEqDiff, Nat.reduceLeDiff, reduceIte, Nat.reduceLT, or_self, true_or, or_true, if_true, if_false, and_self, and_true, true_and, not_false_eq_true, not_true_eq_false, fd_RunStream_start_48, fd_RunStream_start_79, one0]
    exact ⟨F, done⟩
