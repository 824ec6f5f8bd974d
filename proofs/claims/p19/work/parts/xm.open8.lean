/-! THE REFERENCE OPENS, 8 -/
theorem rR.emp {P : Nat} {h g : am_H} {E : Nat → List ent} {now : List Nat} {mk : Nat → List Nat} (R : rR P h E now mk) (e : al now mk = []) (F : oF h g) : rR P g E now mk := by
  have w := F.1.2.2.2.2.2.2.1
  have en : now = [] := by
    simp only [al, List.append_eq_nil_iff] at e
    exact e.1
  refine ⟨?_, ?_, ⟨?_, fun s hs => ?_⟩, ?_⟩
  · subst en
    refine ⟨?_, by simp, by simp, trivial, Nat.zero_le _⟩
    rw [F.2 24 (by decide) (by decide) (by decide)]; exact R.1.1
  · unfold rR_m
    rw [w 87 (by decide), w 88 (by decide), w 89 (by decide)]; exact R.2.1
  · rw [w 77 (by decide)]; exact R.2.2.1.1
  · rw [e] at hs; simp at hs
  · rw [F.2 3 (by decide) (by decide) (by decide)]; exact R.2.2.2
noncomputable def cE (P : Nat) (h : am_H) (q : Nat) : List ent := @dite _ (∃ L, pg_M P h q L ∧ so L) (Classical.propDecidable _) (fun hq => Classical.choose hq) (fun _ => [])
theorem cE_eq {P q : Nat} {h : am_H} {L : List ent} (hS : mo_Sk h) (hP : P ≤ 1024) (M : pg_M P h q L) (sL : so L) : cE P h q = L := by
  have hq : ∃ L, pg_M P h q L ∧ so L := ⟨L, M, sL⟩
  unfold cE
  rw [dif_pos hq]
  exact pg_M.uniq hS hP (Classical.choose_spec hq).1 M
theorem rx_open {d P : Nat} {h : am_H} (R : rI P h) : am_Rt nm_pr (d + 4) mi_Mo_open [.ref 72] h (fun o h' => iany o ∧ rq P h h') := by
  have hS := R.1.1
  have q0 := rq.refl R
  have one0 : ¬ (1 : Int32) = 0 := by decide
  refine am_in' (d := d + 3) mt_Mo_open 12 rfl rfl rfl ?_
  by_cases e3 : am_I h 72 3 = 0
  · refine am_go [8, 12] 4 ?_
    simp only [am_wp, am_stp, am_en, am_as, am_pad, am_nth, am_set, am_st1, am_st2, am_kl, am_kill, am_mem, am_fv, am_tk, am_wt, am_bk, Option.toList, List.cons_append, List.nil_append, Nat.reduceAdd, Nat.reduceEqDiff, Nat.reduceLeDiff, reduceIte, Nat.reduceLT, or_self, true_or, or_true, if_true, if_false, and_self, and_true, true_and, not_false_eq_true, not_true_eq_false, fd_Mo_open_0, fd_Mo_open_1, fd_Mo_open_2, fd_Mo_open_5, hS.all, e3]
    refine am_go [16] 2 ?_
    simp only [am_wp, am_stp, am_en, am_as, am_pad, am_nth, am_set, am_st1, am_st2, am_kl, am_kill, am_mem, am_fv, am_tk, am_wt, am_bk, Option.toList, List.cons_append, List.nil_append, Nat.reduceAdd, Nat.reduceEqDiff, Nat.reduceLeDiff, reduceIte, Nat.reduceLT, or_self, true_or, or_true, if_true, if_false, and_self, and_true, true_and, not_false_eq_true, not_true_eq_false, fd_Mo_open_12, fd_Mo_open_13, hS.all]
    have q1 := q0.s (j := 0) (v := 1) (by unfold rJ; omega)
    have e0 : am_I (am_sI h 72 0 1) 72 0 = 1 := by rw [hx_I_sI, if_pos rfl, if_pos rfl]
    generalize am_sI h 72 0 1 = g at *
    have S1 := q1.1.1.1
    refine am_go [23, 25] 3 ?_
    simp only [am_wp, am_stp, am_en, am_as, am_pad, am_nth, am_set, am_st1, am_st2, am_kl, am_kill, am_mem, am_fv, am_tk, am_wt, am_bk, Option.toList, List.cons_append, List.nil_append, Nat.reduceAdd, Nat.reduceEqDiff, Nat.reduceLeDiff, reduceIte, Nat.reduceLT, or_self, true_or, or_true, if_true, if_false, and_self, and_true, true_and, not_false_eq_true, not_true_eq_false, fd_Mo_open_16, fd_Mo_open_17, fd_Mo_open_20, S1.all, e0, one0]
    refine am_go [] 2 ?_
    simp only [am_wp, am_stp, am_en, am_as, am_pad, am_nth, am_set, am_st1, am_st2, am_kl, am_kill, am_mem, am_fv, am_tk, am_wt, am_bk, Option.toList, List.cons_append, List.nil_append, Nat.reduceAdd, Nat.reduceEqDiff, Nat.reduceLeDiff, reduceIte, Nat.reduceLT, or_self, true_or, or_true, if_true, if_false, and_self, and_true, true_and, not_false_eq_true, not_true_eq_false, fd_Mo_open_23, fd_Mo_open_24, S1.all]
    exact ⟨⟨_, rfl⟩, q1⟩
  refine am_go [8, 12] 4 ?_
  simp only [am_wp, am_stp, am_en, am_as, am_pad, am_nth, am_set, am_st1, am_st2, am_kl, am_kill, am_mem, am_fv, am_tk, am_wt, am_bk, Option.toList, List.cons_append, List.nil_append, Nat.reduceAdd, Nat.reduceEqDiff, Nat.reduceLeDiff, reduceIte, Nat.reduceLT, or_self, true_or, or_true, if_true, if_false, and_self, and_true, true_and, not_false_eq_true, not_true_eq_false, fd_Mo_open_0, fd_Mo_open_1, fd_Mo_open_2, fd_Mo_open_5, hS.all, e3]
  refine am_go [16] 3 ?_
  simp only [am_wp, am_stp, am_en, am_as, am_pad, am_nth, am_set, am_st1, am_st2, am_kl, am_kill, am_mem, am_fv, am_tk, am_wt, am_bk, Option.toList, List.cons_append, List.nil_append, Nat.reduceAdd, Nat.reduceEqDiff, Nat.reduceLeDiff, reduceIte, Nat.reduceLT, or_self, true_or, or_true, if_true, if_false, and_self, and_true, true_and, not_false_eq_true, not_true_eq_false, fd_Mo_open_8, fd_Mo_open_9, fd_Mo_open_13, hS.all]
  have q1 := q0.s (j := 0) (v := 0) (by unfold rJ; omega)
  have e0 : am_I (am_sI h 72 0 0) 72 0 = 0 := by rw [hx_I_sI, if_pos rfl, if_pos rfl]
  have e3' : ¬ am_I (am_sI h 72 0 0) 72 3 = 0 := by rw [hx_I_sI, if_pos rfl, if_neg (by decide)]; exact e3
  generalize am_sI h 72 0 0 = g at *
  obtain ⟨C, E0, now, mk, RR⟩ := id q1.1
  have S1 := C.1
  have P1024 := C.2.2.1
  have emp : al now mk = [] := by
    rcases RR.2.2.2 with z | ⟨-, z⟩
    · exact absurd z e3'
    · exact z
  have dead : ∀ g', oF g g' → rq P h g' := fun g' F => ⟨⟨F.C C, E0, now, mk, RR.emp emp F⟩, q1.2.trans (F.1.sub (by decide))⟩
  refine am_go [23, 25] 3 ?_
  simp only [am_wp, am_stp, am_en, am_as, am_pad, am_nth, am_set, am_st1, am_st2, am_kl, am_kill, am_mem, am_fv, am_tk, am_wt, am_bk, Option.toList, List.cons_append, List.nil_append, Nat.reduceAdd, Nat.reduceEqDiff, Nat.reduceLeDiff, reduceIte, Nat.reduceLT, or_self, true_or, or_true, if_true, if_false, and_self, and_true, true_and, not_false_eq_true, not_true_eq_false, fd_Mo_open_16, fd_Mo_open_17, fd_Mo_open_20, S1.all, e0]
  refine am_go [] 3 ?_
  simp only [am_wp, am_stp, am_en, am_as, am_pad, am_nth, am_set, am_st1, am_st2, am_kl, am_kill, am_mem, am_fv, am_tk, am_wt, am_bk, Option.toList, List.cons_append, List.nil_append, Nat.reduceAdd, Nat.reduceEqDiff, Nat.reduceLeDiff, reduceIte, Nat.reduceLT, or_self, true_or, or_true, if_true, if_false, and_self, and_true, true_and, not_false_eq_true, not_true_eq_false, fd_Mo_open_25, fd_Mo_open_26, fd_Mo_open_27, S1.all]
  refine am_call (rx_generationOf (d := d) (pg := 0) S1 (by omega)) (fun o g1 w => ?_)
  obtain ⟨w0, rfl⟩ := w
  obtain ⟨ev, rfl, hev⟩ : ∃ ev : Int32, o = .inl (some (.int ev)) ∧ (ev = 0 ∨ (0 < ev ∧ ∃ ls, am_I g1 73 (128 * 0 + 6) &&& 255 = nI ls.length ∧ ar_Q g1 0 ls)) := by
    rcases w0 with z | ⟨x, x1, x2, x3⟩
    · exact ⟨0, z, Or.inl rfl⟩
    · exact ⟨x, x2, Or.inr ⟨x1, x3⟩⟩
  simp only [am_wp, am_stp, am_en, am_as, am_pad, am_nth, am_set, am_st1, am_st2, am_kl, am_kill, am_mem, am_fv, am_tk, am_wt, am_bk, Option.toList, List.cons_append, List.nil_append, Nat.reduceAdd, Nat.reduceEqDiff, Nat.reduceLeDiff, reduceIte, Nat.reduceLT, or_self, true_or, or_true, if_true, if_false, and_self, and_true, true_and, not_false_eq_true, not_true_eq_false]
  refine am_go [] 4 ?_
  simp only [am_wp, am_stp, am_en, am_as, am_pad, am_nth, am_set, am_st1, am_st2, am_kl, am_kill, am_mem, am_fv, am_tk, am_wt, am_bk, Option.toList, List.cons_append, List.nil_append, Nat.reduceAdd, Nat.reduceEqDiff, Nat.reduceLeDiff, reduceIte, Nat.reduceLT, or_self, true_or, or_true, if_true, if_false, and_self, and_true, true_and, not_false_eq_true, not_true_eq_false, fd_Mo_open_30, fd_Mo_open_31, fd_Mo_open_32, fd_Mo_open_33, S1.all]
  refine am_call (rx_generationOf (d := d) (pg := 1) S1 (by omega)) (fun o g2 w => ?_)
  obtain ⟨w1, rfl⟩ := w
  obtain ⟨od, rfl, hod⟩ : ∃ od : Int32, o = .inl (some (.int od)) ∧ (od = 0 ∨ (0 < od ∧ ∃ ls, am_I g2 73 (128 * 1 + 6) &&& 255 = nI ls.length ∧ ar_Q g2 1 ls)) := by
    rcases w1 with z | ⟨x, x1, x2, x3⟩
    · exact ⟨0, z, Or.inl rfl⟩
    · exact ⟨x, x2, Or.inr ⟨x1, x3⟩⟩
  simp only [am_wp, am_stp, am_en, am_as, am_pad, am_nth, am_set, am_st1, am_st2, am_kl, am_kill, am_mem, am_fv, am_tk, am_wt, am_bk, Option.toList, List.cons_append, List.nil_append, Nat.reduceAdd, Nat.reduceEqDiff, Nat.reduceLeDiff, reduceIte, Nat.reduceLT, or_self, true_or, or_true, if_true, if_false, and_self, and_true, true_and, not_false_eq_true, not_true_eq_false]
  have go : ∀ hd : Nat, hd < 2 → (∃ ls, am_I g2 73 (128 * hd + 6) &&& 255 = nI ls.length ∧ ar_Q g2 hd ls) → am_Ex nm_pr (d + 3) mt_Mo_open (57, [.ref 72, .int ev, .int od, .retAddr 0, .retAddr 0, .retAddr 0, .retAddr 0, .retAddr 0, .retAddr 0, .retAddr 0, .retAddr 0, .retAddr 0], [.int (nI hd)], g2) (fun o h' => iany o ∧ rq P h h') := fun hd hd2 hls => by
    obtain ⟨ls, en, A⟩ := hls
    have l9 := A.1
    have e1 : 128 * nI hd = nI (128 * hd) := (Int32.ofNat_mul 128 hd).symm
    have e4 : nI (128 * hd) + 4 = nI (128 * hd + 4) := nI_add _ 4
    have e6 : nI (128 * hd + 4) + 2 = nI (128 * hd + 6) := nI_add (128 * hd + 4) 2
    have e7 : nI (128 * hd + 4) + 3 = nI (128 * hd + 7 + 7 * 0) := nI_add (128 * hd + 4) 3
    have i6 := am_inb (c := 128 * hd + 6) (N := 131072) (by omega) (by omega)
    have q6 : (nI (128 * hd + 6)).toNatClampNeg = 128 * hd + 6 := nI_clamp (by omega)
    have h5 : 128 * hd + 4 + 1 < 131072 := by omega
    generalize hA6 : 128 * hd + 6 = A6 at *
    generalize hA7 : 128 * hd + 7 + 7 * 0 = A7 at *
    generalize hA4 : 128 * hd + 4 = A4 at *
    refine am_go [] 7 ?_
    simp only [am_wp, am_stp, am_en, am_as, am_pad, am_nth, am_set, am_st1, am_st2, am_kl, am_kill, am_mem, am_fv, am_tk, am_wt, am_bk, Option.toList, List.cons_append, List.nil_append, Nat.reduceAdd, Nat.reduceEqDiff, Nat.reduceLeDiff, reduceIte, Nat.reduceLT, or_self, true_or, or_true, if_true, if_false, and_self, and_true, true_and, not_false_eq_true, not_true_eq_false, fd_Mo_open_57, fd_Mo_open_58, fd_Mo_open_61, fd_Mo_open_62, fd_Mo_open_63, fd_Mo_open_64, fd_Mo_open_65, e1, e4]
    refine am_go [] 3 ?_
    simp only [am_wp, am_stp, am_en, am_as, am_pad, am_nth, am_set, am_st1, am_st2, am_kl, am_kill, am_mem, am_fv, am_tk, am_wt, am_bk, Option.toList, List.cons_append, List.nil_append, Nat.reduceAdd, Nat.reduceEqDiff, Nat.reduceLeDiff, reduceIte, Nat.reduceLT, or_self, true_or, or_true, if_true, if_false, and_self, and_true, true_and, not_false_eq_true, not_true_eq_false, fd_Mo_open_67, fd_Mo_open_68, fd_Mo_open_70, S1.all]
    refine am_call (rx_two (d := d + 2) S1 h5) (fun o g3 w => ?_)
    obtain ⟨rfl, rfl⟩ := w
    simp only [am_wp, am_stp, am_en, am_as, am_pad, am_nth, am_set, am_st1, am_st2, am_kl, am_kill, am_mem, am_fv, am_tk, am_wt, am_bk, Option.toList, List.cons_append, List.nil_append, Nat.reduceAdd, Nat.reduceEqDiff, Nat.reduceLeDiff, reduceIte, Nat.reduceLT, or_self, true_or, or_true, if_true, if_false, and_self, and_true, true_and, not_false_eq_true, not_true_eq_false]
    generalize tw g3 A4 = nx
    refine am_go [] 10 ?_
    simp only [am_wp, am_stp, am_en, am_as, am_pad, am_nth, am_set, am_st1, am_st2, am_kl, am_kill, am_mem, am_fv, am_tk, am_wt, am_bk, Option.toList, List.cons_append, List.nil_append, Nat.reduceAdd, Nat.reduceEqDiff, Nat.reduceLeDiff, reduceIte, Nat.reduceLT, or_self, true_or, or_true, if_true, if_false, and_self, and_true, true_and, not_false_eq_true, not_true_eq_false, fd_Mo_open_73, fd_Mo_open_75, fd_Mo_open_76, fd_Mo_open_79, fd_Mo_open_81, fd_Mo_open_82, fd_Mo_open_83, fd_Mo_open_84, fd_Mo_open_87, fd_Mo_open_88, S1.all, e6, i6, q6, en]
    refine am_go [96] 3 ?_
    simp only [am_wp, am_stp, am_en, am_as, am_pad, am_nth, am_set, am_st1, am_st2, am_kl, am_kill, am_mem, am_fv, am_tk, am_wt, am_bk, Option.toList, List.cons_append, List.nil_append, Nat.reduceAdd, Nat.reduceEqDiff, Nat.reduceLeDiff, reduceIte, Nat.reduceLT, or_self, true_or, or_true, if_true, if_false, and_self, and_true, true_and, not_false_eq_true, not_true_eq_false, fd_Mo_open_90, fd_Mo_open_93, fd_Mo_open_94, e7]
    rw [← hA7]
    refine rx_op_runs (d := d) (E := cE P g3) C hd2 A (fun q L M sL => cE_eq S1 P1024 M sL) (fun g' x F => ⟨⟨_, rfl⟩, dead g' F⟩) (fun g4 a4 w7 w8 w9 w10 w11 I => ?_) ls.length 0 _ _ _ _ g3 (by omega) ⟨⟨am_fi.refl, fun _ _ _ _ => rfl⟩, fun t ht => by omega⟩
    obtain ⟨F4, IR⟩ := I
    have C4 := F4.C C
    have S4 := C4.1
    have a0 : (0 : Int32) = 0 ∨ (0 : Int32) = 1 := by decide
    refine am_go [411] 3 ?_
    simp only [am_wp, am_stp, am_en, am_as, am_pad, am_nth, am_set, am_st1, am_st2, am_kl, am_kill, am_mem, am_fv, am_tk, am_wt, am_bk, Option.toList, List.cons_append, List.nil_append, Nat.reduceAdd, Nat.reduceEqDiff, Nat.reduceLeDiff, reduceIte, Nat.reduceLT, or_self, true_or, or_true, if_true, if_false, and_self, and_true, true_and, not_false_eq_true, not_true_eq_false, fd_Mo_open_406, fd_Mo_open_407, fd_Mo_open_408, S4.all]
    have S5 : mo_Sk (am_sI g4 72 3 0) := S4.sI
    have last : ∀ x : Int32, am_Ex nm_pr (d + 3) mt_Mo_open (421, [.ref 72, .int ev, .int od, .int (nI hd), .int a4, .int nx, .int (nI ls.length), .int w7, w8, w9, w10, w11], [.int x, .ref 72], am_sI g4 72 3 0) (fun o h' => iany o ∧ rq P h h') := fun x => by
      refine am_go [439] 9 ?_
      simp only [am_wp, am_stp, am_en, am_as, am_pad, am_nth, am_set, am_st1, am_st2, am_kl, am_kill, am_mem, am_fv, am_tk, am_wt, am_bk, Option.toList, List.cons_append, List.nil_append, Nat.reduceAdd, Nat.reduceEqDiff, Nat.reduceLeDiff, reduceIte, Nat.reduceLT, or_self, true_or, or_true, if_true, if_false, and_self, and_true, true_and, not_false_eq_true, not_true_eq_false, fd_Mo_open_421, fd_Mo_open_424, fd_Mo_open_425, fd_Mo_open_427, fd_Mo_open_430, fd_Mo_open_431, fd_Mo_open_433, fd_Mo_open_436, fd_Mo_open_437, hx_nx_sI, hx_ce_sI, hx_sl_sI, hx_kd_sI, hx_ln_sI, hx_I_sI, hx_L_sI, hx_R_sI, hx_nx_sL, hx_ce_sL, hx_sl_sL, hx_kd_sL, hx_ln_sL, hx_I_sL, hx_L_sL, hx_R_sL, hx_nx_sR, hx_ce_sR, hx_sl_sR, hx_kd_sR, hx_ln_sR, hx_I_sR, hx_L_sR, hx_R_sR, hx_nx_al, hx_ce_al, hx_sl_al, hx_kd_al, hx_ln_al, hx_I_al, hx_L_al, hx_R_al, hx_nx_row, hx_ce_row, hx_sl_row, hx_kd_row, hx_ln_row, hx_I_row, hx_L_row, hx_R_row, hx_nx_mk, hx_kd_mk, hx_ln_mk, hx_I_mk, hx_L_mk, hx_R_mk, S4.1]
      have f5 : am_fi [72] g4 (am_sI (am_sI (am_sI (am_sI g4 72 3 0) 72 4 x) 72 5 nx) 72 24 (nI ls.length)) := (((am_fi.refl.sI (by simp)).sI (by simp)).sI (by simp)).sI (by simp)
      have v3 : am_I (am_sI (am_sI (am_sI (am_sI g4 72 3 0) 72 4 x) 72 5 nx) 72 24 (nI ls.length)) 72 3 = 0 := by simp only [hx_nx_sI, hx_ce_sI, hx_sl_sI, hx_kd_sI, hx_ln_sI, hx_I_sI, hx_L_sI, hx_R_sI, hx_nx_sL, hx_ce_sL, hx_sl_sL, hx_kd_sL, hx_ln_sL, hx_I_sL, hx_L_sL, hx_R_sL, hx_nx_sR, hx_ce_sR, hx_sl_sR, hx_kd_sR, hx_ln_sR, hx_I_sR, hx_L_sR, hx_R_sR, hx_nx_al, hx_ce_al, hx_sl_al, hx_kd_al, hx_ln_al, hx_I_al, hx_L_al, hx_R_al, hx_nx_row, hx_ce_row, hx_sl_row, hx_kd_row, hx_ln_row, hx_I_row, hx_L_row, hx_R_row, hx_nx_mk, hx_kd_mk, hx_ln_mk, hx_I_mk, hx_L_mk, hx_R_mk, am_wp, am_stp, am_en, am_as, am_pad, am_nth, am_set, am_st1, am_st2, am_kl, am_kill, am_mem, am_fv, am_tk, am_wt, am_bk, Option.toList, List.cons_append, List.nil_append, Nat.reduceAdd, Nat.reduceEqDiff, Nat.reduceLeDiff, reduceIte, Nat.reduceLT, or_self, true_or, or_true, if_true, if_false, and_self, and_true, true_and, not_false_eq_true, not_true_eq_false]
      have v24 : am_I (am_sI (am_sI (am_sI (am_sI g4 72 3 0) 72 4 x) 72 5 nx) 72 24 (nI ls.length)) 72 24 = nI ls.length := by simp only [hx_nx_sI, hx_ce_sI, hx_sl_sI, hx_kd_sI, hx_ln_sI, hx_I_sI, hx_L_sI, hx_R_sI, hx_nx_sL, hx_ce_sL, hx_sl_sL, hx_kd_sL, hx_ln_sL, hx_I_sL, hx_L_sL, hx_R_sL, hx_nx_sR, hx_ce_sR, hx_sl_sR, hx_kd_sR, hx_ln_sR, hx_I_sR, hx_L_sR, hx_R_sR, hx_nx_al, hx_ce_al, hx_sl_al, hx_kd_al, hx_ln_al, hx_I_al, hx_L_al, hx_R_al, hx_nx_row, hx_ce_row, hx_sl_row, hx_kd_row, hx_ln_row, hx_I_row, hx_L_row, hx_R_row, hx_nx_mk, hx_kd_mk, hx_ln_mk, hx_I_mk, hx_L_mk, hx_R_mk, am_wp, am_stp, am_en, am_as, am_pad, am_nth, am_set, am_st1, am_st2, am_kl, am_kill, am_mem, am_fv, am_tk, am_wt, am_bk, Option.toList, List.cons_append, List.nil_append, Nat.reduceAdd, Nat.reduceEqDiff, Nat.reduceLeDiff, reduceIte, Nat.reduceLT, or_self, true_or, or_true, if_true, if_false, and_self, and_true, true_and, not_false_eq_true, not_true_eq_false]
      have vj : ∀ j, j ≠ 3 → j ≠ 4 → j ≠ 5 → j ≠ 24 → am_I (am_sI (am_sI (am_sI (am_sI g4 72 3 0) 72 4 x) 72 5 nx) 72 24 (nI ls.length)) 72 j = am_I g4 72 j := fun j h1 h2 h3 h4 => by simp only [hx_nx_sI, hx_ce_sI, hx_sl_sI, hx_kd_sI, hx_ln_sI, hx_I_sI, hx_L_sI, hx_R_sI, hx_nx_sL, hx_ce_sL, hx_sl_sL, hx_kd_sL, hx_ln_sL, hx_I_sL, hx_L_sL, hx_R_sL, hx_nx_sR, hx_ce_sR, hx_sl_sR, hx_kd_sR, hx_ln_sR, hx_I_sR, hx_L_sR, hx_R_sR, hx_nx_al, hx_ce_al, hx_sl_al, hx_kd_al, hx_ln_al, hx_I_al, hx_L_al, hx_R_al, hx_nx_row, hx_ce_row, hx_sl_row, hx_kd_row, hx_ln_row, hx_I_row, hx_L_row, hx_R_row, hx_nx_mk, hx_kd_mk, hx_ln_mk, hx_I_mk, hx_L_mk, hx_R_mk, am_wp, am_stp, am_en, am_as, am_pad, am_nth, am_set, am_st1, am_st2, am_kl, am_kill, am_mem, am_fv, am_tk, am_wt, am_bk, Option.toList, List.cons_append, List.nil_append, Nat.reduceAdd, Nat.reduceEqDiff, Nat.reduceLeDiff, reduceIte, Nat.reduceLT, or_self, true_or, or_true, if_true, if_false, and_self, and_true, true_and, not_false_eq_true, not_true_eq_false, h1, h2, h3, h4]
      generalize am_sI (am_sI (am_sI (am_sI g4 72 3 0) 72 4 x) 72 5 nx) 72 24 (nI ls.length) = g5 at *
      have S6 := S4.fi f5
      refine rx_op_end S6 l9 (fun g6 F6 y77 y86 => ?_) ls.length 0 g5 (by omega) am_fi.refl (fun t => by rw [if_neg (by omega)]) (fun j hj => by omega)
      have F46 : am_fi [72, 77, 86] g4 g6 := (f5.sub (by decide)).trans (F6.sub (by decide))
      have w := F46.2.2.2.2.2.2.1
      have w6 := F6.2.2.2.2.2.2.1
      have w4 := F4.1.2.2.2.2.2.2.1
      have uj : ∀ j, j ≠ 3 → j ≠ 4 → j ≠ 5 → j ≠ 24 → am_I g6 72 j = am_I g4 72 j := fun j h1 h2 h3 h4 => by rw [w6 72 (by decide)]; exact vj j h1 h2 h3 h4
      have C6 : rC P g6 := C4.v F46 (by decide) (uj 1 (by decide) (by decide) (by decide) (by decide)) (uj 9 (by decide) (by decide) (by decide) (by decide)) (uj 11 (by decide) (by decide) (by decide) (by decide)) (uj 45 (by decide) (by decide) (by decide) (by decide)) (by rw [uj 8 (by decide) (by decide) (by decide) (by decide)]; exact C4.a8) (C4.b.eq (w 73 (by decide)))
      have lv : ∀ t l, ls[t]? = some l → am_I g6 79 t = nI l ∧ lev g6 t = l := fun t l hl => by
        have ht := (List.getElem?_eq_some_iff.mp hl).1
        have h1 : am_I g6 79 t = nI l := by rw [w 79 (by decide)]; exact (IR t ht).2 l hl
        have l3 := (A.2.2.2 t l hl).2.1
        exact ⟨h1, by unfold lev; rw [h1, nI_clamp (by omega)]⟩
      have em : (List.range ls.length).map (lev g6) = ls := by
        refine List.ext_getElem (by simp) (fun i h1 h2 => ?_)
        rw [List.getElem_map, List.getElem_range]
        exact (lv i _ (List.getElem?_eq_getElem h2)).2
      have ea := al_nil emp (List.range ls.length)
      refine ⟨⟨_, rfl⟩, ⟨C6, cE P g3, List.range ls.length, mk, ⟨?_, fun i t hi => ?_, fun t ht => ?_, ?_, ?_⟩, ?_, ⟨fun t ht => ?_, fun t ht => ?_⟩, Or.inl ?_⟩, (q1.2.trans (F4.1.sub (by decide))).trans (F46.sub (by decide))⟩
      · rw [w6 72 (by decide), v24, List.length_range]
      · have ht := (List.getElem?_eq_some_iff.mp hi).1
        rw [List.length_range] at ht
        rw [List.getElem?_range ht] at hi
        cases hi
        exact y86 i ht
      · have ht := List.mem_range.mp ht
        obtain ⟨l1, l2⟩ := lv t _ (List.getElem?_eq_getElem ht)
        rw [l1, l2]
      · rw [em]; exact A.2.1
      · rw [em]
        have := up_cnt ls
        have := A.2.2.1
        omega
      · unfold rR_m
        rw [w 87 (by decide), w 88 (by decide), w 89 (by decide), w4 87 (by decide), w4 88 (by decide), w4 89 (by decide)]
        exact RR.2.1
      · rw [ea, cnt_range, y77]
        by_cases hl : t < ls.length
        · rw [if_pos hl, if_pos hl]; rfl
        · rw [if_neg hl, if_neg hl, f5.2.2.2.2.2.2.1 77 (by decide), w4 77 (by decide), RR.2.2.1.1 t ht, emp]
          rfl
      · rw [ea] at ht
        have ht := List.mem_range.mp ht
        exact (IR t ht).1.eq P1024 (by rw [w 80 (by decide)]) (fun k _ => by rw [w 82 (by decide)]) (fun q hq => hq.eq (fun j _ => by rw [w 73 (by decide)]))
      · rw [w6 72 (by decide)]; exact v3
    by_cases h0 : hd = 0
    · have z : (nI hd = 0) = True := eq_true (by rw [h0]; rfl)
      refine am_go [416, 420] 3 ?_
      simp only [am_wp, am_stp, am_en, am_as, am_pad, am_nth, am_set, am_st1, am_st2, am_kl, am_kill, am_mem, am_fv, am_tk, am_wt, am_bk, Option.toList, List.cons_append, List.nil_append, Nat.reduceAdd, Nat.reduceEqDiff, Nat.reduceLeDiff, reduceIte, Nat.reduceLT, or_self, true_or, or_true, if_true, if_false, and_self, and_true, true_and, not_false_eq_true, not_true_eq_false, fd_Mo_open_411, fd_Mo_open_412, fd_Mo_open_413, S5.all, z]
      refine am_go [421] 2 ?_
      simp only [am_wp, am_stp, am_en, am_as, am_pad, am_nth, am_set, am_st1, am_st2, am_kl, am_kill, am_mem, am_fv, am_tk, am_wt, am_bk, Option.toList, List.cons_append, List.nil_append, Nat.reduceAdd, Nat.reduceEqDiff, Nat.reduceLeDiff, reduceIte, Nat.reduceLT, or_self, true_or, or_true, if_true, if_false, and_self, and_true, true_and, not_false_eq_true, not_true_eq_false, fd_Mo_open_416, fd_Mo_open_417, S5.all]
      exact last _
    · have z : ¬ nI hd = 0 := nI_ne0 (by omega) (by omega)
      refine am_go [416, 420] 3 ?_
      simp only [am_wp, am_stp, am_en, am_as, am_pad, am_nth, am_set, am_st1, am_st2, am_kl, am_kill, am_mem, am_fv, am_tk, am_wt, am_bk, Option.toList, List.cons_append, List.nil_append, Nat.reduceAdd, Nat.reduceEqDiff, Nat.reduceLeDiff, reduceIte, Nat.reduceLT, or_self, true_or, or_true, if_true, if_false, and_self, and_true, true_and, not_false_eq_true, not_true_eq_false, fd_Mo_open_411, fd_Mo_open_412, fd_Mo_open_413, S5.all, z]
      refine am_go [421] 1 ?_
      simp only [am_wp, am_stp, am_en, am_as, am_pad, am_nth, am_set, am_st1, am_st2, am_kl, am_kill, am_mem, am_fv, am_tk, am_wt, am_bk, Option.toList, List.cons_append, List.nil_append, Nat.reduceAdd, Nat.reduceEqDiff, Nat.reduceLeDiff, reduceIte, Nat.reduceLT, or_self, true_or, or_true, if_true, if_false, and_self, and_true, true_and, not_false_eq_true, not_true_eq_false, fd_Mo_open_420, S5.all]
      exact last _
  have big : am_Ex nm_pr (d + 3) mt_Mo_open (47, [.ref 72, .int ev, .int od, .retAddr 0, .retAddr 0, .retAddr 0, .retAddr 0, .retAddr 0, .retAddr 0, .retAddr 0, .retAddr 0, .retAddr 0], [], g2) (fun o h' => iany o ∧ rq P h h') ∨ (ev = 0 ∧ od = 0) := by
    by_cases hz : ev = 0 ∧ od = 0
    · exact Or.inr hz
    left
    by_cases hlt : od < ev
    · have hev' := hev.resolve_left (fun q => by
        rcases hod with z | ⟨z, -⟩
        · exact hz ⟨q, z⟩
        · rw [q] at hlt
          rw [Int32.lt_iff_toInt_lt] at hlt z
          omega)
      refine am_go [52, 56] 3 ?_
      simp only [am_wp, am_stp, am_en, am_as, am_pad, am_nth, am_set, am_st1, am_st2, am_kl, am_kill, am_mem, am_fv, am_tk, am_wt, am_bk, Option.toList, List.cons_append, List.nil_append, Nat.reduceAdd, Nat.reduceEqDiff, Nat.reduceLeDiff, reduceIte, Nat.reduceLT, or_self, true_or, or_true, if_true, if_false, and_self, and_true, true_and, not_false_eq_true, not_true_eq_false, fd_Mo_open_47, fd_Mo_open_48, fd_Mo_open_49, S1.all, hlt]
      refine am_go [57] 2 ?_
      simp only [am_wp, am_stp, am_en, am_as, am_pad, am_nth, am_set, am_st1, am_st2, am_kl, am_kill, am_mem, am_fv, am_tk, am_wt, am_bk, Option.toList, List.cons_append, List.nil_append, Nat.reduceAdd, Nat.reduceEqDiff, Nat.reduceLeDiff, reduceIte, Nat.reduceLT, or_self, true_or, or_true, if_true, if_false, and_self, and_true, true_and, not_false_eq_true, not_true_eq_false, fd_Mo_open_52, fd_Mo_open_53, S1.all]
      exact go 0 (by omega) hev'.2
    · have hod' := hod.resolve_left (fun q => by
        rcases hev with z | ⟨z, -⟩
        · exact hz ⟨z, q⟩
        · rw [q] at hlt
          exact hlt z)
      refine am_go [52, 56] 3 ?_
      simp only [am_wp, am_stp, am_en, am_as, am_pad, am_nth, am_set, am_st1, am_st2, am_kl, am_kill, am_mem, am_fv, am_tk, am_wt, am_bk, Option.toList, List.cons_append, List.nil_append, Nat.reduceAdd, Nat.reduceEqDiff, Nat.reduceLeDiff, reduceIte, Nat.reduceLT, or_self, true_or, or_true, if_true, if_false, and_self, and_true, true_and, not_false_eq_true, not_true_eq_false, fd_Mo_open_47, fd_Mo_open_48, fd_Mo_open_49, S1.all, hlt]
      refine am_go [57] 1 ?_
      simp only [am_wp, am_stp, am_en, am_as, am_pad, am_nth, am_set, am_st1, am_st2, am_kl, am_kill, am_mem, am_fv, am_tk, am_wt, am_bk, Option.toList, List.cons_append, List.nil_append, Nat.reduceAdd, Nat.reduceEqDiff, Nat.reduceLeDiff, reduceIte, Nat.reduceLT, or_self, true_or, or_true, if_true, if_false, and_self, and_true, true_and, not_false_eq_true, not_true_eq_false, fd_Mo_open_56, S1.all]
      exact go 1 (by omega) hod'.2
  by_cases v0 : ev = 0
  · have z0 : (ev = 0) = True := eq_true v0
    refine am_go [41, 47] 3 ?_
    simp only [am_wp, am_stp, am_en, am_as, am_pad, am_nth, am_set, am_st1, am_st2, am_kl, am_kill, am_mem, am_fv, am_tk, am_wt, am_bk, Option.toList, List.cons_append, List.nil_append, Nat.reduceAdd, Nat.reduceEqDiff, Nat.reduceLeDiff, reduceIte, Nat.reduceLT, or_self, true_or, or_true, if_true, if_false, and_self, and_true, true_and, not_false_eq_true, not_true_eq_false, fd_Mo_open_36, fd_Mo_open_37, fd_Mo_open_38, S1.all, z0]
    by_cases v1 : od = 0
    · have z1 : (od = 0) = True := eq_true v1
      refine am_go [45, 47] 2 ?_
      simp only [am_wp, am_stp, am_en, am_as, am_pad, am_nth, am_set, am_st1, am_st2, am_kl, am_kill, am_mem, am_fv, am_tk, am_wt, am_bk, Option.toList, List.cons_append, List.nil_append, Nat.reduceAdd, Nat.reduceEqDiff, Nat.reduceLeDiff, reduceIte, Nat.reduceLT, or_self, true_or, or_true, if_true, if_false, and_self, and_true, true_and, not_false_eq_true, not_true_eq_false, fd_Mo_open_41, fd_Mo_open_42, S1.all, z1]
      refine am_go [] 2 ?_
      simp only [am_wp, am_stp, am_en, am_as, am_pad, am_nth, am_set, am_st1, am_st2, am_kl, am_kill, am_mem, am_fv, am_tk, am_wt, am_bk, Option.toList, List.cons_append, List.nil_append, Nat.reduceAdd, Nat.reduceEqDiff, Nat.reduceLeDiff, reduceIte, Nat.reduceLT, or_self, true_or, or_true, if_true, if_false, and_self, and_true, true_and, not_false_eq_true, not_true_eq_false, fd_Mo_open_45, fd_Mo_open_46, S1.all]
      exact ⟨⟨_, rfl⟩, q1⟩
    · refine am_go [45, 47] 2 ?_
      simp only [am_wp, am_stp, am_en, am_as, am_pad, am_nth, am_set, am_st1, am_st2, am_kl, am_kill, am_mem, am_fv, am_tk, am_wt, am_bk, Option.toList, List.cons_append, List.nil_append, Nat.reduceAdd, Nat.reduceEqDiff, Nat.reduceLeDiff, reduceIte, Nat.reduceLT, or_self, true_or, or_true, if_true, if_false, and_self, and_true, true_and, not_false_eq_true, not_true_eq_false, fd_Mo_open_41, fd_Mo_open_42, S1.all, v1]
      exact big.resolve_right (fun q => v1 q.2)
  · refine am_go [41, 47] 3 ?_
    simp only [am_wp, am_stp, am_en, am_as, am_pad, am_nth, am_set, am_st1, am_st2, am_kl, am_kill, am_mem, am_fv, am_tk, am_wt, am_bk, Option.toList, List.cons_append, List.nil_append, Nat.reduceAdd, Nat.reduceEqDiff, Nat.reduceLeDiff, reduceIte, Nat.reduceLT, or_self, true_or, or_true, if_true, if_false, and_self, and_true, true_and, not_false_eq_true, not_true_eq_false, fd_Mo_open_36, fd_Mo_open_37, fd_Mo_open_38, S1.all, v0]
    exact big.resolve_right (fun q => v0 q.1)
