-- needs: 84.sheet2 04.fd
/-! THE STREAM OF A RUN reads entries -/
theorem am_u_u {α : Type} {f : Nat → Nat → α} {a j : Nat} {v w : α} : am_u (am_u f a j v) a j w = am_u f a j w := by
  funext a' j'
  unfold am_u
  by_cases e1 : a' = a
  · by_cases e2 : j' = j
    · simp [e1, e2]
    · simp [e1, e2]
  · simp [e1]
theorem sI_sI {h : am_H} {a j : Nat} {v w : Int32} : am_sI (am_sI h a j v) a j w = am_sI h a j w := by
  show (am_nx h, am_ce h, am_sl h, am_kd h, am_ln h, am_u (am_u (am_I h) a j v) a j w, am_L h, am_R h) = _
  rw [am_u_u]
  rfl
/-- the space -/
def cl_Sp (P : Nat) (h : am_H) : Prop := am_kd h 21 = 9 ∧ am_R h 21 1 = 22 ∧ am_R h 21 2 = 23 ∧ am_R h 21 3 = 24 ∧ am_I h 21 0 = nI P ∧ am_kd h 22 = 100 ∧ am_ln h 22 = P ∧ am_kd h 23 = 100 ∧ am_ln h 23 = P ∧ am_kd h 24 = 101 ∧ am_ln h 24 = P ∧ 4 ≤ P ∧ P ≤ 1024
theorem cl_Sp.fi {P : Nat} {S : List Nat} {h h' : am_H} (a : cl_Sp P h) (b : am_fi S h h') (hS : 21 ∉ S) : cl_Sp P h' := by
  obtain ⟨b1, b2, b3, b4, b5, b6, b7, b8⟩ := b
  unfold cl_Sp at *
  rw [b4, b5, b6, b7 21 hS]
  exact a
theorem l2_Sp_has {d P p : Nat} {h : am_H} (hP : cl_Sp P h) (h2 : 2 ≤ p) (hp : p < P) : am_Rt nm_pr (d + 1) mi_Space_has [.ref 21, .int (nI p)] h (fun o h' => o = .inl (some (.int 1)) ∧ h' = h) := by
  obtain ⟨k21, r1, r2, r3, i0, k22, n22, k23, n23, k24, n24, p4, p1⟩ := hP
  have l2 : ¬ nI p < 2 := nI_nlt (b := 2) h2 (by omega)
  have l3 : nI p < nI P := nI_lt hp (by omega)
  refine am_in' mt_Space_has 2 rfl rfl rfl ?_
  refine am_go [17] 10 ?_
  simp only [am_wp, am_stp, am_en, am_as, am_pad, am_nth, am_set, am_st1, am_st2, am_kl, am_kill, am_mem, am_fv, am_tk, am_wt, am_bk, Option.toList, List.cons_append, List.nil_append, Nat.reduceAdd, Nat.reduceEqDiff, Nat.reduceLeDiff, reduceIte, Nat.reduceLT, or_self, true_or, or_true, if_true, if_false, and_self, and_true, true_and, not_false_eq_true, not_true_eq_false, fd_Space_has_0, fd_Space_has_1, fd_Space_has_2, fd_Space_has_5, fd_Space_has_6, fd_Space_has_7, fd_Space_has_10, fd_Space_has_13, fd_Space_has_14, fd_Space_has_18, k21, i0, l2, l3]
theorem l2_Sp_after {d P p : Nat} {h : am_H} (hP : cl_Sp P h) (h2 : 2 ≤ p) (hp : p < P) : am_Rt nm_pr (d + 2) mi_Space_after [.ref 21, .int (nI p)] h (fun o h' => o = .inl (some (.int (am_I h 23 p))) ∧ h' = h) := by
  obtain ⟨k21, r1, r2, r3, i0, k22, n22, k23, n23, k24, n24, p4, p1⟩ := id hP
  have i1 := am_inb (c := p) (N := P) hp (by omega)
  have q1 : (nI p).toNatClampNeg = p := nI_clamp (by omega)
  have one0 : ¬ (1 : Int32) = 0 := by decide
  refine am_in' (d := d + 1) mt_Space_after 2 rfl rfl rfl ?_
  refine am_go [] 3 ?_
  simp only [am_wp, am_stp, am_en, am_as, am_pad, am_nth, am_set, am_st1, am_st2, am_kl, am_kill, am_mem, am_fv, am_tk, am_wt, am_bk, Option.toList, List.cons_append, List.nil_append, Nat.reduceAdd, Nat.reduceEqDiff, Nat.reduceLeDiff, reduceIte, Nat.reduceLT, or_self, true_or, or_true, if_true, if_false, and_self, and_true, true_and, not_false_eq_true, not_true_eq_false, fd_Space_after_0, fd_Space_after_1, fd_Space_after_2, k21]
  refine am_call (l2_Sp_has hP h2 hp) (fun o h1 q => ?_)
  obtain ⟨rfl, rfl⟩ := q
  simp only [am_wp, am_stp, am_en, am_as, am_pad, am_nth, am_set, am_st1, am_st2, am_kl, am_kill, am_mem, am_fv, am_tk, am_wt, am_bk, Option.toList, List.cons_append, List.nil_append, Nat.reduceAdd, Nat.reduceEqDiff, Nat.reduceLeDiff, reduceIte, Nat.reduceLT, or_self, true_or, or_true, if_true, if_false, and_self, and_true, true_and, not_false_eq_true, not_true_eq_false]
  refine am_go [17] 7 ?_
  simp only [am_wp, am_stp, am_en, am_as, am_pad, am_nth, am_set, am_st1, am_st2, am_kl, am_kill, am_mem, am_fv, am_tk, am_wt, am_bk, Option.toList, List.cons_append, List.nil_append, Nat.reduceAdd, Nat.reduceEqDiff, Nat.reduceLeDiff, reduceIte, Nat.reduceLT, or_self, true_or, or_true, if_true, if_false, and_self, and_true, true_and, not_false_eq_true, not_true_eq_false, fd_Space_after_5, fd_Space_after_8, fd_Space_after_9, fd_Space_after_12, fd_Space_after_13, fd_Space_after_14, fd_Space_after_18, k21, r2, k23, n23, i1, q1, one0]
/-- the stream's own fields -/
def rs_K (h : am_H) (t : Nat) : Prop := am_kd h t = 7 ∧ am_R h t 4 = 18 ∧ am_R h t 5 = 21
theorem rs_K.fi {S : List Nat} {h h' : am_H} {t : Nat} (a : rs_K h t) (b : am_fi S h h') : rs_K h' t := by
  obtain ⟨b1, b2, b3, b4, b5, b6, b7, b8⟩ := b
  unfold rs_K at *
  rw [b4, b6]
  exact a
theorem l2_nextOctet {d P t x y : Nat} {h : am_H} (hP : cl_Pg P h) (hK : rs_K h t) (hx : am_I h t 9 = nI x) (hy : am_I h t 10 = nI y) (h1 : x < y) (h2 : y ≤ P * 128) : am_Rt nm_pr (d + 1) mi_RunStream_nextOctet [.ref t] h (fun o h' => o = .inl (some (.int (am_I h 19 x &&& 255))) ∧ h' = am_sI h t 9 (nI (x + 1))) := by
  obtain ⟨k18, r1, r2, i0, k19, n19, k20, n20, p4, p1⟩ := id hP
  obtain ⟨kt, t4, t5⟩ := hK
  have e0 : ¬ nI x < 0 := nI_pos (by omega)
  have e1 : nI x < nI y := nI_lt h1 (by omega)
  have e2 : nI x < nI (P * 128) := nI_lt (by omega) (by omega)
  have e3 : (P * 128).toInt32 = nI (P * 128) := rfl
  have one0 : ¬ (1 : Int32) = 0 := by decide
  have i1 := am_inb (c := x) (N := P * 128) (by omega) (by omega)
  have q1 : (nI x).toNatClampNeg = x := nI_clamp (by omega)
  refine am_in' mt_RunStream_nextOctet 3 rfl rfl rfl ?_
  refine am_go [37] 8 ?_
  simp only [am_wp, am_stp, am_en, am_as, am_pad, am_nth, am_set, am_st1, am_st2, am_kl, am_kill, am_mem, am_fv, am_tk, am_wt, am_bk, Option.toList, List.cons_append, List.nil_append, Nat.reduceAdd, Nat.reduceEqDiff, Nat.reduceLeDiff, reduceIte, Nat.reduceLT, or_self, true_or, or_true, if_true, if_false, and_self, and_true, true_and, not_false_eq_true, not_true_eq_false, fd_RunStream_nextOctet_0, fd_RunStream_nextOctet_1, fd_RunStream_nextOctet_4, fd_RunStream_nextOctet_7, fd_RunStream_nextOctet_8, fd_RunStream_nextOctet_11, fd_RunStream_nextOctet_12, fd_RunStream_nextOctet_15, kt, hx, hy, e0, e1]
  refine am_go [37] 10 ?_
  simp only [am_wp, am_stp, am_en, am_as, am_pad, am_nth, am_set, am_st1, am_st2, am_kl, am_kill, am_mem, am_fv, am_tk, am_wt, am_bk, Option.toList, List.cons_append, List.nil_append, Nat.reduceAdd, Nat.reduceEqDiff, Nat.reduceLeDiff, reduceIte, Nat.reduceLT, or_self, true_or, or_true, if_true, if_false, and_self, and_true, true_and, not_false_eq_true, not_true_eq_false, fd_RunStream_nextOctet_18, fd_RunStream_nextOctet_19, fd_RunStream_nextOctet_22, fd_RunStream_nextOctet_23, fd_RunStream_nextOctet_26, fd_RunStream_nextOctet_29, fd_RunStream_nextOctet_30, fd_RunStream_nextOctet_33, fd_RunStream_nextOctet_34, fd_RunStream_nextOctet_37, fd_RunStream_nextOctet_38, kt, hx, t4, k18, r1, k19, n19, e3, e2]
  refine am_go [62] 12 ?_
  simp only [am_wp, am_stp, am_en, am_as, am_pad, am_nth, am_set, am_st1, am_st2, am_kl, am_kill, am_mem, am_fv, am_tk, am_wt, am_bk, Option.toList, List.cons_append, List.nil_append, Nat.reduceAdd, Nat.reduceEqDiff, Nat.reduceLeDiff, reduceIte, Nat.reduceLT, or_self, true_or, or_true, if_true, if_false, and_self, and_true, true_and, not_false_eq_true, not_true_eq_false, fd_RunStream_nextOctet_39, fd_RunStream_nextOctet_40, fd_RunStream_nextOctet_43, fd_RunStream_nextOctet_44, fd_RunStream_nextOctet_47, fd_RunStream_nextOctet_50, fd_RunStream_nextOctet_51, fd_RunStream_nextOctet_54, fd_RunStream_nextOctet_55, fd_RunStream_nextOctet_58, fd_RunStream_nextOctet_59, fd_RunStream_nextOctet_62, fd_RunStream_nextOctet_63, kt, hx, t4, k18, r1, k19, n19, i1, q1, one0]
  refine am_go [] 8 ?_
  simp only [am_wp, am_stp, am_en, am_as, am_pad, am_nth, am_set, am_st1, am_st2, am_kl, am_kill, am_mem, am_fv, am_tk, am_wt, am_bk, Option.toList, List.cons_append, List.nil_append, Nat.reduceAdd, Nat.reduceEqDiff, Nat.reduceLeDiff, reduceIte, Nat.reduceLT, or_self, true_or, or_true, if_true, if_false, and_self, and_true, true_and, not_false_eq_true, not_true_eq_false, fd_RunStream_nextOctet_64, fd_RunStream_nextOctet_65, fd_RunStream_nextOctet_66, fd_RunStream_nextOctet_69, fd_RunStream_nextOctet_70, fd_RunStream_nextOctet_71, fd_RunStream_nextOctet_74, fd_RunStream_nextOctet_75, kt, hx, nI_1]
theorem and255 {s : Nat} (hs : s < 256) : nI s &&& 255 = nI s := by
  have : ∀ s : Fin 256, nI s.1 &&& 255 = nI s.1 := by decide +kernel
  exact this ⟨s, hs⟩
theorem l2_readKey_loop {d P t b a s : Nat} {e : ent} {h : am_H} {Q : am_O → am_H → Prop} (hP : cl_Pg P h) (hK : rs_K h t) (hs : s ≤ 8) (hE : ea (fun j => am_I h 19 (b * 128 + j)) a s e) (ht : t ≠ 18 ∧ t ≠ 19) (hy : am_I h t 10 = nI (b * 128 + 120)) (hb : b < P) (ha : a + es s e ≤ 120)
    (hx : ∀ w, am_Ex nm_pr (d + 1) mt_RunStream_readKey (57, [.ref t, .long (kt e.1), .retAddr 0, .int (nI 8), w], [], am_sI h t 9 (nI (b * 128 + (a + 9 - s)))) Q) : ∀ (r j : Nat) (x : Int64) (w : Value), r + j = 8 → s ≤ j → kg x (kt e.1) j →
    am_Ex nm_pr (d + 1) mt_RunStream_readKey (14, [.ref t, .long x, .retAddr 0, .int (nI j), w], [], am_sI h t 9 (nI (b * 128 + (a + 1 + (j - s))))) Q
  | 0, j, x, w, hr, hj, hg => by
    have ej : j = 8 := by omega
    subst ej
    have hlt : ¬ (nI 8 < 8) := by decide
    have ex := kg_8 hg
    subst ex
    refine am_go [20, 57] 3 ?_
    simp only [am_wp, am_stp, am_en, am_as, am_pad, am_nth, am_set, am_st1, am_st2, am_kl, am_kill, am_mem, am_fv, am_tk, am_wt, am_bk, Option.toList, List.cons_append, List.nil_append, Nat.reduceAdd, Nat.reduceEqDiff, Nat.reduceLeDiff, reduceIte, Nat.reduceLT, or_self, true_or, or_true, if_true, if_false, and_self, and_true, true_and, not_false_eq_true, not_true_eq_false, fd_RunStream_readKey_14, fd_RunStream_readKey_15, fd_RunStream_readKey_17, hlt]
    have := hx w
    rw [show a + 9 - s = a + 1 + (8 - s) by omega] at this
    exact this
  | r + 1, j, x, w, hr, hj, hg => by
    have hlt : nI j < 8 := nI_lt (b := 8) (by omega) (by decide)
    have hk : am_kd (am_sI h t 9 (nI (b * 128 + (a + 1 + (j - s))))) t = 7 := hK.1
    have hE2 := hE.2.1 j hj (by omega)
    have hP' : cl_Pg P (am_sI h t 9 (nI (b * 128 + (a + 1 + (j - s))))) := hP.sI (Or.inl ht.1)
    refine am_go [20, 57] 3 ?_
    simp only [am_wp, am_stp, am_en, am_as, am_pad, am_nth, am_set, am_st1, am_st2, am_kl, am_kill, am_mem, am_fv, am_tk, am_wt, am_bk, Option.toList, List.cons_append, List.nil_append, Nat.reduceAdd, Nat.reduceEqDiff, Nat.reduceLeDiff, reduceIte, Nat.reduceLT, or_self, true_or, or_true, if_true, if_false, and_self, and_true, true_and, not_false_eq_true, not_true_eq_false, fd_RunStream_readKey_14, fd_RunStream_readKey_15, fd_RunStream_readKey_17, hlt]
    refine am_go [] 15 ?_
    simp only [am_wp, am_stp, am_en, am_as, am_pad, am_nth, am_set, am_st1, am_st2, am_kl, am_kill, am_mem, am_fv, am_tk, am_wt, am_bk, Option.toList, List.cons_append, List.nil_append, Nat.reduceAdd, Nat.reduceEqDiff, Nat.reduceLeDiff, reduceIte, Nat.reduceLT, or_self, true_or, or_true, if_true, if_false, and_self, and_true, true_and, not_false_eq_true, not_true_eq_false, fd_RunStream_readKey_20, fd_RunStream_readKey_22, fd_RunStream_readKey_24, fd_RunStream_readKey_25, fd_RunStream_readKey_26, fd_RunStream_readKey_27, fd_RunStream_readKey_29, fd_RunStream_readKey_30, fd_RunStream_readKey_33, fd_RunStream_readKey_35, fd_RunStream_readKey_36, fd_RunStream_readKey_39, fd_RunStream_readKey_40, fd_RunStream_readKey_41, fd_RunStream_readKey_42, hk]
    refine am_call (l2_nextOctet (x := b * 128 + (a + 1 + (j - s))) (y := b * 128 + 120) hP' hK ?_ ?_ (by unfold es at ha; omega) (by omega)) (fun o h1 q => ?_)
    · simp only [hx_nx_sI, hx_ce_sI, hx_sl_sI, hx_kd_sI, hx_ln_sI, hx_I_sI, hx_L_sI, hx_R_sI, hx_nx_sL, hx_ce_sL, hx_sl_sL, hx_kd_sL, hx_ln_sL, hx_I_sL, hx_L_sL, hx_R_sL, hx_nx_sR, hx_ce_sR, hx_sl_sR, hx_kd_sR, hx_ln_sR, hx_I_sR, hx_L_sR, hx_R_sR, hx_nx_al, hx_ce_al, hx_sl_al, hx_kd_al, hx_ln_al, hx_I_al, hx_L_al, hx_R_al, hx_nx_row, hx_ce_row, hx_sl_row, hx_kd_row, hx_ln_row, hx_I_row, hx_L_row, hx_R_row, hx_nx_mk, hx_kd_mk, hx_ln_mk, hx_I_mk, hx_L_mk, hx_R_mk, am_wp, am_stp, am_en, am_as, am_pad, am_nth, am_set, am_st1, am_st2, am_kl, am_kill, am_mem, am_fv, am_tk, am_wt, am_bk, Option.toList, List.cons_append, List.nil_append, Nat.reduceAdd, Nat.reduceEqDiff, Nat.reduceLeDiff, reduceIte, Nat.reduceLT, or_self, true_or, or_true, if_true, if_false, and_self, and_true, true_and, not_false_eq_true, not_true_eq_false]
    · simp only [hx_nx_sI, hx_ce_sI, hx_sl_sI, hx_kd_sI, hx_ln_sI, hx_I_sI, hx_L_sI, hx_R_sI, hx_nx_sL, hx_ce_sL, hx_sl_sL, hx_kd_sL, hx_ln_sL, hx_I_sL, hx_L_sL, hx_R_sL, hx_nx_sR, hx_ce_sR, hx_sl_sR, hx_kd_sR, hx_ln_sR, hx_I_sR, hx_L_sR, hx_R_sR, hx_nx_al, hx_ce_al, hx_sl_al, hx_kd_al, hx_ln_al, hx_I_al, hx_L_al, hx_R_al, hx_nx_row, hx_ce_row, hx_sl_row, hx_kd_row, hx_ln_row, hx_I_row, hx_L_row, hx_R_row, hx_nx_mk, hx_kd_mk, hx_ln_mk, hx_I_mk, hx_L_mk, hx_R_mk, am_wp, am_stp, am_en, am_as, am_pad, am_nth, am_set, am_st1, am_st2, am_kl, am_kill, am_mem, am_fv, am_tk, am_wt, am_bk, Option.toList, List.cons_append, List.nil_append, Nat.reduceAdd, Nat.reduceEqDiff, Nat.reduceLeDiff, reduceIte, Nat.reduceLT, or_self, true_or, or_true, if_true, if_false, and_self, and_true, true_and, not_false_eq_true, not_true_eq_false]
      exact hy
    obtain ⟨rfl, rfl⟩ := q
    simp only [am_wp, am_stp, am_en, am_as, am_pad, am_nth, am_set, am_st1, am_st2, am_kl, am_kill, am_mem, am_fv, am_tk, am_wt, am_bk, Option.toList, List.cons_append, List.nil_append, Nat.reduceAdd, Nat.reduceEqDiff, Nat.reduceLeDiff, reduceIte, Nat.reduceLT, or_self, true_or, or_true, if_true, if_false, and_self, and_true, true_and, not_false_eq_true, not_true_eq_false]
    refine am_go [14] 7 ?_
    simp only [am_wp, am_stp, am_en, am_as, am_pad, am_nth, am_set, am_st1, am_st2, am_kl, am_kill, am_mem, am_fv, am_tk, am_wt, am_bk, Option.toList, List.cons_append, List.nil_append, Nat.reduceAdd, Nat.reduceEqDiff, Nat.reduceLeDiff, reduceIte, Nat.reduceLT, or_self, true_or, or_true, if_true, if_false, and_self, and_true, true_and, not_false_eq_true, not_true_eq_false, fd_RunStream_readKey_45, fd_RunStream_readKey_46, fd_RunStream_readKey_48, fd_RunStream_readKey_49, fd_RunStream_readKey_50, fd_RunStream_readKey_51, fd_RunStream_readKey_54, nI_1]
    rw [sI_sI]
    have e1 : am_I (am_sI h t 9 (nI (b * 128 + (a + 1 + (j - s))))) 19 (b * 128 + (a + 1 + (j - s))) = sm_O (kt e.1) j := by
      rw [hx_I_sI, if_neg (by omega)]
      exact hE2
    rw [e1, sm_O_and]
    have := l2_readKey_loop hP hK hs hE ht hy hb ha hx r (j + 1) _ (.int (56 - 8 * nI j)) (by omega) (by omega) (kin_O (show j < 8 by omega) hg)
    rw [show b * 128 + (a + 1 + (j - s)) + 1 = b * 128 + (a + 1 + (j + 1 - s)) by omega]
    exact this
theorem l2_readKey {d P t b a s : Nat} {e : ent} {h : am_H} (hP : cl_Pg P h) (hK : rs_K h t) (hs : s ≤ 8) (hE : ea (fun j => am_I h 19 (b * 128 + j)) a s e) (ht : t ≠ 18 ∧ t ≠ 19) (hx : am_I h t 9 = nI (b * 128 + a)) (hy : am_I h t 10 = nI (b * 128 + 120)) (hb : b < P) (ha : a + es s e ≤ 120) (hg : kg (am_L h t 1) e.1 s) : am_Rt nm_pr (d + 2) mi_RunStream_readKey [.ref t] h (fun o h' => o = .inl none ∧ h' = am_sL (am_sI h t 9 (nI (b * 128 + (a + 9 - s)))) t 1 e.1) := by
  have k1 := hK.1
  have h2 := es_ge hs e
  refine am_in' (d := d + 1) mt_RunStream_readKey 5 rfl rfl rfl ?_
  refine am_go [] 7 ?_
  simp only [am_wp, am_stp, am_en, am_as, am_pad, am_nth, am_set, am_st1, am_st2, am_kl, am_kill, am_mem, am_fv, am_tk, am_wt, am_bk, Option.toList, List.cons_append, List.nil_append, Nat.reduceAdd, Nat.reduceEqDiff, Nat.reduceLeDiff, reduceIte, Nat.reduceLT, or_self, true_or, or_true, if_true, if_false, and_self, and_true, true_and, not_false_eq_true, not_true_eq_false, fd_RunStream_readKey_0, fd_RunStream_readKey_1, fd_RunStream_readKey_4, fd_RunStream_readKey_7, fd_RunStream_readKey_8, fd_RunStream_readKey_9, fd_RunStream_readKey_10, k1]
  refine am_call (l2_nextOctet hP hK hx hy (by omega) (by omega)) (fun o h1 q => ?_)
  obtain ⟨rfl, rfl⟩ := q
  have e0 : am_I h 19 (b * 128 + a) = nI s := hE.1
  rw [e0, and255 (by omega)]
  simp only [am_wp, am_stp, am_en, am_as, am_pad, am_nth, am_set, am_st1, am_st2, am_kl, am_kill, am_mem, am_fv, am_tk, am_wt, am_bk, Option.toList, List.cons_append, List.nil_append, Nat.reduceAdd, Nat.reduceEqDiff, Nat.reduceLeDiff, reduceIte, Nat.reduceLT, or_self, true_or, or_true, if_true, if_false, and_self, and_true, true_and, not_false_eq_true, not_true_eq_false]
  refine am_go [14] 1 ?_
  simp only [am_wp, am_stp, am_en, am_as, am_pad, am_nth, am_set, am_st1, am_st2, am_kl, am_kill, am_mem, am_fv, am_tk, am_wt, am_bk, Option.toList, List.cons_append, List.nil_append, Nat.reduceAdd, Nat.reduceEqDiff, Nat.reduceLeDiff, reduceIte, Nat.reduceLT, or_self, true_or, or_true, if_true, if_false, and_self, and_true, true_and, not_false_eq_true, not_true_eq_false, fd_RunStream_readKey_13]
  have := l2_readKey_loop (d := d) (Q := fun o h' => o = .inl none ∧ h' = am_sL (am_sI h t 9 (nI (b * 128 + (a + 9 - s)))) t 1 e.1) hP hK hs hE ht hy hb ha (fun w => ?_) (8 - s) s _ am_j (by omega) (Nat.le_refl _) (kg_kt hg)
  · rw [Nat.sub_self] at this
    exact this
  · have k2 : am_kd (am_sI h t 9 (nI (b * 128 + (a + 9 - s)))) t = 7 := k1
    refine am_go [] 6 ?_
    simp only [am_wp, am_stp, am_en, am_as, am_pad, am_nth, am_set, am_st1, am_st2, am_kl, am_kill, am_mem, am_fv, am_tk, am_wt, am_bk, Option.toList, List.cons_append, List.nil_append, Nat.reduceAdd, Nat.reduceEqDiff, Nat.reduceLeDiff, reduceIte, Nat.reduceLT, or_self, true_or, or_true, if_true, if_false, and_self, and_true, true_and, not_false_eq_true, not_true_eq_false, fd_RunStream_readKey_57, fd_RunStream_readKey_58, fd_RunStream_readKey_59, fd_RunStream_readKey_62, fd_RunStream_readKey_63, fd_RunStream_readKey_66, k2]
    have : kt e.1 ^^^ -9223372036854775808 = e.1 := kt_kt e.1
    rw [this]
theorem by_x {x : Nat} (hx : x < 256) : (am_b8 (nI x) &&& 255 = nI x) ∧ ((nI x &&& 127).toInt64 = Int64.ofNat (x % 128)) ∧ ((127 < nI x) ↔ 128 ≤ x) ∧ ((am_b8 (nI x)).toInt64 &&& 127 = Int64.ofNat (x % 128)) ∧ ((am_b8 (nI x) < 0) ↔ 128 ≤ x) := by_all ⟨x, hx⟩
theorem vb_mod (z m i : Nat) : vb z m i % 128 = z / 128 ^ i % 128 := by unfold vb; split <;> omega
theorem vb_hi (z m i : Nat) : 128 ≤ vb z m i ↔ i + 1 < m := by
  unfold vb
  have := Nat.mod_lt (z / 128 ^ i) (show 128 > 0 by decide)
  split <;> omega
theorem s7_c {i : Nat} (hi : i < 10) : (7 * nI i).toInt64 &&& 63 = Int64.ofNat (7 * i) := s7_l hi
theorem l2_readValue_loop {d P t b a m : Nat} {z : Int64} {h : am_H} {Q : am_O → am_H → Prop} (hP : cl_Pg P h) (hK : rs_K h t) (ht : t ≠ 18 ∧ t ≠ 19) (hm : m = vs z) (hB : ∀ i, i < m → am_I h 19 (b * 128 + (a + i)) = am_b8 (nI (vb (zN z) m i))) (hy : am_I h t 10 = nI (b * 128 + 120)) (hb : b < P) (ha : a + m ≤ 120)
    (hx : ∀ w, am_Ex nm_pr (d + 1) mt_RunStream_readValue (58, [.ref t, .long z, .retAddr 0, .int 0, .int (nI m), w], [], am_sI h t 9 (nI (b * 128 + (a + m)))) Q) : ∀ (r i : Nat) (w : Value), r + i = m →
    am_Ex nm_pr (d + 1) mt_RunStream_readValue (7, [.ref t, .long (Int64.ofNat (zN z % 128 ^ i)), .retAddr 0, .int (if i < m then 1 else 0), .int (nI i), w], [], am_sI h t 9 (nI (b * 128 + (a + i)))) Q
  | 0, i, w, hr => by
    have ei : i = m := by omega
    subst ei
    have hv := vs_le z
    have e0 : Int64.ofNat (zN z % 128 ^ i) = z := vb_end (by rw [hm]; exact vs_0 z)
    rw [if_neg (by omega), e0]
    by_cases h10 : i = 10
    · have hlt : ¬ (nI i < 10) := by rw [h10]; decide
      refine am_go [14, 58] 3 ?_
      simp only [am_wp, am_stp, am_en, am_as, am_pad, am_nth, am_set, am_st1, am_st2, am_kl, am_kill, am_mem, am_fv, am_tk, am_wt, am_bk, Option.toList, List.cons_append, List.nil_append, Nat.reduceAdd, Nat.reduceEqDiff, Nat.reduceLeDiff, reduceIte, Nat.reduceLT, or_self, true_or, or_true, if_true, if_false, and_self, and_true, true_and, not_false_eq_true, not_true_eq_false, fd_RunStream_readValue_7, fd_RunStream_readValue_9, fd_RunStream_readValue_11, hlt]
      exact hx w
    · have hlt : nI i < 10 := nI_lt (b := 10) (by omega) (by decide)
      refine am_go [18, 58] 5 ?_
      simp only [am_wp, am_stp, am_en, am_as, am_pad, am_nth, am_set, am_st1, am_st2, am_kl, am_kill, am_mem, am_fv, am_tk, am_wt, am_bk, Option.toList, List.cons_append, List.nil_append, Nat.reduceAdd, Nat.reduceEqDiff, Nat.reduceLeDiff, reduceIte, Nat.reduceLT, or_self, true_or, or_true, if_true, if_false, and_self, and_true, true_and, not_false_eq_true, not_true_eq_false, fd_RunStream_readValue_7, fd_RunStream_readValue_9, fd_RunStream_readValue_11, fd_RunStream_readValue_14, fd_RunStream_readValue_15, hlt]
      exact hx w
  | r + 1, i, w, hr => by
    have hv := vs_le z
    have hlt : nI i < 10 := nI_lt (b := 10) (by omega) (by decide)
    have one0 : ¬ (1 : Int32) = 0 := by decide
    have hk : am_kd (am_sI h t 9 (nI (b * 128 + (a + i)))) t = 7 := hK.1
    have hP' : cl_Pg P (am_sI h t 9 (nI (b * 128 + (a + i)))) := hP.sI (Or.inl ht.1)
    have hx2 := by_x (vb_lt (zN z) m i)
    rw [if_pos (by omega)]
    refine am_go [18, 58] 5 ?_
    simp only [am_wp, am_stp, am_en, am_as, am_pad, am_nth, am_set, am_st1, am_st2, am_kl, am_kill, am_mem, am_fv, am_tk, am_wt, am_bk, Option.toList, List.cons_append, List.nil_append, Nat.reduceAdd, Nat.reduceEqDiff, Nat.reduceLeDiff, reduceIte, Nat.reduceLT, or_self, true_or, or_true, if_true, if_false, and_self, and_true, true_and, not_false_eq_true, not_true_eq_false, fd_RunStream_readValue_7, fd_RunStream_readValue_9, fd_RunStream_readValue_11, fd_RunStream_readValue_14, fd_RunStream_readValue_15, hlt, one0]
    refine am_go [] 2 ?_
    simp only [am_wp, am_stp, am_en, am_as, am_pad, am_nth, am_set, am_st1, am_st2, am_kl, am_kill, am_mem, am_fv, am_tk, am_wt, am_bk, Option.toList, List.cons_append, List.nil_append, Nat.reduceAdd, Nat.reduceEqDiff, Nat.reduceLeDiff, reduceIte, Nat.reduceLT, or_self, true_or, or_true, if_true, if_false, and_self, and_true, true_and, not_false_eq_true, not_true_eq_false, fd_RunStream_readValue_18, fd_RunStream_readValue_19, hk]
    refine am_call (l2_nextOctet (x := b * 128 + (a + i)) (y := b * 128 + 120) hP' hK ?_ ?_ (by omega) (by omega)) (fun o h1 q => ?_)
    · simp only [hx_nx_sI, hx_ce_sI, hx_sl_sI, hx_kd_sI, hx_ln_sI, hx_I_sI, hx_L_sI, hx_R_sI, hx_nx_sL, hx_ce_sL, hx_sl_sL, hx_kd_sL, hx_ln_sL, hx_I_sL, hx_L_sL, hx_R_sL, hx_nx_sR, hx_ce_sR, hx_sl_sR, hx_kd_sR, hx_ln_sR, hx_I_sR, hx_L_sR, hx_R_sR, hx_nx_al, hx_ce_al, hx_sl_al, hx_kd_al, hx_ln_al, hx_I_al, hx_L_al, hx_R_al, hx_nx_row, hx_ce_row, hx_sl_row, hx_kd_row, hx_ln_row, hx_I_row, hx_L_row, hx_R_row, hx_nx_mk, hx_kd_mk, hx_ln_mk, hx_I_mk, hx_L_mk, hx_R_mk, am_wp, am_stp, am_en, am_as, am_pad, am_nth, am_set, am_st1, am_st2, am_kl, am_kill, am_mem, am_fv, am_tk, am_wt, am_bk, Option.toList, List.cons_append, List.nil_append, Nat.reduceAdd, Nat.reduceEqDiff, Nat.reduceLeDiff, reduceIte, Nat.reduceLT, or_self, true_or, or_true, if_true, if_false, and_self, and_true, true_and, not_false_eq_true, not_true_eq_false]
    · simp only [hx_nx_sI, hx_ce_sI, hx_sl_sI, hx_kd_sI, hx_ln_sI, hx_I_sI, hx_L_sI, hx_R_sI, hx_nx_sL, hx_ce_sL, hx_sl_sL, hx_kd_sL, hx_ln_sL, hx_I_sL, hx_L_sL, hx_R_sL, hx_nx_sR, hx_ce_sR, hx_sl_sR, hx_kd_sR, hx_ln_sR, hx_I_sR, hx_L_sR, hx_R_sR, hx_nx_al, hx_ce_al, hx_sl_al, hx_kd_al, hx_ln_al, hx_I_al, hx_L_al, hx_R_al, hx_nx_row, hx_ce_row, hx_sl_row, hx_kd_row, hx_ln_row, hx_I_row, hx_L_row, hx_R_row, hx_nx_mk, hx_kd_mk, hx_ln_mk, hx_I_mk, hx_L_mk, hx_R_mk, am_wp, am_stp, am_en, am_as, am_pad, am_nth, am_set, am_st1, am_st2, am_kl, am_kill, am_mem, am_fv, am_tk, am_wt, am_bk, Option.toList, List.cons_append, List.nil_append, Nat.reduceAdd, Nat.reduceEqDiff, Nat.reduceLeDiff, reduceIte, Nat.reduceLT, or_self, true_or, or_true, if_true, if_false, and_self, and_true, true_and, not_false_eq_true, not_true_eq_false]
      exact hy
    obtain ⟨rfl, rfl⟩ := q
    rw [sI_sI]
    have e1 : am_I (am_sI h t 9 (nI (b * 128 + (a + i)))) 19 (b * 128 + (a + i)) = am_b8 (nI (vb (zN z) m i)) := by
      rw [hx_I_sI, if_neg (by omega)]
      exact hB i (by omega)
    rw [e1, hx2.1]
    simp only [am_wp, am_stp, am_en, am_as, am_pad, am_nth, am_set, am_st1, am_st2, am_kl, am_kill, am_mem, am_fv, am_tk, am_wt, am_bk, Option.toList, List.cons_append, List.nil_append, Nat.reduceAdd, Nat.reduceEqDiff, Nat.reduceLeDiff, reduceIte, Nat.reduceLT, or_self, true_or, or_true, if_true, if_false, and_self, and_true, true_and, not_false_eq_true, not_true_eq_false]
    refine am_go [39] 12 ?_
    simp only [am_wp, am_stp, am_en, am_as, am_pad, am_nth, am_set, am_st1, am_st2, am_kl, am_kill, am_mem, am_fv, am_tk, am_wt, am_bk, Option.toList, List.cons_append, List.nil_append, Nat.reduceAdd, Nat.reduceEqDiff, Nat.reduceLeDiff, reduceIte, Nat.reduceLT, or_self, true_or, or_true, if_true, if_false, and_self, and_true, true_and, not_false_eq_true, not_true_eq_false, fd_RunStream_readValue_22, fd_RunStream_readValue_24, fd_RunStream_readValue_25, fd_RunStream_readValue_27, fd_RunStream_readValue_29, fd_RunStream_readValue_30, fd_RunStream_readValue_31, fd_RunStream_readValue_33, fd_RunStream_readValue_35, fd_RunStream_readValue_36, fd_RunStream_readValue_37, fd_RunStream_readValue_38]
    rw [hx2.2.1, vb_mod, s7_c (show i < 10 by omega), vb_in (show i < 10 by omega)]
    have nx := fun w => l2_readValue_loop hP hK ht hm hB hy hb ha hx r (i + 1) w (by omega)
    rw [show b * 128 + (a + i) + 1 = b * 128 + (a + (i + 1)) by omega]
    by_cases q : i + 1 < m
    · have h127 : (127 : Int32) < nI (vb (zN z) m i) := hx2.2.2.1.mpr ((vb_hi _ _ _).mpr q)
      refine am_go [50, 7] 9 ?_
      simp only [am_wp, am_stp, am_en, am_as, am_pad, am_nth, am_set, am_st1, am_st2, am_kl, am_kill, am_mem, am_fv, am_tk, am_wt, am_bk, Option.toList, List.cons_append, List.nil_append, Nat.reduceAdd, Nat.reduceEqDiff, Nat.reduceLeDiff, reduceIte, Nat.reduceLT, or_self, true_or, or_true, if_true, if_false, and_self, and_true, true_and, not_false_eq_true, not_true_eq_false, fd_RunStream_readValue_39, fd_RunStream_readValue_41, fd_RunStream_readValue_43, fd_RunStream_readValue_46, fd_RunStream_readValue_47, fd_RunStream_readValue_50, fd_RunStream_readValue_51, fd_RunStream_readValue_52, fd_RunStream_readValue_55, h127, nI_1]
      have := nx (.int (nI (vb (zN z) m i)))
      rw [if_pos q] at this
      exact this
    · have h127 : ¬ (127 : Int32) < nI (vb (zN z) m i) := fun c => q ((vb_hi _ _ _).mp (hx2.2.2.1.mp c))
      refine am_go [46, 7] 9 ?_
      simp only [am_wp, am_stp, am_en, am_as, am_pad, am_nth, am_set, am_st1, am_st2, am_kl, am_kill, am_mem, am_fv, am_tk, am_wt, am_bk, Option.toList, List.cons_append, List.nil_append, Nat.reduceAdd, Nat.reduceEqDiff, Nat.reduceLeDiff, reduceIte, Nat.reduceLT, or_self, true_or, or_true, if_true, if_false, and_self, and_true, true_and, not_false_eq_true, not_true_eq_false, fd_RunStream_readValue_39, fd_RunStream_readValue_41, fd_RunStream_readValue_43, fd_RunStream_readValue_46, fd_RunStream_readValue_47, fd_RunStream_readValue_50, fd_RunStream_readValue_51, fd_RunStream_readValue_52, fd_RunStream_readValue_55, h127, nI_1]
      have := nx (.int (nI (vb (zN z) m i)))
      rw [if_neg q] at this
      exact this
theorem l2_readValue {d P t b a : Nat} {v : Int64} {h : am_H} (hP : cl_Pg P h) (hK : rs_K h t) (ht : t ≠ 18 ∧ t ≠ 19) (hB : ∀ i, i < vs (zf v) → am_I h 19 (b * 128 + (a + i)) = am_b8 (nI (vb (zN (zf v)) (vs (zf v)) i))) (hx : am_I h t 9 = nI (b * 128 + a)) (hy : am_I h t 10 = nI (b * 128 + 120)) (hb : b < P) (ha : a + vs (zf v) ≤ 120) : am_Rt nm_pr (d + 2) mi_RunStream_readValue [.ref t] h (fun o h' => o = .inl (some (.long v)) ∧ h' = am_sI h t 9 (nI (b * 128 + (a + vs (zf v))))) := by
  have hv := vs_le (zf v)
  refine am_in' (d := d + 1) mt_RunStream_readValue 6 rfl rfl rfl ?_
  refine am_go [7] 7 ?_
  simp only [am_wp, am_stp, am_en, am_as, am_pad, am_nth, am_set, am_st1, am_st2, am_kl, am_kill, am_mem, am_fv, am_tk, am_wt, am_bk, Option.toList, List.cons_append, List.nil_append, Nat.reduceAdd, Nat.reduceEqDiff, Nat.reduceLeDiff, reduceIte, Nat.reduceLT, or_self, true_or, or_true, if_true, if_false, and_self, and_true, true_and, not_false_eq_true, not_true_eq_false, fd_RunStream_readValue_0, fd_RunStream_readValue_1, fd_RunStream_readValue_2, fd_RunStream_readValue_3, fd_RunStream_readValue_4, fd_RunStream_readValue_5]
  have := l2_readValue_loop (d := d) (Q := fun o h' => o = .inl (some (.long v)) ∧ h' = am_sI h t 9 (nI (b * 128 + (a + vs (zf v))))) hP hK ht rfl hB hy hb ha (fun w => ?_) (vs (zf v)) 0 am_j (by omega)
  · rw [if_pos (by omega), show am_sI h t 9 (nI (b * 128 + (a + 0))) = h from hx_sI_id hx] at this
    have e0 : Int64.ofNat (zN (zf v) % 128 ^ 0) = 0 := by rw [Nat.pow_zero, Nat.mod_one]; rfl
    rw [e0] at this
    exact this
  · refine am_go [] 9 ?_
    simp only [am_wp, am_stp, am_en, am_as, am_pad, am_nth, am_set, am_st1, am_st2, am_kl, am_kill, am_mem, am_fv, am_tk, am_wt, am_bk, Option.toList, List.cons_append, List.nil_append, Nat.reduceAdd, Nat.reduceEqDiff, Nat.reduceLeDiff, reduceIte, Nat.reduceLT, or_self, true_or, or_true, if_true, if_false, and_self, and_true, true_and, not_false_eq_true, not_true_eq_false, fd_RunStream_readValue_58, fd_RunStream_readValue_59, fd_RunStream_readValue_60, fd_RunStream_readValue_61, fd_RunStream_readValue_62, fd_RunStream_readValue_63, fd_RunStream_readValue_64, fd_RunStream_readValue_65, fd_RunStream_readValue_66]
    have : ((zf v).toUInt64 >>> ((1 : Int32).toInt64.toUInt64 &&& Int64.toUInt64 63)).toInt64 ^^^ -(zf v &&& 1) = v := zb_zf v
    rw [this]
