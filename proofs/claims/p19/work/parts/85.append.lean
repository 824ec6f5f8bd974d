-- needs: 84.sheet2 04.fd
/-! THE SHEET: an entry is laid -/
/-- octets W have come behind u, k of them -/
def ap_I (h g : am_H) (u k : Nat) (W : Nat → Int32) : Prop := am_fi [14, 15] h g ∧ am_L g = am_L h ∧ am_I g 14 1 = nI (u + k) ∧ am_I g 14 2 = am_I h 14 2 ∧ (∀ j, j < u → am_I g 15 j = am_I h 15 j) ∧ ∀ i, i < k → am_I g 15 (u + i) = W i
theorem l2_ap {d u k : Nat} {x : Int32} {h g : am_H} {W : Nat → Int32} (hS : cl_Sh h) (A : ap_I h g u k W) (hu : u + k < 120) (hx : am_b8 x = W k) : am_Rt nm_pr (d + 1) mi_Sheet_one [.ref 14, .int x] g (fun o g' => o = .inl none ∧ ap_I h g' u (k + 1) W) := by
  obtain ⟨a1, a2, a3, a4, a5, a6⟩ := A
  refine am_call (l2_one (hS.fi a1) a3 hu) (fun o g' q => ?_)
  obtain ⟨rfl, rfl⟩ := q
  refine ⟨rfl, (a1.sI (by simp)).sI (by simp), a2, ?_, ?_, fun j hj => ?_, fun i hi => ?_⟩
  · simp only [hx_nx_sI, hx_ce_sI, hx_sl_sI, hx_kd_sI, hx_ln_sI, hx_I_sI, hx_L_sI, hx_R_sI, hx_nx_sL, hx_ce_sL, hx_sl_sL, hx_kd_sL, hx_ln_sL, hx_I_sL, hx_L_sL, hx_R_sL, hx_nx_sR, hx_ce_sR, hx_sl_sR, hx_kd_sR, hx_ln_sR, hx_I_sR, hx_L_sR, hx_R_sR, hx_nx_al, hx_ce_al, hx_sl_al, hx_kd_al, hx_ln_al, hx_I_al, hx_L_al, hx_R_al, hx_nx_row, hx_ce_row, hx_sl_row, hx_kd_row, hx_ln_row, hx_I_row, hx_L_row, hx_R_row, hx_nx_mk, hx_kd_mk, hx_ln_mk, hx_I_mk, hx_L_mk, hx_R_mk, am_wp, am_stp, am_en, am_as, am_pad, am_nth, am_set, am_st1, am_st2, am_kl, am_kill, am_mem, am_fv, am_tk, am_wt, am_bk, Option.toList, List.cons_append, List.nil_append, Nat.reduceAdd, Nat.reduceEqDiff, Nat.reduceLeDiff, reduceIte, Nat.reduceLT, or_self, true_or, or_true, if_true, if_false, and_self, and_true, true_and, not_false_eq_true, not_true_eq_false]; rfl
  · simp only [hx_nx_sI, hx_ce_sI, hx_sl_sI, hx_kd_sI, hx_ln_sI, hx_I_sI, hx_L_sI, hx_R_sI, hx_nx_sL, hx_ce_sL, hx_sl_sL, hx_kd_sL, hx_ln_sL, hx_I_sL, hx_L_sL, hx_R_sL, hx_nx_sR, hx_ce_sR, hx_sl_sR, hx_kd_sR, hx_ln_sR, hx_I_sR, hx_L_sR, hx_R_sR, hx_nx_al, hx_ce_al, hx_sl_al, hx_kd_al, hx_ln_al, hx_I_al, hx_L_al, hx_R_al, hx_nx_row, hx_ce_row, hx_sl_row, hx_kd_row, hx_ln_row, hx_I_row, hx_L_row, hx_R_row, hx_nx_mk, hx_kd_mk, hx_ln_mk, hx_I_mk, hx_L_mk, hx_R_mk, am_wp, am_stp, am_en, am_as, am_pad, am_nth, am_set, am_st1, am_st2, am_kl, am_kill, am_mem, am_fv, am_tk, am_wt, am_bk, Option.toList, List.cons_append, List.nil_append, Nat.reduceAdd, Nat.reduceEqDiff, Nat.reduceLeDiff, reduceIte, Nat.reduceLT, or_self, true_or, or_true, if_true, if_false, and_self, and_true, true_and, not_false_eq_true, not_true_eq_false]; exact a4
  · simp only [hx_nx_sI, hx_ce_sI, hx_sl_sI, hx_kd_sI, hx_ln_sI, hx_I_sI, hx_L_sI, hx_R_sI, hx_nx_sL, hx_ce_sL, hx_sl_sL, hx_kd_sL, hx_ln_sL, hx_I_sL, hx_L_sL, hx_R_sL, hx_nx_sR, hx_ce_sR, hx_sl_sR, hx_kd_sR, hx_ln_sR, hx_I_sR, hx_L_sR, hx_R_sR, hx_nx_al, hx_ce_al, hx_sl_al, hx_kd_al, hx_ln_al, hx_I_al, hx_L_al, hx_R_al, hx_nx_row, hx_ce_row, hx_sl_row, hx_kd_row, hx_ln_row, hx_I_row, hx_L_row, hx_R_row, hx_nx_mk, hx_kd_mk, hx_ln_mk, hx_I_mk, hx_L_mk, hx_R_mk, am_wp, am_stp, am_en, am_as, am_pad, am_nth, am_set, am_st1, am_st2, am_kl, am_kill, am_mem, am_fv, am_tk, am_wt, am_bk, Option.toList, List.cons_append, List.nil_append, Nat.reduceAdd, Nat.reduceEqDiff, Nat.reduceLeDiff, reduceIte, Nat.reduceLT, or_self, true_or, or_true, if_true, if_false, and_self, and_true, true_and, not_false_eq_true, not_true_eq_false]
    rw [if_neg (by omega)]; exact a5 j hj
  · simp only [hx_nx_sI, hx_ce_sI, hx_sl_sI, hx_kd_sI, hx_ln_sI, hx_I_sI, hx_L_sI, hx_R_sI, hx_nx_sL, hx_ce_sL, hx_sl_sL, hx_kd_sL, hx_ln_sL, hx_I_sL, hx_L_sL, hx_R_sL, hx_nx_sR, hx_ce_sR, hx_sl_sR, hx_kd_sR, hx_ln_sR, hx_I_sR, hx_L_sR, hx_R_sR, hx_nx_al, hx_ce_al, hx_sl_al, hx_kd_al, hx_ln_al, hx_I_al, hx_L_al, hx_R_al, hx_nx_row, hx_ce_row, hx_sl_row, hx_kd_row, hx_ln_row, hx_I_row, hx_L_row, hx_R_row, hx_nx_mk, hx_kd_mk, hx_ln_mk, hx_I_mk, hx_L_mk, hx_R_mk, am_wp, am_stp, am_en, am_as, am_pad, am_nth, am_set, am_st1, am_st2, am_kl, am_kill, am_mem, am_fv, am_tk, am_wt, am_bk, Option.toList, List.cons_append, List.nil_append, Nat.reduceAdd, Nat.reduceEqDiff, Nat.reduceLeDiff, reduceIte, Nat.reduceLT, or_self, true_or, or_true, if_true, if_false, and_self, and_true, true_and, not_false_eq_true, not_true_eq_false]
    by_cases e : i = k
    · subst e; rw [if_pos rfl]; exact hx
    · rw [if_neg (by omega)]; exact a6 i (by omega)
theorem l2_appendValue_loop {d u q m : Nat} {z : Int64} {h : am_H} {W : Nat → Int32} {Q : am_O → am_H → Prop} (hS : cl_Sh h) (hm : m = vs z) (hu : u + q + m ≤ 120) (hW : ∀ i, i < m → W (q + i) = am_b8 (nI (vb (zN z) m i))) (hx : ∀ g, ap_I h g u (q + m) W → Q (.inl none) g) : ∀ (r i : Nat) (l : Int64) (g : am_H), r + 1 + i = m → zN l = zN z / 128 ^ i → ap_I h g u (q + i) W →
    am_Ex nm_pr (d + 1) mt_Sheet_appendValue (8, [.ref 14, .long z, .retAddr 0, .long l, .retAddr 0, .int (nI (r + 1))], [], g) Q
  | 0, i, l, g, hr, hl, A => by
    have k1 := (hS.fi A.1).1
    have h1 : ¬ (1 : Int32) < nI (0 + 1) := by decide
    have hw : am_b8 l.toInt32 = W (q + i) := by
      rw [hW i (by omega)]
      refine vb_last hl (by omega) ?_
      rw [show i + 1 = vs z by omega]
      exact vs_0 z
    refine am_go [14] 7 ?_
    simp only [am_wp, am_stp, am_en, am_as, am_pad, am_nth, am_set, am_st1, am_st2, am_kl, am_kill, am_mem, am_fv, am_tk, am_wt, am_bk, Option.toList, List.cons_append, List.nil_append, Nat.reduceAdd, Nat.reduceEqDiff, Nat.reduceLeDiff, reduceIte, Nat.reduceLT, or_self, true_or, or_true, if_true, if_false, and_self, and_true, true_and, not_false_eq_true, not_true_eq_false, fd_Sheet_appendValue_8, fd_Sheet_appendValue_10, fd_Sheet_appendValue_11, fd_Sheet_appendValue_39, fd_Sheet_appendValue_40, fd_Sheet_appendValue_41, fd_Sheet_appendValue_42, k1, h1]
    refine am_call (l2_ap hS A (by omega) hw) (fun o g' z => ?_)
    obtain ⟨rfl, A'⟩ := z
    simp only [am_wp, am_stp, am_en, am_as, am_pad, am_nth, am_set, am_st1, am_st2, am_kl, am_kill, am_mem, am_fv, am_tk, am_wt, am_bk, Option.toList, List.cons_append, List.nil_append, Nat.reduceAdd, Nat.reduceEqDiff, Nat.reduceLeDiff, reduceIte, Nat.reduceLT, or_self, true_or, or_true, if_true, if_false, and_self, and_true, true_and, not_false_eq_true, not_true_eq_false]
    refine am_go [] 1 ?_
    simp only [am_wp, am_stp, am_en, am_as, am_pad, am_nth, am_set, am_st1, am_st2, am_kl, am_kill, am_mem, am_fv, am_tk, am_wt, am_bk, Option.toList, List.cons_append, List.nil_append, Nat.reduceAdd, Nat.reduceEqDiff, Nat.reduceLeDiff, reduceIte, Nat.reduceLT, or_self, true_or, or_true, if_true, if_false, and_self, and_true, true_and, not_false_eq_true, not_true_eq_false, fd_Sheet_appendValue_45]
    exact hx g' (by rw [show m = i + 1 by omega]; exact A')
  | r + 1, i, l, g, hr, hl, A => by
    have k1 := (hS.fi A.1).1
    have h1 : (1 : Int32) < nI (r + 1 + 1) := nI_lt (a := 1) (by omega) (by have := (vs_le z).2; omega)
    have hw : am_b8 ((l &&& 127).toInt32 ||| 128) = W (q + i) := by
      rw [hW i (by omega)]
      exact vb_class hl (by omega)
    have hd : nI (r + 1 + 1) + -1 = nI (r + 1) := by
      rw [← nI_1 (r + 1)]
      rw [Int32.add_assoc, show (1 : Int32) + -1 = 0 from by decide, Int32.add_zero]
    refine am_go [14, 39] 3 ?_
    simp only [am_wp, am_stp, am_en, am_as, am_pad, am_nth, am_set, am_st1, am_st2, am_kl, am_kill, am_mem, am_fv, am_tk, am_wt, am_bk, Option.toList, List.cons_append, List.nil_append, Nat.reduceAdd, Nat.reduceEqDiff, Nat.reduceLeDiff, reduceIte, Nat.reduceLT, or_self, true_or, or_true, if_true, if_false, and_self, and_true, true_and, not_false_eq_true, not_true_eq_false, fd_Sheet_appendValue_8, fd_Sheet_appendValue_10, fd_Sheet_appendValue_11, h1]
    refine am_go [] 8 ?_
    simp only [am_wp, am_stp, am_en, am_as, am_pad, am_nth, am_set, am_st1, am_st2, am_kl, am_kill, am_mem, am_fv, am_tk, am_wt, am_bk, Option.toList, List.cons_append, List.nil_append, Nat.reduceAdd, Nat.reduceEqDiff, Nat.reduceLeDiff, reduceIte, Nat.reduceLT, or_self, true_or, or_true, if_true, if_false, and_self, and_true, true_and, not_false_eq_true, not_true_eq_false, fd_Sheet_appendValue_14, fd_Sheet_appendValue_15, fd_Sheet_appendValue_16, fd_Sheet_appendValue_19, fd_Sheet_appendValue_20, fd_Sheet_appendValue_21, fd_Sheet_appendValue_24, fd_Sheet_appendValue_25, k1]
    refine am_call (l2_ap hS A (by omega) hw) (fun o g' z => ?_)
    obtain ⟨rfl, A'⟩ := z
    simp only [am_wp, am_stp, am_en, am_as, am_pad, am_nth, am_set, am_st1, am_st2, am_kl, am_kill, am_mem, am_fv, am_tk, am_wt, am_bk, Option.toList, List.cons_append, List.nil_append, Nat.reduceAdd, Nat.reduceEqDiff, Nat.reduceLeDiff, reduceIte, Nat.reduceLT, or_self, true_or, or_true, if_true, if_false, and_self, and_true, true_and, not_false_eq_true, not_true_eq_false]
    refine am_go [8] 7 ?_
    simp only [am_wp, am_stp, am_en, am_as, am_pad, am_nth, am_set, am_st1, am_st2, am_kl, am_kill, am_mem, am_fv, am_tk, am_wt, am_bk, Option.toList, List.cons_append, List.nil_append, Nat.reduceAdd, Nat.reduceEqDiff, Nat.reduceLeDiff, reduceIte, Nat.reduceLT, or_self, true_or, or_true, if_true, if_false, and_self, and_true, true_and, not_false_eq_true, not_true_eq_false, fd_Sheet_appendValue_28, fd_Sheet_appendValue_29, fd_Sheet_appendValue_31, fd_Sheet_appendValue_32, fd_Sheet_appendValue_33, fd_Sheet_appendValue_36, hd]
    exact l2_appendValue_loop hS hm hu hW hx r (i + 1) _ g' (by omega) (vs_next hl) A'
theorem l2_appendValue {d u q : Nat} {z : Int64} {h g : am_H} {W : Nat → Int32} (hS : cl_Sh h) (hu : u + q + vs z ≤ 120) (hW : ∀ i, i < vs z → W (q + i) = am_b8 (nI (vb (zN z) (vs z) i))) (A : ap_I h g u q W) : am_Rt nm_pr (d + 2) mi_Sheet_appendValue [.ref 14, .long z] g (fun o g' => o = .inl none ∧ ap_I h g' u (q + vs z) W) := by
  have hv := vs_le z
  refine am_in' (d := d + 1) mt_Sheet_appendValue 6 rfl rfl rfl ?_
  refine am_go [] 4 ?_
  simp only [am_wp, am_stp, am_en, am_as, am_pad, am_nth, am_set, am_st1, am_st2, am_kl, am_kill, am_mem, am_fv, am_tk, am_wt, am_bk, Option.toList, List.cons_append, List.nil_append, Nat.reduceAdd, Nat.reduceEqDiff, Nat.reduceLeDiff, reduceIte, Nat.reduceLT, or_self, true_or, or_true, if_true, if_false, and_self, and_true, true_and, not_false_eq_true, not_true_eq_false, fd_Sheet_appendValue_0, fd_Sheet_appendValue_1, fd_Sheet_appendValue_2, fd_Sheet_appendValue_3]
  refine am_call l2_sizeOf (fun o g' z => ?_)
  obtain ⟨rfl, rfl⟩ := z
  simp only [am_wp, am_stp, am_en, am_as, am_pad, am_nth, am_set, am_st1, am_st2, am_kl, am_kill, am_mem, am_fv, am_tk, am_wt, am_bk, Option.toList, List.cons_append, List.nil_append, Nat.reduceAdd, Nat.reduceEqDiff, Nat.reduceLeDiff, reduceIte, Nat.reduceLT, or_self, true_or, or_true, if_true, if_false, and_self, and_true, true_and, not_false_eq_true, not_true_eq_false]
  refine am_go [8] 1 ?_
  simp only [am_wp, am_stp, am_en, am_as, am_pad, am_nth, am_set, am_st1, am_st2, am_kl, am_kill, am_mem, am_fv, am_tk, am_wt, am_bk, Option.toList, List.cons_append, List.nil_append, Nat.reduceAdd, Nat.reduceEqDiff, Nat.reduceLeDiff, reduceIte, Nat.reduceLT, or_self, true_or, or_true, if_true, if_false, and_self, and_true, true_and, not_false_eq_true, not_true_eq_false, fd_Sheet_appendValue_6]
  have := l2_appendValue_loop (d := d) (Q := fun o g' => o = .inl none ∧ ap_I h g' u (q + vs z) W) hS rfl hu hW (fun g' a => ⟨rfl, a⟩) (vs z - 1) 0 z g' (by omega) (by simp) A
  rw [show vs z - 1 + 1 = vs z by omega] at this
  exact this
/-- an entry's octets -/
def eW (s : Nat) (e : ent) (i : Nat) : Int32 := if i = 0 then nI s else if i < 9 - s then sm_O (kt e.1) (s + i - 1) else if i = 9 - s then e.2.1 else am_b8 (nI (vb (zN (zf e.2.2)) (vs (zf e.2.2)) (i - (10 - s))))
theorem eW_ea {B : Nat → Int32} {u s : Nat} {e : ent} (hs : s ≤ 8) (h : ∀ i, i < es s e → B (u + i) = eW s e i) : ea B u s e := by
  unfold es at h
  refine ⟨?_, fun j h1 h2 => ?_, ?_, fun hk i hi => ?_⟩
  · have := h 0 (by omega)
    rw [eW, if_pos rfl] at this
    exact this
  · have := h (1 + (j - s)) (by omega)
    rw [eW, if_neg (by omega), if_pos (by omega), show s + (1 + (j - s)) - 1 = j by omega] at this
    rw [← this]; congr 1; omega
  · have := h (9 - s) (by omega)
    rw [eW, if_neg (by omega), if_neg (by omega), if_pos rfl] at this
    rw [← this]; congr 1; omega
  · rw [if_neg hk] at h
    have := h (10 - s + i) (by omega)
    rw [eW, if_neg (by omega), if_neg (by omega), if_neg (by omega), show 10 - s + i - (10 - s) = i by omega] at this
    rw [← this]; congr 1; omega
theorem l2_append_loop {d u s t : Nat} {e : ent} {h : am_H} {Q : am_O → am_H → Prop} (hS : cl_Sh h) (hs : s ≤ 8) (hu : u + es s e ≤ 120) (hx : ∀ g, ap_I h g u (9 - s) (eW s e) → am_Ex nm_pr (d + 1) mt_Sheet_append (53, [.ref 14, .long e.1, .retAddr 0, .ref t, .int (nI s), .long (kt e.1), .retAddr 0, .int (nI 8)], [], g) Q) : ∀ (r j : Nat) (g : am_H), r + j = 8 → s ≤ j → ap_I h g u (1 + (j - s)) (eW s e) →
    am_Ex nm_pr (d + 1) mt_Sheet_append (24, [.ref 14, .long e.1, .retAddr 0, .ref t, .int (nI s), .long (kt e.1), .retAddr 0, .int (nI j)], [], g) Q
  | 0, j, g, hr, hj, A => by
    have ej : j = 8 := by omega
    subst ej
    have hlt : ¬ (nI 8 < 8) := by decide
    refine am_go [31, 53] 3 ?_
    simp only [am_wp, am_stp, am_en, am_as, am_pad, am_nth, am_set, am_st1, am_st2, am_kl, am_kill, am_mem, am_fv, am_tk, am_wt, am_bk, Option.toList, List.cons_append, List.nil_append, Nat.reduceAdd, Nat.reduceEqDiff, Nat.reduceLeDiff, reduceIte, Nat.reduceLT, or_self, true_or, or_true, if_true, if_false, and_self, and_true, true_and, not_false_eq_true, not_true_eq_false, fd_Sheet_append_24, fd_Sheet_append_26, fd_Sheet_append_28, hlt]
    refine hx g ?_
    rw [show 9 - s = 1 + (8 - s) by omega]
    exact A
  | r + 1, j, g, hr, hj, A => by
    have k1 := (hS.fi A.1).1
    have hlt : nI j < 8 := nI_lt (b := 8) (by omega) (by decide)
    have hu2 : u + (1 + (j - s)) < 120 := by unfold es at hu; omega
    have hw : am_b8 (((kt e.1).toUInt64 >>> ((56 - 8 * nI j).toInt64.toUInt64 &&& Int64.toUInt64 63)).toInt64.toInt32) = eW s e (1 + (j - s)) := by
      rw [eW, if_neg (by omega), if_pos (by omega), show s + (1 + (j - s)) - 1 = j by omega]
      rfl
    refine am_go [31, 53] 3 ?_
    simp only [am_wp, am_stp, am_en, am_as, am_pad, am_nth, am_set, am_st1, am_st2, am_kl, am_kill, am_mem, am_fv, am_tk, am_wt, am_bk, Option.toList, List.cons_append, List.nil_append, Nat.reduceAdd, Nat.reduceEqDiff, Nat.reduceLeDiff, reduceIte, Nat.reduceLT, or_self, true_or, or_true, if_true, if_false, and_self, and_true, true_and, not_false_eq_true, not_true_eq_false, fd_Sheet_append_24, fd_Sheet_append_26, fd_Sheet_append_28, hlt]
    refine am_go [] 10 ?_
    simp only [am_wp, am_stp, am_en, am_as, am_pad, am_nth, am_set, am_st1, am_st2, am_kl, am_kill, am_mem, am_fv, am_tk, am_wt, am_bk, Option.toList, List.cons_append, List.nil_append, Nat.reduceAdd, Nat.reduceEqDiff, Nat.reduceLeDiff, reduceIte, Nat.reduceLT, or_self, true_or, or_true, if_true, if_false, and_self, and_true, true_and, not_false_eq_true, not_true_eq_false, fd_Sheet_append_31, fd_Sheet_append_32, fd_Sheet_append_34, fd_Sheet_append_36, fd_Sheet_append_38, fd_Sheet_append_40, fd_Sheet_append_41, fd_Sheet_append_42, fd_Sheet_append_43, fd_Sheet_append_44, k1]
    refine am_call (l2_ap hS A hu2 hw) (fun o g' z => ?_)
    obtain ⟨rfl, A'⟩ := z
    simp only [am_wp, am_stp, am_en, am_as, am_pad, am_nth, am_set, am_st1, am_st2, am_kl, am_kill, am_mem, am_fv, am_tk, am_wt, am_bk, Option.toList, List.cons_append, List.nil_append, Nat.reduceAdd, Nat.reduceEqDiff, Nat.reduceLeDiff, reduceIte, Nat.reduceLT, or_self, true_or, or_true, if_true, if_false, and_self, and_true, true_and, not_false_eq_true, not_true_eq_false]
    refine am_go [24] 2 ?_
    simp only [am_wp, am_stp, am_en, am_as, am_pad, am_nth, am_set, am_st1, am_st2, am_kl, am_kill, am_mem, am_fv, am_tk, am_wt, am_bk, Option.toList, List.cons_append, List.nil_append, Nat.reduceAdd, Nat.reduceEqDiff, Nat.reduceLeDiff, reduceIte, Nat.reduceLT, or_self, true_or, or_true, if_true, if_false, and_self, and_true, true_and, not_false_eq_true, not_true_eq_false, fd_Sheet_append_47, fd_Sheet_append_50, nI_1]
    refine l2_append_loop hS hs hu hx r (j + 1) g' (by omega) (by omega) ?_
    rw [show 1 + (j + 1 - s) = 1 + (j - s) + 1 by omega]
    exact A'
theorem l2_append {d u c t : Nat} {p : Option Int64} {e : ent} {h : am_H} (hU : sh_U h u c p) (he : eo e) (hu : u + es (sh1 p e.1) e ≤ 120) (ht : t ≠ 14 ∧ t ≠ 15) (hc : c < 100) (kt3 : am_kd h t = 3) (t0 : am_I h t 0 = e.2.1) (t1 : am_L h t 1 = e.2.2) : am_Rt nm_pr (d + 3) mi_Sheet_append [.ref 14, .long e.1, .ref t] h (fun o h' => o = .inl none ∧ am_fi [14, 15] h h' ∧ sh_U h' (u + es (sh1 p e.1) e) (c + 1) (some e.1) ∧ ea (am_I h' 15) u (sh1 p e.1) e ∧ (∀ j, j < u → am_I h' 15 j = am_I h 15 j) ∧ am_L h' 14 3 = (if c = 0 then e.1 else am_L h 14 3)) := by
  obtain ⟨hS, u1, u2, u3, u4, u5⟩ := id hU
  obtain ⟨k1, r1, k2, n2⟩ := id hS
  have hs := sh1_le p e.1
  generalize hsd : sh1 p e.1 = s at *
  have fin : ∀ g, ap_I h g u (es s e) (eW s e) → am_Ex nm_pr (d + 2) mt_Sheet_append (80, [.ref 14, .long e.1, .retAddr 0, .ref t, .int (nI s), .long (kt e.1), .retAddr 0, .int (nI 8)], [], g) (fun o h' => o = .inl none ∧ am_fi [14, 15] h h' ∧ sh_U h' (u + es s e) (c + 1) (some e.1) ∧ ea (am_I h' 15) u s e ∧ (∀ j, j < u → am_I h' 15 j = am_I h 15 j) ∧ am_L h' 14 3 = (if c = 0 then e.1 else am_L h 14 3)) := by
    intro g A
    obtain ⟨a1, a2, a3, a4, a5, a6⟩ := A
    have S' := hS.fi a1
    have g1 := S'.1
    have i2 : am_I g 14 2 = nI c := a4.trans u2
    by_cases c0 : c = 0
    · subst c0
      have z : am_I g 14 2 = 0 := i2
      have z1 : (0 : Int32) + 1 = nI (0 + 1) := by decide
      refine am_go [87, 92] 3 ?_
      simp only [am_wp, am_stp, am_en, am_as, am_pad, am_nth, am_set, am_st1, am_st2, am_kl, am_kill, am_mem, am_fv, am_tk, am_wt, am_bk, Option.toList, List.cons_append, List.nil_append, Nat.reduceAdd, Nat.reduceEqDiff, Nat.reduceLeDiff, reduceIte, Nat.reduceLT, or_self, true_or, or_true, if_true, if_false, and_self, and_true, true_and, not_false_eq_true, not_true_eq_false, fd_Sheet_append_80, fd_Sheet_append_81, fd_Sheet_append_84, g1, z]
      refine am_go [] 14 ?_
      simp only [am_wp, am_stp, am_en, am_as, am_pad, am_nth, am_set, am_st1, am_st2, am_kl, am_kill, am_mem, am_fv, am_tk, am_wt, am_bk, Option.toList, List.cons_append, List.nil_append, Nat.reduceAdd, Nat.reduceEqDiff, Nat.reduceLeDiff, reduceIte, Nat.reduceLT, or_self, true_or, or_true, if_true, if_false, and_self, and_true, true_and, not_false_eq_true, not_true_eq_false, fd_Sheet_append_87, fd_Sheet_append_88, fd_Sheet_append_89, fd_Sheet_append_92, fd_Sheet_append_93, fd_Sheet_append_94, fd_Sheet_append_97, fd_Sheet_append_98, fd_Sheet_append_99, fd_Sheet_append_102, fd_Sheet_append_103, fd_Sheet_append_104, fd_Sheet_append_107, g1, hx_kd_sL, hx_I_sL, z, z1]
      refine ⟨((a1.sL (by simp)).sL (by simp)).sI (by simp), ⟨S', ?_, ?_, by omega, hu, by omega, ?_⟩, eW_ea hs (fun i hi => ?_), fun j hj => ?_, ?_⟩
      · simp only [hx_nx_sI, hx_ce_sI, hx_sl_sI, hx_kd_sI, hx_ln_sI, hx_I_sI, hx_L_sI, hx_R_sI, hx_nx_sL, hx_ce_sL, hx_sl_sL, hx_kd_sL, hx_ln_sL, hx_I_sL, hx_L_sL, hx_R_sL, hx_nx_sR, hx_ce_sR, hx_sl_sR, hx_kd_sR, hx_ln_sR, hx_I_sR, hx_L_sR, hx_R_sR, hx_nx_al, hx_ce_al, hx_sl_al, hx_kd_al, hx_ln_al, hx_I_al, hx_L_al, hx_R_al, hx_nx_row, hx_ce_row, hx_sl_row, hx_kd_row, hx_ln_row, hx_I_row, hx_L_row, hx_R_row, hx_nx_mk, hx_kd_mk, hx_ln_mk, hx_I_mk, hx_L_mk, hx_R_mk, am_wp, am_stp, am_en, am_as, am_pad, am_nth, am_set, am_st1, am_st2, am_kl, am_kill, am_mem, am_fv, am_tk, am_wt, am_bk, Option.toList, List.cons_append, List.nil_append, Nat.reduceAdd, Nat.reduceEqDiff, Nat.reduceLeDiff, reduceIte, Nat.reduceLT, or_self, true_or, or_true, if_true, if_false, and_self, and_true, true_and, not_false_eq_true, not_true_eq_false]; exact a3
      · simp only [hx_nx_sI, hx_ce_sI, hx_sl_sI, hx_kd_sI, hx_ln_sI, hx_I_sI, hx_L_sI, hx_R_sI, hx_nx_sL, hx_ce_sL, hx_sl_sL, hx_kd_sL, hx_ln_sL, hx_I_sL, hx_L_sL, hx_R_sL, hx_nx_sR, hx_ce_sR, hx_sl_sR, hx_kd_sR, hx_ln_sR, hx_I_sR, hx_L_sR, hx_R_sR, hx_nx_al, hx_ce_al, hx_sl_al, hx_kd_al, hx_ln_al, hx_I_al, hx_L_al, hx_R_al, hx_nx_row, hx_ce_row, hx_sl_row, hx_kd_row, hx_ln_row, hx_I_row, hx_L_row, hx_R_row, hx_nx_mk, hx_kd_mk, hx_ln_mk, hx_I_mk, hx_L_mk, hx_R_mk, am_wp, am_stp, am_en, am_as, am_pad, am_nth, am_set, am_st1, am_st2, am_kl, am_kill, am_mem, am_fv, am_tk, am_wt, am_bk, Option.toList, List.cons_append, List.nil_append, Nat.reduceAdd, Nat.reduceEqDiff, Nat.reduceLeDiff, reduceIte, Nat.reduceLT, or_self, true_or, or_true, if_true, if_false, and_self, and_true, true_and, not_false_eq_true, not_true_eq_false]
      · simp only [hx_nx_sI, hx_ce_sI, hx_sl_sI, hx_kd_sI, hx_ln_sI, hx_I_sI, hx_L_sI, hx_R_sI, hx_nx_sL, hx_ce_sL, hx_sl_sL, hx_kd_sL, hx_ln_sL, hx_I_sL, hx_L_sL, hx_R_sL, hx_nx_sR, hx_ce_sR, hx_sl_sR, hx_kd_sR, hx_ln_sR, hx_I_sR, hx_L_sR, hx_R_sR, hx_nx_al, hx_ce_al, hx_sl_al, hx_kd_al, hx_ln_al, hx_I_al, hx_L_al, hx_R_al, hx_nx_row, hx_ce_row, hx_sl_row, hx_kd_row, hx_ln_row, hx_I_row, hx_L_row, hx_R_row, hx_nx_mk, hx_kd_mk, hx_ln_mk, hx_I_mk, hx_L_mk, hx_R_mk, am_wp, am_stp, am_en, am_as, am_pad, am_nth, am_set, am_st1, am_st2, am_kl, am_kill, am_mem, am_fv, am_tk, am_wt, am_bk, Option.toList, List.cons_append, List.nil_append, Nat.reduceAdd, Nat.reduceEqDiff, Nat.reduceLeDiff, reduceIte, Nat.reduceLT, or_self, true_or, or_true, if_true, if_false, and_self, and_true, true_and, not_false_eq_true, not_true_eq_false]
      · simp only [hx_nx_sI, hx_ce_sI, hx_sl_sI, hx_kd_sI, hx_ln_sI, hx_I_sI, hx_L_sI, hx_R_sI, hx_nx_sL, hx_ce_sL, hx_sl_sL, hx_kd_sL, hx_ln_sL, hx_I_sL, hx_L_sL, hx_R_sL, hx_nx_sR, hx_ce_sR, hx_sl_sR, hx_kd_sR, hx_ln_sR, hx_I_sR, hx_L_sR, hx_R_sR, hx_nx_al, hx_ce_al, hx_sl_al, hx_kd_al, hx_ln_al, hx_I_al, hx_L_al, hx_R_al, hx_nx_row, hx_ce_row, hx_sl_row, hx_kd_row, hx_ln_row, hx_I_row, hx_L_row, hx_R_row, hx_nx_mk, hx_kd_mk, hx_ln_mk, hx_I_mk, hx_L_mk, hx_R_mk, am_wp, am_stp, am_en, am_as, am_pad, am_nth, am_set, am_st1, am_st2, am_kl, am_kill, am_mem, am_fv, am_tk, am_wt, am_bk, Option.toList, List.cons_append, List.nil_append, Nat.reduceAdd, Nat.reduceEqDiff, Nat.reduceLeDiff, reduceIte, Nat.reduceLT, or_self, true_or, or_true, if_true, if_false, and_self, and_true, true_and, not_false_eq_true, not_true_eq_false]; exact a6 i hi
      · simp only [hx_nx_sI, hx_ce_sI, hx_sl_sI, hx_kd_sI, hx_ln_sI, hx_I_sI, hx_L_sI, hx_R_sI, hx_nx_sL, hx_ce_sL, hx_sl_sL, hx_kd_sL, hx_ln_sL, hx_I_sL, hx_L_sL, hx_R_sL, hx_nx_sR, hx_ce_sR, hx_sl_sR, hx_kd_sR, hx_ln_sR, hx_I_sR, hx_L_sR, hx_R_sR, hx_nx_al, hx_ce_al, hx_sl_al, hx_kd_al, hx_ln_al, hx_I_al, hx_L_al, hx_R_al, hx_nx_row, hx_ce_row, hx_sl_row, hx_kd_row, hx_ln_row, hx_I_row, hx_L_row, hx_R_row, hx_nx_mk, hx_kd_mk, hx_ln_mk, hx_I_mk, hx_L_mk, hx_R_mk, am_wp, am_stp, am_en, am_as, am_pad, am_nth, am_set, am_st1, am_st2, am_kl, am_kill, am_mem, am_fv, am_tk, am_wt, am_bk, Option.toList, List.cons_append, List.nil_append, Nat.reduceAdd, Nat.reduceEqDiff, Nat.reduceLeDiff, reduceIte, Nat.reduceLT, or_self, true_or, or_true, if_true, if_false, and_self, and_true, true_and, not_false_eq_true, not_true_eq_false]; exact a5 j hj
      · simp only [hx_nx_sI, hx_ce_sI, hx_sl_sI, hx_kd_sI, hx_ln_sI, hx_I_sI, hx_L_sI, hx_R_sI, hx_nx_sL, hx_ce_sL, hx_sl_sL, hx_kd_sL, hx_ln_sL, hx_I_sL, hx_L_sL, hx_R_sL, hx_nx_sR, hx_ce_sR, hx_sl_sR, hx_kd_sR, hx_ln_sR, hx_I_sR, hx_L_sR, hx_R_sR, hx_nx_al, hx_ce_al, hx_sl_al, hx_kd_al, hx_ln_al, hx_I_al, hx_L_al, hx_R_al, hx_nx_row, hx_ce_row, hx_sl_row, hx_kd_row, hx_ln_row, hx_I_row, hx_L_row, hx_R_row, hx_nx_mk, hx_kd_mk, hx_ln_mk, hx_I_mk, hx_L_mk, hx_R_mk, am_wp, am_stp, am_en, am_as, am_pad, am_nth, am_set, am_st1, am_st2, am_kl, am_kill, am_mem, am_fv, am_tk, am_wt, am_bk, Option.toList, List.cons_append, List.nil_append, Nat.reduceAdd, Nat.reduceEqDiff, Nat.reduceLeDiff, reduceIte, Nat.reduceLT, or_self, true_or, or_true, if_true, if_false, and_self, and_true, true_and, not_false_eq_true, not_true_eq_false]
    · have z : ¬ am_I g 14 2 = 0 := by rw [i2]; exact nI_ne0 (by omega) (by omega)
      refine am_go [87, 92] 3 ?_
      simp only [am_wp, am_stp, am_en, am_as, am_pad, am_nth, am_set, am_st1, am_st2, am_kl, am_kill, am_mem, am_fv, am_tk, am_wt, am_bk, Option.toList, List.cons_append, List.nil_append, Nat.reduceAdd, Nat.reduceEqDiff, Nat.reduceLeDiff, reduceIte, Nat.reduceLT, or_self, true_or, or_true, if_true, if_false, and_self, and_true, true_and, not_false_eq_true, not_true_eq_false, fd_Sheet_append_80, fd_Sheet_append_81, fd_Sheet_append_84, g1, z]
      refine am_go [] 11 ?_
      simp only [am_wp, am_stp, am_en, am_as, am_pad, am_nth, am_set, am_st1, am_st2, am_kl, am_kill, am_mem, am_fv, am_tk, am_wt, am_bk, Option.toList, List.cons_append, List.nil_append, Nat.reduceAdd, Nat.reduceEqDiff, Nat.reduceLeDiff, reduceIte, Nat.reduceLT, or_self, true_or, or_true, if_true, if_false, and_self, and_true, true_and, not_false_eq_true, not_true_eq_false, fd_Sheet_append_92, fd_Sheet_append_93, fd_Sheet_append_94, fd_Sheet_append_97, fd_Sheet_append_98, fd_Sheet_append_99, fd_Sheet_append_102, fd_Sheet_append_103, fd_Sheet_append_104, fd_Sheet_append_107, g1, hx_kd_sL, hx_I_sL, i2, nI_1]
      refine ⟨(a1.sL (by simp)).sI (by simp), ⟨S', ?_, ?_, by omega, hu, by omega, ?_⟩, eW_ea hs (fun i hi => ?_), fun j hj => ?_, ?_⟩
      · simp only [hx_nx_sI, hx_ce_sI, hx_sl_sI, hx_kd_sI, hx_ln_sI, hx_I_sI, hx_L_sI, hx_R_sI, hx_nx_sL, hx_ce_sL, hx_sl_sL, hx_kd_sL, hx_ln_sL, hx_I_sL, hx_L_sL, hx_R_sL, hx_nx_sR, hx_ce_sR, hx_sl_sR, hx_kd_sR, hx_ln_sR, hx_I_sR, hx_L_sR, hx_R_sR, hx_nx_al, hx_ce_al, hx_sl_al, hx_kd_al, hx_ln_al, hx_I_al, hx_L_al, hx_R_al, hx_nx_row, hx_ce_row, hx_sl_row, hx_kd_row, hx_ln_row, hx_I_row, hx_L_row, hx_R_row, hx_nx_mk, hx_kd_mk, hx_ln_mk, hx_I_mk, hx_L_mk, hx_R_mk, am_wp, am_stp, am_en, am_as, am_pad, am_nth, am_set, am_st1, am_st2, am_kl, am_kill, am_mem, am_fv, am_tk, am_wt, am_bk, Option.toList, List.cons_append, List.nil_append, Nat.reduceAdd, Nat.reduceEqDiff, Nat.reduceLeDiff, reduceIte, Nat.reduceLT, or_self, true_or, or_true, if_true, if_false, and_self, and_true, true_and, not_false_eq_true, not_true_eq_false]; exact a3
      · simp only [hx_nx_sI, hx_ce_sI, hx_sl_sI, hx_kd_sI, hx_ln_sI, hx_I_sI, hx_L_sI, hx_R_sI, hx_nx_sL, hx_ce_sL, hx_sl_sL, hx_kd_sL, hx_ln_sL, hx_I_sL, hx_L_sL, hx_R_sL, hx_nx_sR, hx_ce_sR, hx_sl_sR, hx_kd_sR, hx_ln_sR, hx_I_sR, hx_L_sR, hx_R_sR, hx_nx_al, hx_ce_al, hx_sl_al, hx_kd_al, hx_ln_al, hx_I_al, hx_L_al, hx_R_al, hx_nx_row, hx_ce_row, hx_sl_row, hx_kd_row, hx_ln_row, hx_I_row, hx_L_row, hx_R_row, hx_nx_mk, hx_kd_mk, hx_ln_mk, hx_I_mk, hx_L_mk, hx_R_mk, am_wp, am_stp, am_en, am_as, am_pad, am_nth, am_set, am_st1, am_st2, am_kl, am_kill, am_mem, am_fv, am_tk, am_wt, am_bk, Option.toList, List.cons_append, List.nil_append, Nat.reduceAdd, Nat.reduceEqDiff, Nat.reduceLeDiff, reduceIte, Nat.reduceLT, or_self, true_or, or_true, if_true, if_false, and_self, and_true, true_and, not_false_eq_true, not_true_eq_false]
      · simp only [hx_nx_sI, hx_ce_sI, hx_sl_sI, hx_kd_sI, hx_ln_sI, hx_I_sI, hx_L_sI, hx_R_sI, hx_nx_sL, hx_ce_sL, hx_sl_sL, hx_kd_sL, hx_ln_sL, hx_I_sL, hx_L_sL, hx_R_sL, hx_nx_sR, hx_ce_sR, hx_sl_sR, hx_kd_sR, hx_ln_sR, hx_I_sR, hx_L_sR, hx_R_sR, hx_nx_al, hx_ce_al, hx_sl_al, hx_kd_al, hx_ln_al, hx_I_al, hx_L_al, hx_R_al, hx_nx_row, hx_ce_row, hx_sl_row, hx_kd_row, hx_ln_row, hx_I_row, hx_L_row, hx_R_row, hx_nx_mk, hx_kd_mk, hx_ln_mk, hx_I_mk, hx_L_mk, hx_R_mk, am_wp, am_stp, am_en, am_as, am_pad, am_nth, am_set, am_st1, am_st2, am_kl, am_kill, am_mem, am_fv, am_tk, am_wt, am_bk, Option.toList, List.cons_append, List.nil_append, Nat.reduceAdd, Nat.reduceEqDiff, Nat.reduceLeDiff, reduceIte, Nat.reduceLT, or_self, true_or, or_true, if_true, if_false, and_self, and_true, true_and, not_false_eq_true, not_true_eq_false]
      · simp only [hx_nx_sI, hx_ce_sI, hx_sl_sI, hx_kd_sI, hx_ln_sI, hx_I_sI, hx_L_sI, hx_R_sI, hx_nx_sL, hx_ce_sL, hx_sl_sL, hx_kd_sL, hx_ln_sL, hx_I_sL, hx_L_sL, hx_R_sL, hx_nx_sR, hx_ce_sR, hx_sl_sR, hx_kd_sR, hx_ln_sR, hx_I_sR, hx_L_sR, hx_R_sR, hx_nx_al, hx_ce_al, hx_sl_al, hx_kd_al, hx_ln_al, hx_I_al, hx_L_al, hx_R_al, hx_nx_row, hx_ce_row, hx_sl_row, hx_kd_row, hx_ln_row, hx_I_row, hx_L_row, hx_R_row, hx_nx_mk, hx_kd_mk, hx_ln_mk, hx_I_mk, hx_L_mk, hx_R_mk, am_wp, am_stp, am_en, am_as, am_pad, am_nth, am_set, am_st1, am_st2, am_kl, am_kill, am_mem, am_fv, am_tk, am_wt, am_bk, Option.toList, List.cons_append, List.nil_append, Nat.reduceAdd, Nat.reduceEqDiff, Nat.reduceLeDiff, reduceIte, Nat.reduceLT, or_self, true_or, or_true, if_true, if_false, and_self, and_true, true_and, not_false_eq_true, not_true_eq_false]; exact a6 i hi
      · simp only [hx_nx_sI, hx_ce_sI, hx_sl_sI, hx_kd_sI, hx_ln_sI, hx_I_sI, hx_L_sI, hx_R_sI, hx_nx_sL, hx_ce_sL, hx_sl_sL, hx_kd_sL, hx_ln_sL, hx_I_sL, hx_L_sL, hx_R_sL, hx_nx_sR, hx_ce_sR, hx_sl_sR, hx_kd_sR, hx_ln_sR, hx_I_sR, hx_L_sR, hx_R_sR, hx_nx_al, hx_ce_al, hx_sl_al, hx_kd_al, hx_ln_al, hx_I_al, hx_L_al, hx_R_al, hx_nx_row, hx_ce_row, hx_sl_row, hx_kd_row, hx_ln_row, hx_I_row, hx_L_row, hx_R_row, hx_nx_mk, hx_kd_mk, hx_ln_mk, hx_I_mk, hx_L_mk, hx_R_mk, am_wp, am_stp, am_en, am_as, am_pad, am_nth, am_set, am_st1, am_st2, am_kl, am_kill, am_mem, am_fv, am_tk, am_wt, am_bk, Option.toList, List.cons_append, List.nil_append, Nat.reduceAdd, Nat.reduceEqDiff, Nat.reduceLeDiff, reduceIte, Nat.reduceLT, or_self, true_or, or_true, if_true, if_false, and_self, and_true, true_and, not_false_eq_true, not_true_eq_false]; exact a5 j hj
      · simp only [hx_nx_sI, hx_ce_sI, hx_sl_sI, hx_kd_sI, hx_ln_sI, hx_I_sI, hx_L_sI, hx_R_sI, hx_nx_sL, hx_ce_sL, hx_sl_sL, hx_kd_sL, hx_ln_sL, hx_I_sL, hx_L_sL, hx_R_sL, hx_nx_sR, hx_ce_sR, hx_sl_sR, hx_kd_sR, hx_ln_sR, hx_I_sR, hx_L_sR, hx_R_sR, hx_nx_al, hx_ce_al, hx_sl_al, hx_kd_al, hx_ln_al, hx_I_al, hx_L_al, hx_R_al, hx_nx_row, hx_ce_row, hx_sl_row, hx_kd_row, hx_ln_row, hx_I_row, hx_L_row, hx_R_row, hx_nx_mk, hx_kd_mk, hx_ln_mk, hx_I_mk, hx_L_mk, hx_R_mk, am_wp, am_stp, am_en, am_as, am_pad, am_nth, am_set, am_st1, am_st2, am_kl, am_kill, am_mem, am_fv, am_tk, am_wt, am_bk, Option.toList, List.cons_append, List.nil_append, Nat.reduceAdd, Nat.reduceEqDiff, Nat.reduceLeDiff, reduceIte, Nat.reduceLT, or_self, true_or, or_true, if_true, if_false, and_self, and_true, true_and, not_false_eq_true, not_true_eq_false]
        rw [if_neg c0, a2]
  refine am_in' (d := d + 2) mt_Sheet_append 8 rfl rfl rfl ?_
  refine am_go [] 3 ?_
  simp only [am_wp, am_stp, am_en, am_as, am_pad, am_nth, am_set, am_st1, am_st2, am_kl, am_kill, am_mem, am_fv, am_tk, am_wt, am_bk, Option.toList, List.cons_append, List.nil_append, Nat.reduceAdd, Nat.reduceEqDiff, Nat.reduceLeDiff, reduceIte, Nat.reduceLT, or_self, true_or, or_true, if_true, if_false, and_self, and_true, true_and, not_false_eq_true, not_true_eq_false, fd_Sheet_append_0, fd_Sheet_append_1, fd_Sheet_append_2, k1]
  refine am_call (l2_shared hU) (fun o h1 q => ?_)
  obtain ⟨rfl, rfl⟩ := q
  rw [hsd]
  simp only [am_wp, am_stp, am_en, am_as, am_pad, am_nth, am_set, am_st1, am_st2, am_kl, am_kill, am_mem, am_fv, am_tk, am_wt, am_bk, Option.toList, List.cons_append, List.nil_append, Nat.reduceAdd, Nat.reduceEqDiff, Nat.reduceLeDiff, reduceIte, Nat.reduceLT, or_self, true_or, or_true, if_true, if_false, and_self, and_true, true_and, not_false_eq_true, not_true_eq_false]
  refine am_go [] 8 ?_
  simp only [am_wp, am_stp, am_en, am_as, am_pad, am_nth, am_set, am_st1, am_st2, am_kl, am_kill, am_mem, am_fv, am_tk, am_wt, am_bk, Option.toList, List.cons_append, List.nil_append, Nat.reduceAdd, Nat.reduceEqDiff, Nat.reduceLeDiff, reduceIte, Nat.reduceLT, or_self, true_or, or_true, if_true, if_false, and_self, and_true, true_and, not_false_eq_true, not_true_eq_false, fd_Sheet_append_5, fd_Sheet_append_7, fd_Sheet_append_8, fd_Sheet_append_11, fd_Sheet_append_12, fd_Sheet_append_14, fd_Sheet_append_15, fd_Sheet_append_17, k1]
  have A0 : ap_I h1 h1 u 0 (eW s e) := ⟨am_fi.refl, rfl, u1, rfl, fun _ _ => rfl, fun i hi => by omega⟩
  have hz : am_b8 (nI s) = eW s e 0 := by
    rw [eW, if_pos rfl]
    have : ∀ s : Fin 9, am_b8 (nI s.1) = nI s.1 := by decide
    exact this ⟨s, by omega⟩
  have h5 : 2 ≤ es s e := es_ge hs e
  refine am_call (l2_ap hS A0 (by omega) hz) (fun o g q => ?_)
  obtain ⟨rfl, A⟩ := q
  simp only [am_wp, am_stp, am_en, am_as, am_pad, am_nth, am_set, am_st1, am_st2, am_kl, am_kill, am_mem, am_fv, am_tk, am_wt, am_bk, Option.toList, List.cons_append, List.nil_append, Nat.reduceAdd, Nat.reduceEqDiff, Nat.reduceLeDiff, reduceIte, Nat.reduceLT, or_self, true_or, or_true, if_true, if_false, and_self, and_true, true_and, not_false_eq_true, not_true_eq_false]
  refine am_go [24] 2 ?_
  simp only [am_wp, am_stp, am_en, am_as, am_pad, am_nth, am_set, am_st1, am_st2, am_kl, am_kill, am_mem, am_fv, am_tk, am_wt, am_bk, Option.toList, List.cons_append, List.nil_append, Nat.reduceAdd, Nat.reduceEqDiff, Nat.reduceLeDiff, reduceIte, Nat.reduceLT, or_self, true_or, or_true, if_true, if_false, and_self, and_true, true_and, not_false_eq_true, not_true_eq_false, fd_Sheet_append_20, fd_Sheet_append_22]
  refine l2_append_loop hS hs hu (fun g A => ?_) (8 - s) s g (by omega) (Nat.le_refl _) (by rw [Nat.sub_self]; exact A)
  have ft : am_I g t = am_I h1 t := A.1.2.2.2.2.2.2.1 t (by simp [ht.1, ht.2])
  have ftL : am_L g t = am_L h1 t := A.1.2.2.2.2.2.2.2 t (by simp [ht.1, ht.2])
  have g0 : am_I g t 0 = e.2.1 := (congrFun ft 0).trans t0
  have g1 : am_L g t 1 = e.2.2 := (congrFun ftL 1).trans t1
  have gk : am_kd g t = 3 := by rw [A.1.2.2.2.1]; exact kt3
  have gk1 := (hS.fi A.1).1
  have hw : am_b8 e.2.1 = eW s e (9 - s) := by
    rw [eW, if_neg (by omega), if_neg (by omega), if_pos rfl]
    rcases he.1 with q | q | q <;> rw [q] <;> decide
  refine am_go [] 4 ?_
  simp only [am_wp, am_stp, am_en, am_as, am_pad, am_nth, am_set, am_st1, am_st2, am_kl, am_kill, am_mem, am_fv, am_tk, am_wt, am_bk, Option.toList, List.cons_append, List.nil_append, Nat.reduceAdd, Nat.reduceEqDiff, Nat.reduceLeDiff, reduceIte, Nat.reduceLT, or_self, true_or, or_true, if_true, if_false, and_self, and_true, true_and, not_false_eq_true, not_true_eq_false, fd_Sheet_append_53, fd_Sheet_append_54, fd_Sheet_append_55, fd_Sheet_append_58, gk, gk1, g0]
  refine am_call (l2_ap hS A (by unfold es at hu; omega) hw) (fun o g' q => ?_)
  obtain ⟨rfl, A2⟩ := q
  simp only [am_wp, am_stp, am_en, am_as, am_pad, am_nth, am_set, am_st1, am_st2, am_kl, am_kill, am_mem, am_fv, am_tk, am_wt, am_bk, Option.toList, List.cons_append, List.nil_append, Nat.reduceAdd, Nat.reduceEqDiff, Nat.reduceLeDiff, reduceIte, Nat.reduceLT, or_self, true_or, or_true, if_true, if_false, and_self, and_true, true_and, not_false_eq_true, not_true_eq_false]
  have ft2 : am_I g' t = am_I h1 t := A2.1.2.2.2.2.2.2.1 t (by simp [ht.1, ht.2])
  have ftL2 : am_L g' t = am_L h1 t := A2.1.2.2.2.2.2.2.2 t (by simp [ht.1, ht.2])
  have g0' : am_I g' t 0 = e.2.1 := (congrFun ft2 0).trans t0
  have g1' : am_L g' t 1 = e.2.2 := (congrFun ftL2 1).trans t1
  have gk' : am_kd g' t = 3 := by rw [A2.1.2.2.2.1]; exact kt3
  have gk1' := (hS.fi A2.1).1
  have e10 : 9 - s + 1 = 10 - s := by omega
  rw [e10] at A2
  by_cases q : e.2.1 = 2
  · have eq2 : es s e = 10 - s := by unfold es; rw [if_pos q]; rfl
    refine am_go [69, 80] 4 ?_
    simp only [am_wp, am_stp, am_en, am_as, am_pad, am_nth, am_set, am_st1, am_st2, am_kl, am_kill, am_mem, am_fv, am_tk, am_wt, am_bk, Option.toList, List.cons_append, List.nil_append, Nat.reduceAdd, Nat.reduceEqDiff, Nat.reduceLeDiff, reduceIte, Nat.reduceLT, or_self, true_or, or_true, if_true, if_false, and_self, and_true, true_and, not_false_eq_true, not_true_eq_false, fd_Sheet_append_61, fd_Sheet_append_62, fd_Sheet_append_65, fd_Sheet_append_66, gk', g0', q]
    exact fin g' (by rw [eq2]; exact A2)
  · have eq2 : es s e = 10 - s + vs (zf e.2.2) := by unfold es; rw [if_neg q]
    refine am_go [69, 80] 4 ?_
    simp only [am_wp, am_stp, am_en, am_as, am_pad, am_nth, am_set, am_st1, am_st2, am_kl, am_kill, am_mem, am_fv, am_tk, am_wt, am_bk, Option.toList, List.cons_append, List.nil_append, Nat.reduceAdd, Nat.reduceEqDiff, Nat.reduceLeDiff, reduceIte, Nat.reduceLT, or_self, true_or, or_true, if_true, if_false, and_self, and_true, true_and, not_false_eq_true, not_true_eq_false, fd_Sheet_append_61, fd_Sheet_append_62, fd_Sheet_append_65, fd_Sheet_append_66, gk', g0', q]
    refine am_go [] 4 ?_
    simp only [am_wp, am_stp, am_en, am_as, am_pad, am_nth, am_set, am_st1, am_st2, am_kl, am_kill, am_mem, am_fv, am_tk, am_wt, am_bk, Option.toList, List.cons_append, List.nil_append, Nat.reduceAdd, Nat.reduceEqDiff, Nat.reduceLeDiff, reduceIte, Nat.reduceLT, or_self, true_or, or_true, if_true, if_false, and_self, and_true, true_and, not_false_eq_true, not_true_eq_false, fd_Sheet_append_69, fd_Sheet_append_70, fd_Sheet_append_71, fd_Sheet_append_74, gk', g1']
    refine am_call l2_folded (fun o g2 z => ?_)
    obtain ⟨rfl, rfl⟩ := z
    simp only [am_wp, am_stp, am_en, am_as, am_pad, am_nth, am_set, am_st1, am_st2, am_kl, am_kill, am_mem, am_fv, am_tk, am_wt, am_bk, Option.toList, List.cons_append, List.nil_append, Nat.reduceAdd, Nat.reduceEqDiff, Nat.reduceLeDiff, reduceIte, Nat.reduceLT, or_self, true_or, or_true, if_true, if_false, and_self, and_true, true_and, not_false_eq_true, not_true_eq_false]
    refine am_go [] 1 ?_
    simp only [am_wp, am_stp, am_en, am_as, am_pad, am_nth, am_set, am_st1, am_st2, am_kl, am_kill, am_mem, am_fv, am_tk, am_wt, am_bk, Option.toList, List.cons_append, List.nil_append, Nat.reduceAdd, Nat.reduceEqDiff, Nat.reduceLeDiff, reduceIte, Nat.reduceLT, or_self, true_or, or_true, if_true, if_false, and_self, and_true, true_and, not_false_eq_true, not_true_eq_false, fd_Sheet_append_77, gk1']
    refine am_call (l2_appendValue hS (by omega) (fun i hi => ?_) A2) (fun o g3 z => ?_)
    · rw [eW, if_neg (by omega), if_neg (by omega), if_neg (by omega), show 10 - s + i - (10 - s) = i by omega]
    · obtain ⟨rfl, A3⟩ := z
      simp only [am_wp, am_stp, am_en, am_as, am_pad, am_nth, am_set, am_st1, am_st2, am_kl, am_kill, am_mem, am_fv, am_tk, am_wt, am_bk, Option.toList, List.cons_append, List.nil_append, Nat.reduceAdd, Nat.reduceEqDiff, Nat.reduceLeDiff, reduceIte, Nat.reduceLT, or_self, true_or, or_true, if_true, if_false, and_self, and_true, true_and, not_false_eq_true, not_true_eq_false]
      exact fin g3 (by rw [eq2]; exact A3)
