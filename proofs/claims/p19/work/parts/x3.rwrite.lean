/-! THE REFERENCE WRITES A RUN, CUT OR WHOLE -/
theorem rC.w {P : Nat} {S : List Nat} {h h' : am_H} (C : rC P h) (f : am_fi S h h') (hS : 74 ∉ S ∧ 75 ∉ S ∧ 76 ∉ S) (q2 : ∀ j, rJ j → j ≠ 8 → am_I h' 72 j = am_I h 72 j) (h8 : ∃ a, a ≤ 1000 ∧ am_I h' 72 8 = nI a) (hB : BY h') : rC P h' := by
  obtain ⟨c1, c2, c3, c4, ⟨a, b, c5, c6, c7, c8⟩, c9, c10, -⟩ := C
  obtain ⟨a', a1, a2⟩ := h8
  refine ⟨c1.fi f, c2, c3, ?_, ⟨a', b, a1, c6, a2, ?_⟩, ?_, ?_, hB⟩
  · rw [q2 1 (by simp [rJ]) (by decide)]; exact c4
  · rw [q2 9 (by simp [rJ]) (by decide)]; exact c8
  · rw [q2 45 (by simp [rJ]) (by decide)]; exact c9
  · rw [q2 11 (by simp [rJ]) (by decide), f.2.2.2.2.2.2.2 74 hS.1, f.2.2.2.2.2.2.1 75 hS.2.1, f.2.2.2.2.2.2.2 76 hS.2.2]; exact c10
/-- pages so far -/
def rx_I (P : Nat) (h g : am_H) (L : List ent) (n : Nat) (pl : List Nat) (done : List (Nat × List ent)) (rest : List ent) : Prop := am_fi [72, 73, 83, 91] h g ∧ (∀ j, j ≠ 7 → j ≠ 8 → am_I g 72 j = am_I h 72 j) ∧ ((∃ a, a ≤ 1000 ∧ am_I g 72 8 = nI a) ∧ BY g) ∧ done.map (·.1) = pl.take done.length ∧ ch_E done ++ rest = L ∧ (∀ q ∈ done, pg_M P g q.1 q.2) ∧ (∀ x, x ∉ done.map (·.1) → ∀ j, j < 128 → am_I g 73 (x * 128 + j) = am_I h 73 (x * 128 + j)) ∧ n = done.length + npg rest
theorem rx_page_loop {d P s n : Nat} {lv x4 : Int32} {L : List ent} {pl : List Nat} {h : am_H} {Q : am_O → am_H → Prop} (K : ky_S h L) (hO : ∀ e ∈ L, eo e) (C0 : rC P h) (hP : P ≤ 1024) (hs : s < 100) (hn : n ≤ 1024) (hpl : pl.length = n) (hnd : pl.Nodup) (h82 : ∀ k q, pl[k]? = some q → am_I h 82 (1024 * s + k) = nI q) (hpg : ∀ q ∈ pl, 2 ≤ q ∧ q < P)
    (hd : ∀ g, rq P h g → am_I g 72 3 = 1 → Q (.inl (some (.int (-2)))) g) (hx : ∀ g done w7 w8, rx_I P h g L n pl done [] → done.length = n → am_Ex nm_pr (d + 4) mt_Mo_writeRun (306, [.ref 72, .int lv, .int (nI n), .int (nI s), .int x4, .int (nI L.length), .int (nI n), w7, w8], [], g) Q) : ∀ (m : Nat) (done : List (Nat × List ent)) (rest : List ent) (w7 w8 : Value) (g : am_H), m + done.length = n → rx_I P h g L n pl done rest →
    am_Ex nm_pr (d + 4) mt_Mo_writeRun (124, [.ref 72, .int lv, .int (nI n), .int (nI s), .int x4, .int (nI (ch_E done).length), .int (nI done.length), w7, w8], [], g) Q
  | 0, done, rest, w7, w8, g, hm, I => by
    obtain ⟨F, i1, i8, i2, i3, i4, i5, i6⟩ := id I
    have e : done.length = n := by omega
    have hr : rest = [] := npg_0.mp (by omega)
    subst hr
    have eL : ch_E done = L := by simpa using i3
    have l1 : ¬ nI done.length < nI n := nI_nlt (by omega) (by omega)
    refine am_go [130, 306] 3 ?_
    simp only [am_wp, am_stp, am_en, am_as, am_pad, am_nth, am_set, am_st1, am_st2, am_kl, am_kill, am_mem, am_fv, am_tk, am_wt, am_bk, Option.toList, List.cons_append, List.nil_append, Nat.reduceAdd, Nat.reduceEqDiff, Nat.reduceLeDiff, reduceIte, Nat.reduceLT, or_self, true_or, or_true, if_true, if_false, and_self, and_true, true_and, not_false_eq_true, not_true_eq_false, fd_Mo_writeRun_124, fd_Mo_writeRun_126, fd_Mo_writeRun_127, l1]
    rw [eL, e]
    exact hx g done w7 w8 I e
  | m + 1, done, rest, w7, w8, g, hm, I => by
    obtain ⟨F, i1, i8, i2, i3, i4, i5, i6⟩ := id I
    obtain ⟨hS, i31, hl, T⟩ := id K
    have G := hS.fi F
    have hpos : npg rest ≠ 0 := by omega
    obtain ⟨e0, r0, hr⟩ : ∃ e r, rest = e :: r := by
      cases rest with
      | nil => exact absurd rfl hpos
      | cons e r => exact ⟨e, r, rfl⟩
    have l1 : nI done.length < nI n := nI_lt (by omega) (by omega)
    obtain ⟨k72, ⟨r15, k77, n77⟩, ⟨r16, k78, n78⟩, ⟨r17, k79, n79⟩, ⟨r18, k80, n80⟩, ⟨r19, k81, n81⟩, ⟨r20, k82, n82⟩, ⟨r21, k83, n83⟩, -⟩ := mo_sl_ G
    have GP := G.Pg
    have e1 : 1024 * nI s = nI (1024 * s) := (Int32.ofNat_mul 1024 s).symm
    refine am_go [130, 306] 3 ?_
    simp only [am_wp, am_stp, am_en, am_as, am_pad, am_nth, am_set, am_st1, am_st2, am_kl, am_kill, am_mem, am_fv, am_tk, am_wt, am_bk, Option.toList, List.cons_append, List.nil_append, Nat.reduceAdd, Nat.reduceEqDiff, Nat.reduceLeDiff, reduceIte, Nat.reduceLT, or_self, true_or, or_true, if_true, if_false, and_self, and_true, true_and, not_false_eq_true, not_true_eq_false, fd_Mo_writeRun_124, fd_Mo_writeRun_126, fd_Mo_writeRun_127, l1]
    refine am_go [] 2 ?_
    simp only [am_wp, am_stp, am_en, am_as, am_pad, am_nth, am_set, am_st1, am_st2, am_kl, am_kill, am_mem, am_fv, am_tk, am_wt, am_bk, Option.toList, List.cons_append, List.nil_append, Nat.reduceAdd, Nat.reduceEqDiff, Nat.reduceLeDiff, reduceIte, Nat.reduceLT, or_self, true_or, or_true, if_true, if_false, and_self, and_true, true_and, not_false_eq_true, not_true_eq_false, fd_Mo_writeRun_130, fd_Mo_writeRun_131, k72]
    refine am_call (l2_Mo_clear (d := d + 3) GP) (fun o g1 z => ?_)
    obtain ⟨rfl, F1, d1, L1⟩ := z
    have G1 := G.fi F1
    have k72a := G1.1
    simp only [am_wp, am_stp, am_en, am_as, am_pad, am_nth, am_set, am_st1, am_st2, am_kl, am_kill, am_mem, am_fv, am_tk, am_wt, am_bk, Option.toList, List.cons_append, List.nil_append, Nat.reduceAdd, Nat.reduceEqDiff, Nat.reduceLeDiff, reduceIte, Nat.reduceLT, or_self, true_or, or_true, if_true, if_false, and_self, and_true, true_and, not_false_eq_true, not_true_eq_false]
    refine am_go [] 5 ?_
    simp only [am_wp, am_stp, am_en, am_as, am_pad, am_nth, am_set, am_st1, am_st2, am_kl, am_kill, am_mem, am_fv, am_tk, am_wt, am_bk, Option.toList, List.cons_append, List.nil_append, Nat.reduceAdd, Nat.reduceEqDiff, Nat.reduceLeDiff, reduceIte, Nat.reduceLT, or_self, true_or, or_true, if_true, if_false, and_self, and_true, true_and, not_false_eq_true, not_true_eq_false, fd_Mo_writeRun_134, fd_Mo_writeRun_135, fd_Mo_writeRun_136, fd_Mo_writeRun_137, fd_Mo_writeRun_140, k72a]
    refine am_call (l2_Mo_put2 (d := d + 3) (u := 0) G1.Pg (by decide)) (fun o g2 z => ?_)
    obtain ⟨rfl, e2⟩ := z
    have F2 : am_fi [91] g1 g2 := by rw [e2]; exact (am_fi.refl.sI (by simp)).sI (by simp)
    have L2 : am_L g2 = am_L g1 := by rw [e2]; rfl
    clear e2
    have G2 := G1.fi F2
    obtain ⟨k72b, -, -, -, -, -, ⟨r20b, k82b, n82b⟩, -⟩ := mo_sl_ G2
    have F12 : am_fi [91] g g2 := F1.trans F2
    have I82 : am_I g2 82 = am_I h 82 := (F12.2.2.2.2.2.2.1 82 (by simp)).trans (F.2.2.2.2.2.2.1 82 (by simp))
    simp only [am_wp, am_stp, am_en, am_as, am_pad, am_nth, am_set, am_st1, am_st2, am_kl, am_kill, am_mem, am_fv, am_tk, am_wt, am_bk, Option.toList, List.cons_append, List.nil_append, Nat.reduceAdd, Nat.reduceEqDiff, Nat.reduceLeDiff, reduceIte, Nat.reduceLT, or_self, true_or, or_true, if_true, if_false, and_self, and_true, true_and, not_false_eq_true, not_true_eq_false]
    -- behind the second number
    have behind : ∀ x : Int32, am_Ex nm_pr (d + 4) mt_Mo_writeRun (175, [.ref 72, .int lv, .int (nI n), .int (nI s), .int x4, .int (nI (ch_E done).length), .int (nI done.length), .int (nI (0 + 2)), w8], [.int x, .int (nI (0 + 2)), .ref 72], g2) Q := by
      intro x
      refine am_go [] 1 ?_
      simp only [am_wp, am_stp, am_en, am_as, am_pad, am_nth, am_set, am_st1, am_st2, am_kl, am_kill, am_mem, am_fv, am_tk, am_wt, am_bk, Option.toList, List.cons_append, List.nil_append, Nat.reduceAdd, Nat.reduceEqDiff, Nat.reduceLeDiff, reduceIte, Nat.reduceLT, or_self, true_or, or_true, if_true, if_false, and_self, and_true, true_and, not_false_eq_true, not_true_eq_false, fd_Mo_writeRun_175, k72b]
      refine am_call (l2_Mo_put2 (d := d + 3) (u := 2) G2.Pg (by decide)) (fun o g3 z => ?_)
      obtain ⟨rfl, e3⟩ := z
      have F3 : am_fi [91] g2 g3 := by rw [e3]; exact (am_fi.refl.sI (by simp)).sI (by simp)
      have L3 : am_L g3 = am_L g2 := by rw [e3]; rfl
      clear e3
      have F13 : am_fi [91] g g3 := F12.trans F3
      have G3 := G2.fi F3
      obtain ⟨k72c, -, -, -, -, -, -, ⟨r21c, k83c, n83c⟩, -⟩ := mo_sl_ G3
      obtain ⟨-, r32c, -, -, k92c, n92c, -⟩ := mo_ky G3
      have hlen : (ch_E done).length < L.length := by rw [← i3, hr]; simp
      have iA := am_inb (c := (ch_E done).length) (N := 45000) (by omega) (by omega)
      have qA : (nI (ch_E done).length).toNatClampNeg = (ch_E done).length := nI_clamp (by omega)
      have iB := am_inb (c := 1024 * s + done.length) (N := 102400) (by omega) (by omega)
      have qB : (nI (1024 * s + done.length)).toNatClampNeg = 1024 * s + done.length := nI_clamp (by omega)
      have e5 : nI (2 + 2) + 1 = nI 5 := by decide
      simp only [am_wp, am_stp, am_en, am_as, am_pad, am_nth, am_set, am_st1, am_st2, am_kl, am_kill, am_mem, am_fv, am_tk, am_wt, am_bk, Option.toList, List.cons_append, List.nil_append, Nat.reduceAdd, Nat.reduceEqDiff, Nat.reduceLeDiff, reduceIte, Nat.reduceLT, or_self, true_or, or_true, if_true, if_false, and_self, and_true, true_and, not_false_eq_true, not_true_eq_false]
      refine am_go [] 4 ?_
      simp only [am_wp, am_stp, am_en, am_as, am_pad, am_nth, am_set, am_st1, am_st2, am_kl, am_kill, am_mem, am_fv, am_tk, am_wt, am_bk, Option.toList, List.cons_append, List.nil_append, Nat.reduceAdd, Nat.reduceEqDiff, Nat.reduceLeDiff, reduceIte, Nat.reduceLT, or_self, true_or, or_true, if_true, if_false, and_self, and_true, true_and, not_false_eq_true, not_true_eq_false, fd_Mo_writeRun_178, fd_Mo_writeRun_180, fd_Mo_writeRun_183, fd_Mo_writeRun_184, e5]
      refine am_go [206] 12 ?_
      simp only [am_wp, am_stp, am_en, am_as, am_pad, am_nth, am_set, am_st1, am_st2, am_kl, am_kill, am_mem, am_fv, am_tk, am_wt, am_bk, Option.toList, List.cons_append, List.nil_append, Nat.reduceAdd, Nat.reduceEqDiff, Nat.reduceLeDiff, reduceIte, Nat.reduceLT, or_self, true_or, or_true, if_true, if_false, and_self, and_true, true_and, not_false_eq_true, not_true_eq_false, fd_Mo_writeRun_186, fd_Mo_writeRun_187, fd_Mo_writeRun_190, fd_Mo_writeRun_193, fd_Mo_writeRun_194, fd_Mo_writeRun_195, fd_Mo_writeRun_197, fd_Mo_writeRun_198, fd_Mo_writeRun_199, fd_Mo_writeRun_202, fd_Mo_writeRun_204, fd_Mo_writeRun_205, k72c, r21c, r32c, e1, nI_add, k92c, n92c, iA, qA, k83c, n83c, iB, qB]
      have F4 : am_fi [83, 91] g (am_sL g3 83 (1024 * s + done.length) (am_L g3 92 (ch_E done).length)) := (F13.sub (by simp)).sL (by simp)
      have L92 : am_L (am_sL g3 83 (1024 * s + done.length) (am_L g3 92 (ch_E done).length)) 92 = am_L g 92 := F4.2.2.2.2.2.2.2 92 (by simp)
      generalize am_sL g3 83 (1024 * s + done.length) (am_L g3 92 (ch_E done).length) = g4 at F4 L92 ⊢
      have F04 : am_fi [72, 73, 83, 91] h g4 := F.trans (F4.sub (by simp))
      have K4 : ky_S g4 L := ⟨hS.fi F04, by rw [F4.2.2.2.2.2.2.1 72 (by simp), i1 31 (by decide) (by decide)]; exact i31, hl, T.fi F04 (by simp)⟩
      have enil : (ch_E done).length = (ch_E done ++ []).length := by rw [List.append_nil]
      rw [enil]
      refine l2_draft_loop (d := d + 1) (N := np 5 none rest) (pre := ch_E done) K4 hO (fun g5 C u rest' c1 c2 c3 c4 c5 c6 c7 => ?_) rest [] 5 g4 (by simpa using i3) am_fi.refl rfl (by decide) rfl rfl
      -- the page
      have G5 := K4.1.fi c2
      obtain ⟨k72d, r30d, k91d, n91d⟩ := mo_dr G5
      obtain ⟨-, -, -, -, -, -, ⟨r20d, k82d, n82d⟩, -⟩ := mo_sl_ G5
      have hle := el_le c5
      have i4' : ((4 : Int32) < 0 ∨ 128 ≤ (4 : Int32).toNatClampNeg) = False := by decide
      have q4' : (4 : Int32).toNatClampNeg = 4 := by decide
      refine am_go [] 6 ?_
      simp only [am_wp, am_stp, am_en, am_as, am_pad, am_nth, am_set, am_st1, am_st2, am_kl, am_kill, am_mem, am_fv, am_tk, am_wt, am_bk, Option.toList, List.cons_append, List.nil_append, Nat.reduceAdd, Nat.reduceEqDiff, Nat.reduceLeDiff, reduceIte, Nat.reduceLT, or_self, true_or, or_true, if_true, if_false, and_self, and_true, true_and, not_false_eq_true, not_true_eq_false, fd_Mo_writeRun_268, fd_Mo_writeRun_269, fd_Mo_writeRun_272, fd_Mo_writeRun_273, fd_Mo_writeRun_275, fd_Mo_writeRun_276, k72d, r30d, k91d, n91d, i4']
      rw [q4']
      have F6 : am_fi [91] g4 (am_sI g5 91 4 (am_b8 (am_b8 (nI C.length)))) := c2.sI (by simp)
      have v4 : am_I (am_sI g5 91 4 (am_b8 (am_b8 (nI C.length)))) 91 4 &&& 255 = nI C.length := by
        simp only [hx_nx_sI, hx_ce_sI, hx_sl_sI, hx_kd_sI, hx_ln_sI, hx_I_sI, hx_L_sI, hx_R_sI, hx_nx_sL, hx_ce_sL, hx_sl_sL, hx_kd_sL, hx_ln_sL, hx_I_sL, hx_L_sL, hx_R_sL, hx_nx_sR, hx_ce_sR, hx_sl_sR, hx_kd_sR, hx_ln_sR, hx_I_sR, hx_L_sR, hx_R_sR, hx_nx_al, hx_ce_al, hx_sl_al, hx_kd_al, hx_ln_al, hx_I_al, hx_L_al, hx_R_al, hx_nx_row, hx_ce_row, hx_sl_row, hx_kd_row, hx_ln_row, hx_I_row, hx_L_row, hx_R_row, hx_nx_mk, hx_kd_mk, hx_ln_mk, hx_I_mk, hx_L_mk, hx_R_mk, am_wp, am_stp, am_en, am_as, am_pad, am_nth, am_set, am_st1, am_st2, am_kl, am_kill, am_mem, am_fv, am_tk, am_wt, am_bk, Option.toList, List.cons_append, List.nil_append, Nat.reduceAdd, Nat.reduceEqDiff, Nat.reduceLeDiff, reduceIte, Nat.reduceLT, or_self, true_or, or_true, if_true, if_false, and_self, and_true, true_and, not_false_eq_true, not_true_eq_false]
        rw [am_b8_b8, b8_and]
        exact and255 (by omega)
      have vE : el (am_I (am_sI g5 91 4 (am_b8 (am_b8 (nI C.length)))) 91) 5 none C u := el_ext (fun j j1 j2 => by simp only [hx_nx_sI, hx_ce_sI, hx_sl_sI, hx_kd_sI, hx_ln_sI, hx_I_sI, hx_L_sI, hx_R_sI, hx_nx_sL, hx_ce_sL, hx_sl_sL, hx_kd_sL, hx_ln_sL, hx_I_sL, hx_L_sL, hx_R_sL, hx_nx_sR, hx_ce_sR, hx_sl_sR, hx_kd_sR, hx_ln_sR, hx_I_sR, hx_L_sR, hx_R_sR, hx_nx_al, hx_ce_al, hx_sl_al, hx_kd_al, hx_ln_al, hx_I_al, hx_L_al, hx_R_al, hx_nx_row, hx_ce_row, hx_sl_row, hx_kd_row, hx_ln_row, hx_I_row, hx_L_row, hx_R_row, hx_nx_mk, hx_kd_mk, hx_ln_mk, hx_I_mk, hx_L_mk, hx_R_mk, am_wp, am_stp, am_en, am_as, am_pad, am_nth, am_set, am_st1, am_st2, am_kl, am_kill, am_mem, am_fv, am_tk, am_wt, am_bk, Option.toList, List.cons_append, List.nil_append, Nat.reduceAdd, Nat.reduceEqDiff, Nat.reduceLeDiff, reduceIte, Nat.reduceLT, or_self, true_or, or_true, if_true, if_false, and_self, and_true, true_and, not_false_eq_true, not_true_eq_false]; rw [if_neg (by omega)]) c5
      have vL : am_L (am_sI g5 91 4 (am_b8 (am_b8 (nI C.length)))) = am_L g4 := c3
      generalize am_sI g5 91 4 (am_b8 (am_b8 (nI C.length))) = g6 at F6 v4 vE vL ⊢
      obtain ⟨pg, hpk⟩ : ∃ q, pl[done.length]? = some q := ⟨pl[done.length]'(by omega), List.getElem?_eq_getElem (by omega)⟩
      have hpm := hpg pg (List.mem_of_getElem? hpk)
      have F06 : am_fi [72, 73, 83, 91] h g6 := F04.trans (F6.sub (by simp))
      have F46 : am_fi [83, 91] g g6 := F4.trans (F6.sub (by simp))
      have vp : am_I g6 82 (1024 * s + done.length) = nI pg := by rw [F06.2.2.2.2.2.2.1 82 (by simp)]; exact h82 _ _ hpk
      have G6 := hS.fi F06
      obtain ⟨k72e, -, -, -, -, -, ⟨r20e, k82e, n82e⟩, -⟩ := mo_sl_ G6
      refine am_go [] 10 ?_
      simp only [am_wp, am_stp, am_en, am_as, am_pad, am_nth, am_set, am_st1, am_st2, am_kl, am_kill, am_mem, am_fv, am_tk, am_wt, am_bk, Option.toList, List.cons_append, List.nil_append, Nat.reduceAdd, Nat.reduceEqDiff, Nat.reduceLeDiff, reduceIte, Nat.reduceLT, or_self, true_or, or_true, if_true, if_false, and_self, and_true, true_and, not_false_eq_true, not_true_eq_false, fd_Mo_writeRun_277, fd_Mo_writeRun_278, fd_Mo_writeRun_279, fd_Mo_writeRun_282, fd_Mo_writeRun_285, fd_Mo_writeRun_286, fd_Mo_writeRun_287, fd_Mo_writeRun_289, fd_Mo_writeRun_290, fd_Mo_writeRun_291, k72e, r20e, e1, nI_add, k82e, n82e, iB, qB, vp]
      have C6 : rC P g6 := C0.w F06 (by decide) (fun j hj h8 => by rw [F46.2.2.2.2.2.2.1 72 (by simp), i1 j (by unfold rJ at hj; omega) h8]) (by rw [F46.2.2.2.2.2.2.1 72 (by simp)]; exact i8.1) (i8.2.eq (F46.2.2.2.2.2.2.1 73 (by simp)))
      refine am_call (rx_write (d := d + 2) C6 (show pg < 1024 by omega)) (fun o g7 z => ?_)
      rcases z with ⟨rfl, zz⟩ | ⟨rfl, z1, z2⟩
      rotate_left
      · simp only [am_wp, am_stp, am_en, am_as, am_pad, am_nth, am_set, am_st1, am_st2, am_kl, am_kill, am_mem, am_fv, am_tk, am_wt, am_bk, Option.toList, List.cons_append, List.nil_append, Nat.reduceAdd, Nat.reduceEqDiff, Nat.reduceLeDiff, reduceIte, Nat.reduceLT, or_self, true_or, or_true, if_true, if_false, and_self, and_true, true_and, not_false_eq_true, not_true_eq_false]
        refine am_go [297, 300] 1 ?_
        simp only [am_wp, am_stp, am_en, am_as, am_pad, am_nth, am_set, am_st1, am_st2, am_kl, am_kill, am_mem, am_fv, am_tk, am_wt, am_bk, Option.toList, List.cons_append, List.nil_append, Nat.reduceAdd, Nat.reduceEqDiff, Nat.reduceLeDiff, reduceIte, Nat.reduceLT, or_self, true_or, or_true, if_true, if_false, and_self, and_true, true_and, not_false_eq_true, not_true_eq_false, fd_Mo_writeRun_294]
        refine am_go [] 2 ?_
        simp only [am_wp, am_stp, am_en, am_as, am_pad, am_nth, am_set, am_st1, am_st2, am_kl, am_kill, am_mem, am_fv, am_tk, am_wt, am_bk, Option.toList, List.cons_append, List.nil_append, Nat.reduceAdd, Nat.reduceEqDiff, Nat.reduceLeDiff, reduceIte, Nat.reduceLT, or_self, true_or, or_true, if_true, if_false, and_self, and_true, true_and, not_false_eq_true, not_true_eq_false, fd_Mo_writeRun_297, fd_Mo_writeRun_299]
        exact hd g7 ⟨z1.1, (F06.sub (by decide)).trans z1.2⟩ z2
      have by7 := zz.by C6.2.2.2.2.2.2.2
      obtain ⟨F7, w1, w8, w3, w5⟩ := zz
      have one0 : ¬ (1 : Int32) = 0 := by decide
      simp only [am_wp, am_stp, am_en, am_as, am_pad, am_nth, am_set, am_st1, am_st2, am_kl, am_kill, am_mem, am_fv, am_tk, am_wt, am_bk, Option.toList, List.cons_append, List.nil_append, Nat.reduceAdd, Nat.reduceEqDiff, Nat.reduceLeDiff, reduceIte, Nat.reduceLT, or_self, true_or, or_true, if_true, if_false, and_self, and_true, true_and, not_false_eq_true, not_true_eq_false]
      refine am_go [297, 124] 3 ?_
      simp only [am_wp, am_stp, am_en, am_as, am_pad, am_nth, am_set, am_st1, am_st2, am_kl, am_kill, am_mem, am_fv, am_tk, am_wt, am_bk, Option.toList, List.cons_append, List.nil_append, Nat.reduceAdd, Nat.reduceEqDiff, Nat.reduceLeDiff, reduceIte, Nat.reduceLT, or_self, true_or, or_true, if_true, if_false, and_self, and_true, true_and, not_false_eq_true, not_true_eq_false, fd_Mo_writeRun_294, fd_Mo_writeRun_300, fd_Mo_writeRun_303, one0, nI_1]
      have hC : C ≠ [] := fun z => by
        subst z
        have eu : u = 5 := by have : (5 : Nat) = u := c5; omega
        have er : rest' = rest := by
          rw [← i3] at c1
          simpa using c1
        rcases c7 with q | ⟨e, r, q1, q2⟩
        · rw [← er, q] at hr; cases hr
        · rw [eu] at q2
          have := es_le 0 e
          exact q2 (by show 5 + es 0 e ≤ 120; omega)
      have hOC : ∀ e ∈ C, eo e := fun e he => hO e (by rw [← c1]; simp [he])
      have M7 : pg_M P g7 pg C := pg_M.of hpm.1 hpm.2 hC c4 vE hOC v4 w3
      have F07 : am_fi [72, 73, 83, 91] h g7 := F06.trans (F7.sub (by simp))
      have hnew : pg ∉ done.map (·.1) := fun hmem => by
        rw [i2] at hmem
        obtain ⟨j, hj⟩ := List.getElem?_of_mem hmem
        rw [List.getElem?_take] at hj
        split at hj
        · have hlt := (List.getElem?_eq_some_iff.mp hpk).1
          have := (List.getElem?_inj hlt hnd).mp (hpk.trans hj.symm)
          omega
        · cases hj
      have oct : ∀ x, x ≠ pg → ∀ j, j < 128 → am_I g7 73 (x * 128 + j) = am_I g 73 (x * 128 + j) := fun x hx' j hj => by
        rw [w3]
        dsimp only
        rw [if_neg (by rcases Nat.lt_or_gt_of_ne hx' with e | e <;> omega), F46.2.2.2.2.2.2.1 73 (by simp)]
      have I7 : rx_I P h g7 L n pl (done ++ [(pg, C)]) rest' := by
        refine ⟨F07, fun j hj h8 => ?_, ⟨w8, by7⟩, ?_, ?_, fun q hq => ?_, fun x hx' j hj => ?_, ?_⟩
        · rw [w1 j hj h8, F46.2.2.2.2.2.2.1 72 (by simp)]
          exact i1 j hj h8
        · rw [List.map_append, i2, List.length_append]
          show pl.take done.length ++ [pg] = pl.take (done.length + 1)
          rw [List.take_add_one, hpk]
          rfl
        · rw [ch_E_snoc]; exact c1
        · rcases List.mem_append.mp hq with hq | hq
          · refine (i4 q hq).mono (fun j hj => oct q.1 (fun e => hnew (e ▸ List.mem_map_of_mem hq)) j hj)
          · have e : q = (pg, C) := by simpa using hq
            subst e
            exact M7
        · rw [List.map_append] at hx'
          have h1 : x ∉ done.map (·.1) := fun z => hx' (by simp [z])
          have h2 : x ≠ pg := fun z => hx' (by simp [z])
          rw [oct x h2 j hj]
          exact i5 x h1 j hj
        · rw [List.length_append]
          show n = done.length + 1 + npg rest'
          rw [hr, npg_5, ← hr] at i6
          rcases c7 with q | ⟨e, r, q1, q2⟩
          · rw [q] at c6 ⊢
            have : np u (lk none C) [] = 0 := rfl
            have h0 : npg [] = 0 := rfl
            omega
          · rw [q1, np, if_neg q2] at c6
            rw [q1]
            unfold npg
            rw [np_121]
            omega
      have := rx_page_loop (d := d) (lv := lv) (x4 := x4) K hO C0 hP hs hn hpl hnd h82 hpg hd hx m (done ++ [(pg, C)]) rest' (.int (nI u)) (.int (nI C.length)) g7 (by rw [List.length_append]; simp; omega) I7
      have ea : (ch_E (done ++ [(pg, C)])).length = (ch_E done ++ C).length := by rw [ch_E_snoc]
      have eb : (done ++ [(pg, C)]).length = done.length + 1 := by simp
      rw [ea, eb] at this
      exact this
    by_cases hk : done.length + 1 < n
    · have l2 : nI (done.length + 1) < nI n := nI_lt hk (by omega)
      have iC : (nI (1024 * s + done.length + 1) < 0 ∨ 102399 ≤ 1024 * s + done.length) = False := eq_false (fun q => by rcases q with q | q; exact nI_pos (by omega) q; omega)
      have qC : (nI (1024 * s + done.length + 1)).toNatClampNeg = 1024 * s + done.length + 1 := nI_clamp (by omega)
      refine am_go [156, 174] 8 ?_
      simp only [am_wp, am_stp, am_en, am_as, am_pad, am_nth, am_set, am_st1, am_st2, am_kl, am_kill, am_mem, am_fv, am_tk, am_wt, am_bk, Option.toList, List.cons_append, List.nil_append, Nat.reduceAdd, Nat.reduceEqDiff, Nat.reduceLeDiff, reduceIte, Nat.reduceLT, or_self, true_or, or_true, if_true, if_false, and_self, and_true, true_and, not_false_eq_true, not_true_eq_false, fd_Mo_writeRun_143, fd_Mo_writeRun_145, fd_Mo_writeRun_146, fd_Mo_writeRun_148, fd_Mo_writeRun_150, fd_Mo_writeRun_151, fd_Mo_writeRun_152, fd_Mo_writeRun_153, nI_1, l2]
      refine am_go [175] 11 ?_
      simp only [am_wp, am_stp, am_en, am_as, am_pad, am_nth, am_set, am_st1, am_st2, am_kl, am_kill, am_mem, am_fv, am_tk, am_wt, am_bk, Option.toList, List.cons_append, List.nil_append, Nat.reduceAdd, Nat.reduceEqDiff, Nat.reduceLeDiff, reduceIte, Nat.reduceLT, or_self, true_or, or_true, if_true, if_false, and_self, and_true, true_and, not_false_eq_true, not_true_eq_false, fd_Mo_writeRun_156, fd_Mo_writeRun_157, fd_Mo_writeRun_160, fd_Mo_writeRun_163, fd_Mo_writeRun_164, fd_Mo_writeRun_165, fd_Mo_writeRun_167, fd_Mo_writeRun_168, fd_Mo_writeRun_169, fd_Mo_writeRun_170, fd_Mo_writeRun_171, k72b, r20b, e1, nI_add, nI_1, k82b, n82b, qC, iC]
      exact behind _
    · have l2 : ¬ nI (done.length + 1) < nI n := nI_nlt (by omega) (by omega)
      refine am_go [156, 174] 8 ?_
      simp only [am_wp, am_stp, am_en, am_as, am_pad, am_nth, am_set, am_st1, am_st2, am_kl, am_kill, am_mem, am_fv, am_tk, am_wt, am_bk, Option.toList, List.cons_append, List.nil_append, Nat.reduceAdd, Nat.reduceEqDiff, Nat.reduceLeDiff, reduceIte, Nat.reduceLT, or_self, true_or, or_true, if_true, if_false, and_self, and_true, true_and, not_false_eq_true, not_true_eq_false, fd_Mo_writeRun_143, fd_Mo_writeRun_145, fd_Mo_writeRun_146, fd_Mo_writeRun_148, fd_Mo_writeRun_150, fd_Mo_writeRun_151, fd_Mo_writeRun_152, fd_Mo_writeRun_153, nI_1, l2]
      refine am_go [175] 1 ?_
      simp only [am_wp, am_stp, am_en, am_as, am_pad, am_nth, am_set, am_st1, am_st2, am_kl, am_kill, am_mem, am_fv, am_tk, am_wt, am_bk, Option.toList, List.cons_append, List.nil_append, Nat.reduceAdd, Nat.reduceEqDiff, Nat.reduceLeDiff, reduceIte, Nat.reduceLT, or_self, true_or, or_true, if_true, if_false, and_self, and_true, true_and, not_false_eq_true, not_true_eq_false, fd_Mo_writeRun_174]
      exact behind _
def rx_Q (P : Nat) (h h' : am_H) (lv : Int32) (L : List ent) (s : Nat) (ps : List (Nat × List ent)) : Prop :=
  am_fi [72, 73, 78, 79, 80, 81, 82, 83, 84, 85, 90, 91] h h' ∧ (∀ j, j ≠ 7 → j ≠ 8 → am_I h' 72 j = am_I h 72 j) ∧ ((∃ a, a ≤ 1000 ∧ am_I h' 72 8 = nI a) ∧ BY h') ∧ (s < 100 ∧ ¬ 0 < am_I h 77 s) ∧ am_I h' 79 = up_f (am_I h 79) s lv ∧ am_I h' 80 = up_f (am_I h 80) s (nI ps.length) ∧ (∀ j, ¬ (1024 * s ≤ j ∧ j < 1024 * s + 1024) → am_I h' 82 j = am_I h 82 j) ∧ (∀ k q, ps[k]? = some q → am_I h' 82 (1024 * s + k) = nI q.1) ∧ (∀ q ∈ ps, pg_M P h' q.1 q.2 ∧ ¬ us_T h 100 q.1) ∧ (ps.map (·.1)).Nodup ∧ (∀ x, x ∉ ps.map (·.1) → ∀ j, j < 128 → am_I h' 73 (x * 128 + j) = am_I h 73 (x * 128 + j)) ∧ ch_E ps = L ∧ ps.length = npg L
theorem rx_writeRun {d P : Nat} {lv : Int32} {L : List ent} {h : am_H} (K : rC P h) (Ky : ky_S h L) (hne : L ≠ []) (hO : ∀ e ∈ L, eo e) (hW : us_W P h) (hs0 : ∃ s, s < 100 ∧ ¬ 0 < am_I h 77 s) : am_Rt nm_pr (d + 5) mi_Mo_writeRun [.ref 72, .int lv] h (fun o h' => (∃ s ps, o = .inl (some (.int (nI s))) ∧ rx_Q P h h' lv L s ps) ∨ (o = .inl (some (.int (-1))) ∧ am_fi [90] h h') ∨ (o = .inl (some (.int (-2))) ∧ rq P h h' ∧ am_I h' 72 3 = 1)) := by
  obtain ⟨hS, P4, P1024, jP, ⟨a8, b8, ha8, hb8, j8, j9⟩, -, -, kB0⟩ := id K
  obtain ⟨-, i31, hl, T⟩ := id Ky
  have k72 := hS.1
  have hnl := npg_le (L := L)
  refine am_in' (d := d + 4) mt_Mo_writeRun 9 rfl rfl rfl ?_
  refine am_go [] 2 ?_
  simp only [am_wp, am_stp, am_en, am_as, am_pad, am_nth, am_set, am_st1, am_st2, am_kl, am_kill, am_mem, am_fv, am_tk, am_wt, am_bk, Option.toList, List.cons_append, List.nil_append, Nat.reduceAdd, Nat.reduceEqDiff, Nat.reduceLeDiff, reduceIte, Nat.reduceLT, or_self, true_or, or_true, if_true, if_false, and_self, and_true, true_and, not_false_eq_true, not_true_eq_false, fd_Mo_writeRun_0, fd_Mo_writeRun_1, k72]
  refine am_call (l2_pagesFor (d := d) Ky) (fun o h1 z => ?_)
  obtain ⟨rfl, rfl⟩ := z
  simp only [am_wp, am_stp, am_en, am_as, am_pad, am_nth, am_set, am_st1, am_st2, am_kl, am_kill, am_mem, am_fv, am_tk, am_wt, am_bk, Option.toList, List.cons_append, List.nil_append, Nat.reduceAdd, Nat.reduceEqDiff, Nat.reduceLeDiff, reduceIte, Nat.reduceLT, or_self, true_or, or_true, if_true, if_false, and_self, and_true, true_and, not_false_eq_true, not_true_eq_false]
  refine am_go [] 4 ?_
  simp only [am_wp, am_stp, am_en, am_as, am_pad, am_nth, am_set, am_st1, am_st2, am_kl, am_kill, am_mem, am_fv, am_tk, am_wt, am_bk, Option.toList, List.cons_append, List.nil_append, Nat.reduceAdd, Nat.reduceEqDiff, Nat.reduceLeDiff, reduceIte, Nat.reduceLT, or_self, true_or, or_true, if_true, if_false, and_self, and_true, true_and, not_false_eq_true, not_true_eq_false, fd_Mo_writeRun_4, fd_Mo_writeRun_5, fd_Mo_writeRun_6, fd_Mo_writeRun_7, k72]
  refine am_call (l2_Mo_freeCount (d := d + 2) (by omega) P1024 hS jP hW) (fun o h2 z => ?_)
  obtain ⟨rfl, F2, L2, v⟩ := z
  generalize hfr : us_N (am_I h2 90) P = fr
  have hfr2 : fr ≤ 1024 := by rw [← hfr]; have := us_N_le (am_I h2 90) P; omega
  simp only [am_wp, am_stp, am_en, am_as, am_pad, am_nth, am_set, am_st1, am_st2, am_kl, am_kill, am_mem, am_fv, am_tk, am_wt, am_bk, Option.toList, List.cons_append, List.nil_append, Nat.reduceAdd, Nat.reduceEqDiff, Nat.reduceLeDiff, reduceIte, Nat.reduceLT, or_self, true_or, or_true, if_true, if_false, and_self, and_true, true_and, not_false_eq_true, not_true_eq_false]
  refine am_go [13, 15] 1 ?_
  simp only [am_wp, am_stp, am_en, am_as, am_pad, am_nth, am_set, am_st1, am_st2, am_kl, am_kill, am_mem, am_fv, am_tk, am_wt, am_bk, Option.toList, List.cons_append, List.nil_append, Nat.reduceAdd, Nat.reduceEqDiff, Nat.reduceLeDiff, reduceIte, Nat.reduceLT, or_self, true_or, or_true, if_true, if_false, and_self, and_true, true_and, not_false_eq_true, not_true_eq_false, fd_Mo_writeRun_10]
  by_cases hf : fr < npg L
  · have l1 : nI fr < nI (npg L) := nI_lt hf (by omega)
    simp only [l1, am_wp, am_stp, am_en, am_as, am_pad, am_nth, am_set, am_st1, am_st2, am_kl, am_kill, am_mem, am_fv, am_tk, am_wt, am_bk, Option.toList, List.cons_append, List.nil_append, Nat.reduceAdd, Nat.reduceEqDiff, Nat.reduceLeDiff, reduceIte, Nat.reduceLT, or_self, true_or, or_true, if_true, if_false, and_self, and_true, true_and, not_false_eq_true, not_true_eq_false]
    refine am_go [] 2 ?_
    simp only [am_wp, am_stp, am_en, am_as, am_pad, am_nth, am_set, am_st1, am_st2, am_kl, am_kill, am_mem, am_fv, am_tk, am_wt, am_bk, Option.toList, List.cons_append, List.nil_append, Nat.reduceAdd, Nat.reduceEqDiff, Nat.reduceLeDiff, reduceIte, Nat.reduceLT, or_self, true_or, or_true, if_true, if_false, and_self, and_true, true_and, not_false_eq_true, not_true_eq_false, fd_Mo_writeRun_13, fd_Mo_writeRun_14]
    exact Or.inr (Or.inl F2)
  have l1 : ¬ nI fr < nI (npg L) := nI_nlt (by omega) (by omega)
  simp only [l1, am_wp, am_stp, am_en, am_as, am_pad, am_nth, am_set, am_st1, am_st2, am_kl, am_kill, am_mem, am_fv, am_tk, am_wt, am_bk, Option.toList, List.cons_append, List.nil_append, Nat.reduceAdd, Nat.reduceEqDiff, Nat.reduceLeDiff, reduceIte, Nat.reduceLT, or_self, true_or, or_true, if_true, if_false, and_self, and_true, true_and, not_false_eq_true, not_true_eq_false]
  refine am_go [17] 2 ?_
  simp only [am_wp, am_stp, am_en, am_as, am_pad, am_nth, am_set, am_st1, am_st2, am_kl, am_kill, am_mem, am_fv, am_tk, am_wt, am_bk, Option.toList, List.cons_append, List.nil_append, Nat.reduceAdd, Nat.reduceEqDiff, Nat.reduceLeDiff, reduceIte, Nat.reduceLT, or_self, true_or, or_true, if_true, if_false, and_self, and_true, true_and, not_false_eq_true, not_true_eq_false, fd_Mo_writeRun_15, fd_Mo_writeRun_16]
  have I77 : am_I h2 77 = am_I h1 77 := F2.2.2.2.2.2.2.1 77 (by simp)
  have S2 := hS.fi F2
  obtain ⟨s, hs, hsz, hsl⟩ := least_ex (p := fun s => 0 < am_I h1 77 s) hs0
  refine l2_slot_loop (s0 := s) S2 hs (by rw [I77]; exact hsz) ?_ s 0 (by omega) (fun t _ ht => by rw [I77]; exact hsl t ht)
  obtain ⟨k72a, ⟨r15, k77, n77⟩, ⟨r16, k78, n78⟩, ⟨r17, k79, n79⟩, ⟨r18, k80, n80⟩, ⟨r19, k81, n81⟩, ⟨r20, k82, n82⟩, ⟨r21, k83, n83⟩, ⟨r22, k84, n84⟩, ⟨r23, k85, n85⟩, ⟨r25, k86, n86⟩, ⟨r29, k90, n90⟩⟩ := mo_sl_ S2
  have i1 := am_inb (c := s) (N := 100) (by omega) (by omega)
  have q1 : (nI s).toNatClampNeg = s := nI_clamp (by omega)
  have i31a : am_I h2 72 31 = nI L.length := by rw [F2.2.2.2.2.2.2.1 72 (by simp)]; exact i31
  refine am_go [] 11 ?_
  simp only [am_wp, am_stp, am_en, am_as, am_pad, am_nth, am_set, am_st1, am_st2, am_kl, am_kill, am_mem, am_fv, am_tk, am_wt, am_bk, Option.toList, List.cons_append, List.nil_append, Nat.reduceAdd, Nat.reduceEqDiff, Nat.reduceLeDiff, reduceIte, Nat.reduceLT, or_self, true_or, or_true, if_true, if_false, and_self, and_true, true_and, not_false_eq_true, not_true_eq_false, fd_Mo_writeRun_32, fd_Mo_writeRun_33, fd_Mo_writeRun_36, fd_Mo_writeRun_37, fd_Mo_writeRun_38, fd_Mo_writeRun_41, fd_Mo_writeRun_42, fd_Mo_writeRun_43, fd_Mo_writeRun_46, fd_Mo_writeRun_47, fd_Mo_writeRun_48, hx_nx_sI, hx_ce_sI, hx_sl_sI, hx_kd_sI, hx_ln_sI, hx_I_sI, hx_L_sI, hx_R_sI, hx_nx_sL, hx_ce_sL, hx_sl_sL, hx_kd_sL, hx_ln_sL, hx_I_sL, hx_L_sL, hx_R_sL, hx_nx_sR, hx_ce_sR, hx_sl_sR, hx_kd_sR, hx_ln_sR, hx_I_sR, hx_L_sR, hx_R_sR, hx_nx_al, hx_ce_al, hx_sl_al, hx_kd_al, hx_ln_al, hx_I_al, hx_L_al, hx_R_al, hx_nx_row, hx_ce_row, hx_sl_row, hx_kd_row, hx_ln_row, hx_I_row, hx_L_row, hx_R_row, hx_nx_mk, hx_kd_mk, hx_ln_mk, hx_I_mk, hx_L_mk, hx_R_mk, k72a, r16, k78, n78, r17, k79, n79, i1, q1]
  refine am_go [72] 15 ?_
  simp only [am_wp, am_stp, am_en, am_as, am_pad, am_nth, am_set, am_st1, am_st2, am_kl, am_kill, am_mem, am_fv, am_tk, am_wt, am_bk, Option.toList, List.cons_append, List.nil_append, Nat.reduceAdd, Nat.reduceEqDiff, Nat.reduceLeDiff, reduceIte, Nat.reduceLT, or_self, true_or, or_true, if_true, if_false, and_self, and_true, true_and, not_false_eq_true, not_true_eq_false, fd_Mo_writeRun_49, fd_Mo_writeRun_50, fd_Mo_writeRun_53, fd_Mo_writeRun_54, fd_Mo_writeRun_55, fd_Mo_writeRun_56, fd_Mo_writeRun_57, fd_Mo_writeRun_60, fd_Mo_writeRun_61, fd_Mo_writeRun_62, fd_Mo_writeRun_65, fd_Mo_writeRun_66, fd_Mo_writeRun_67, fd_Mo_writeRun_69, fd_Mo_writeRun_70, hx_nx_sI, hx_ce_sI, hx_sl_sI, hx_kd_sI, hx_ln_sI, hx_I_sI, hx_L_sI, hx_R_sI, hx_nx_sL, hx_ce_sL, hx_sl_sL, hx_kd_sL, hx_ln_sL, hx_I_sL, hx_L_sL, hx_R_sL, hx_nx_sR, hx_ce_sR, hx_sl_sR, hx_kd_sR, hx_ln_sR, hx_I_sR, hx_L_sR, hx_R_sR, hx_nx_al, hx_ce_al, hx_sl_al, hx_kd_al, hx_ln_al, hx_I_al, hx_L_al, hx_R_al, hx_nx_row, hx_ce_row, hx_sl_row, hx_kd_row, hx_ln_row, hx_I_row, hx_L_row, hx_R_row, hx_nx_mk, hx_kd_mk, hx_ln_mk, hx_I_mk, hx_L_mk, hx_R_mk, k72a, r18, k80, n80, r19, k81, n81, i1, q1, i31a]
  have F3 : am_fi [78, 79, 80, 81] h2 (am_sI (am_sI (am_sI (am_sI h2 78 s (am_I h2 72 5)) 79 s lv) 80 s (nI (npg L))) 81 s (nI L.length)) := (((am_fi.refl.sI (by simp)).sI (by simp)).sI (by simp)).sI (by simp)
  have v79 : am_I (am_sI (am_sI (am_sI (am_sI h2 78 s (am_I h2 72 5)) 79 s lv) 80 s (nI (npg L))) 81 s (nI L.length)) 79 = up_f (am_I h1 79) s lv := by
    rw [← F2.2.2.2.2.2.2.1 79 (by simp)]; funext j; unfold up_f; simp only [hx_nx_sI, hx_ce_sI, hx_sl_sI, hx_kd_sI, hx_ln_sI, hx_I_sI, hx_L_sI, hx_R_sI, hx_nx_sL, hx_ce_sL, hx_sl_sL, hx_kd_sL, hx_ln_sL, hx_I_sL, hx_L_sL, hx_R_sL, hx_nx_sR, hx_ce_sR, hx_sl_sR, hx_kd_sR, hx_ln_sR, hx_I_sR, hx_L_sR, hx_R_sR, hx_nx_al, hx_ce_al, hx_sl_al, hx_kd_al, hx_ln_al, hx_I_al, hx_L_al, hx_R_al, hx_nx_row, hx_ce_row, hx_sl_row, hx_kd_row, hx_ln_row, hx_I_row, hx_L_row, hx_R_row, hx_nx_mk, hx_kd_mk, hx_ln_mk, hx_I_mk, hx_L_mk, hx_R_mk, am_wp, am_stp, am_en, am_as, am_pad, am_nth, am_set, am_st1, am_st2, am_kl, am_kill, am_mem, am_fv, am_tk, am_wt, am_bk, Option.toList, List.cons_append, List.nil_append, Nat.reduceAdd, Nat.reduceEqDiff, Nat.reduceLeDiff, reduceIte, Nat.reduceLT, or_self, true_or, or_true, if_true, if_false, and_self, and_true, true_and, not_false_eq_true, not_true_eq_false]
  have v80 : am_I (am_sI (am_sI (am_sI (am_sI h2 78 s (am_I h2 72 5)) 79 s lv) 80 s (nI (npg L))) 81 s (nI L.length)) 80 = up_f (am_I h1 80) s (nI (npg L)) := by
    rw [← F2.2.2.2.2.2.2.1 80 (by simp)]; funext j; unfold up_f; simp only [hx_nx_sI, hx_ce_sI, hx_sl_sI, hx_kd_sI, hx_ln_sI, hx_I_sI, hx_L_sI, hx_R_sI, hx_nx_sL, hx_ce_sL, hx_sl_sL, hx_kd_sL, hx_ln_sL, hx_I_sL, hx_L_sL, hx_R_sL, hx_nx_sR, hx_ce_sR, hx_sl_sR, hx_kd_sR, hx_ln_sR, hx_I_sR, hx_L_sR, hx_R_sR, hx_nx_al, hx_ce_al, hx_sl_al, hx_kd_al, hx_ln_al, hx_I_al, hx_L_al, hx_R_al, hx_nx_row, hx_ce_row, hx_sl_row, hx_kd_row, hx_ln_row, hx_I_row, hx_L_row, hx_R_row, hx_nx_mk, hx_kd_mk, hx_ln_mk, hx_I_mk, hx_L_mk, hx_R_mk, am_wp, am_stp, am_en, am_as, am_pad, am_nth, am_set, am_st1, am_st2, am_kl, am_kill, am_mem, am_fv, am_tk, am_wt, am_bk, Option.toList, List.cons_append, List.nil_append, Nat.reduceAdd, Nat.reduceEqDiff, Nat.reduceLeDiff, reduceIte, Nat.reduceLT, or_self, true_or, or_true, if_true, if_false, and_self, and_true, true_and, not_false_eq_true, not_true_eq_false]
  generalize am_sI (am_sI (am_sI (am_sI h2 78 s (am_I h2 72 5)) 79 s lv) 80 s (nI (npg L))) 81 s (nI L.length) = h3 at F3 v79 v80 ⊢
  have F13 : am_fi [78, 79, 80, 81, 90] h1 h3 := (F2.sub (by simp)).trans (F3.sub (by simp))
  have S3 := hS.fi F13
  have I90 : am_I h3 90 = am_I h2 90 := F3.2.2.2.2.2.2.1 90 (by simp)
  have hz : us_N (am_I h2 90) P = fz (am_I h2 90) P := us_fz P (fun p p1 p2 => by
    have := (v p p1).2.mpr (Or.inl p2)
    rw [this]; decide)
  have hfz : fz (am_I h3 90) P = fr := by rw [I90, ← hz]; exact hfr
  have f2 : fz (am_I h3 90) 2 = 0 := by have := fz_le (am_I h3 90) 2; omega
  refine l2_pick_loop (P := P) (s := s) S3 P1024 hs (by omega) (fun g pl p A hlen => ?_) (npg L) 2 [] h3 (by simp) (by omega) (by omega) ⟨am_fi.refl, rfl, by simp, fun _ _ => rfl, by simp, by simp⟩ (by omega)
  obtain ⟨FA, FL, a1, a2, a3, a4⟩ := A
  have F1g : am_fi [78, 79, 80, 81, 82, 90] h1 g := (F13.sub (by simp)).trans (FA.sub (by simp))
  have Sg := hS.fi F1g
  have Kyg : ky_S g L := ⟨Sg, by rw [F1g.2.2.2.2.2.2.1 72 (by simp)]; exact i31, hl, T.fi F1g (by simp)⟩
  refine am_go [124] 4 ?_
  simp only [am_wp, am_stp, am_en, am_as, am_pad, am_nth, am_set, am_st1, am_st2, am_kl, am_kill, am_mem, am_fv, am_tk, am_wt, am_bk, Option.toList, List.cons_append, List.nil_append, Nat.reduceAdd, Nat.reduceEqDiff, Nat.reduceLeDiff, reduceIte, Nat.reduceLT, or_self, true_or, or_true, if_true, if_false, and_self, and_true, true_and, not_false_eq_true, not_true_eq_false, fd_Mo_writeRun_118, fd_Mo_writeRun_119, fd_Mo_writeRun_121, fd_Mo_writeRun_122]
  have I72 : am_I g 72 = am_I h1 72 := F1g.2.2.2.2.2.2.1 72 (by simp)
  have I73 : am_I g 73 = am_I h1 73 := F1g.2.2.2.2.2.2.1 73 (by simp)
  have RI : rx_I P g g L (npg L) pl [] L := ⟨am_fi.refl, fun _ _ _ => rfl, ⟨⟨a8, ha8, by rw [I72]; exact j8⟩, kB0.eq I73⟩, by simp, by simp [ch_E], by simp, fun _ _ _ _ => rfl, by simp⟩
  have Cg : rC P g := K.w F1g (by decide) (fun j _ _ => by rw [I72]) ⟨a8, ha8, by rw [I72]; exact j8⟩ (kB0.eq I73)
  refine rx_page_loop (d := d) (pl := pl) Kyg hO Cg P1024 hs (by omega) hlen a3 a1 (fun q hq => ⟨(a4 q hq).1, (a4 q hq).2.1⟩) (fun g' z1 z2 => Or.inr (Or.inr ⟨rfl, ⟨z1.1, (F1g.sub (by decide)).trans z1.2⟩, z2⟩)) (fun g1 done w7 w8 I hdl => ?_) (npg L) [] L _ _ g (by simp) RI
  obtain ⟨Fg, y1, y8, y2, y3, y4, y5, y6⟩ := I
  have eL : ch_E done = L := by simpa using y3
  have S1 := Sg.fi Fg
  obtain ⟨k72b, -, -, -, -, -, -, -, ⟨r22b, k84b, n84b⟩, -⟩ := mo_sl_ S1
  obtain ⟨-, r32b, -, -, k92b, n92b, -⟩ := mo_ky S1
  have i31b : am_I g1 72 31 = nI L.length := by rw [y1 31 (by decide) (by decide), I72]; exact i31
  obtain ⟨j, hj⟩ : ∃ j, L.length = j + 1 := ⟨L.length - 1, by have := List.length_pos_iff.mpr hne; omega⟩
  have em : nI L.length - 1 = nI j := by rw [hj]; exact nI_pred j
  have iA := am_inb (c := j) (N := 45000) (by omega) (by omega)
  have qA : (nI j).toNatClampNeg = j := nI_clamp (by omega)
  refine am_go [] 11 ?_
  simp only [am_wp, am_stp, am_en, am_as, am_pad, am_nth, am_set, am_st1, am_st2, am_kl, am_kill, am_mem, am_fv, am_tk, am_wt, am_bk, Option.toList, List.cons_append, List.nil_append, Nat.reduceAdd, Nat.reduceEqDiff, Nat.reduceLeDiff, reduceIte, Nat.reduceLT, or_self, true_or, or_true, if_true, if_false, and_self, and_true, true_and, not_false_eq_true, not_true_eq_false, fd_Mo_writeRun_306, fd_Mo_writeRun_307, fd_Mo_writeRun_310, fd_Mo_writeRun_311, fd_Mo_writeRun_312, fd_Mo_writeRun_315, fd_Mo_writeRun_316, fd_Mo_writeRun_319, fd_Mo_writeRun_320, fd_Mo_writeRun_321, fd_Mo_writeRun_322, k72b, r22b, r32b, i31b, em, k92b, n92b, iA, qA, k84b, n84b, i1, q1]
  have F4 : am_fi [84] g1 (am_sL g1 84 s (am_L g1 92 j)) := am_fi.refl.sL (by simp)
  generalize am_sL g1 84 s (am_L g1 92 j) = g2 at F4 ⊢
  have S4 := S1.fi F4
  refine am_go [] 3 ?_
  simp only [am_wp, am_stp, am_en, am_as, am_pad, am_nth, am_set, am_st1, am_st2, am_kl, am_kill, am_mem, am_fv, am_tk, am_wt, am_bk, Option.toList, List.cons_append, List.nil_append, Nat.reduceAdd, Nat.reduceEqDiff, Nat.reduceLeDiff, reduceIte, Nat.reduceLT, or_self, true_or, or_true, if_true, if_false, and_self, and_true, true_and, not_false_eq_true, not_true_eq_false, fd_Mo_writeRun_323, fd_Mo_writeRun_324, fd_Mo_writeRun_325, S4.1]
  refine am_call (l2_clearFilter (d := d + 3) S4 hs) (fun o g3 z => ?_)
  obtain ⟨rfl, F5⟩ := z
  have S5 := S4.fi F5
  simp only [am_wp, am_stp, am_en, am_as, am_pad, am_nth, am_set, am_st1, am_st2, am_kl, am_kill, am_mem, am_fv, am_tk, am_wt, am_bk, Option.toList, List.cons_append, List.nil_append, Nat.reduceAdd, Nat.reduceEqDiff, Nat.reduceLeDiff, reduceIte, Nat.reduceLT, or_self, true_or, or_true, if_true, if_false, and_self, and_true, true_and, not_false_eq_true, not_true_eq_false]
  refine am_go [331] 2 ?_
  simp only [am_wp, am_stp, am_en, am_as, am_pad, am_nth, am_set, am_st1, am_st2, am_kl, am_kill, am_mem, am_fv, am_tk, am_wt, am_bk, Option.toList, List.cons_append, List.nil_append, Nat.reduceAdd, Nat.reduceEqDiff, Nat.reduceLeDiff, reduceIte, Nat.reduceLT, or_self, true_or, or_true, if_true, if_false, and_self, and_true, true_and, not_false_eq_true, not_true_eq_false, fd_Mo_writeRun_328, fd_Mo_writeRun_329]
  have F15 : am_fi [84, 85] g1 g3 := (F4.sub (by simp)).trans (F5.sub (by simp))
  have Fg3 : am_fi [72, 73, 83, 84, 85, 91] g g3 := (Fg.sub (by simp)).trans (F15.sub (by simp))
  have Ky3 : ky_S g3 L := ⟨S5, by rw [F15.2.2.2.2.2.2.1 72 (by simp)]; exact i31b, hl, (T.fi F1g (by simp)).fi Fg3 (by simp)⟩
  refine l2_marks_loop (d := d + 2) Ky3 hs (fun g4 F6 => ?_) L.length 0 g3 (by omega) am_fi.refl
  have Fg4 : am_fi [72, 73, 83, 84, 85, 91] g g4 := Fg3.trans (F6.sub (by simp))
  have F14 : am_fi [84, 85] g1 g4 := F15.trans (F6.sub (by simp))
  refine Or.inl ⟨s, done, rfl, (F1g.sub (by simp)).trans (Fg4.sub (by simp)), fun x hx h8 => ?_, ⟨by rw [F14.2.2.2.2.2.2.1 72 (by simp)]; exact y8.1, y8.2.eq (F14.2.2.2.2.2.2.1 73 (by simp))⟩, ⟨hs, hsz⟩, ?_, ?_, fun x hx => ?_, fun k q hk => ?_, fun q hq => ⟨?_, ?_⟩, ?_, fun x hx jj hjj => ?_, eL, hdl⟩
  · rw [F14.2.2.2.2.2.2.1 72 (by simp), y1 x hx h8, I72]
  · rw [Fg4.2.2.2.2.2.2.1 79 (by simp), FA.2.2.2.2.2.2.1 79 (by simp)]; exact v79
  · rw [Fg4.2.2.2.2.2.2.1 80 (by simp), FA.2.2.2.2.2.2.1 80 (by simp), hdl]; exact v80
  · rw [Fg4.2.2.2.2.2.2.1 82 (by simp), a2 x hx, F13.2.2.2.2.2.2.1 82 (by simp)]
  · rw [Fg4.2.2.2.2.2.2.1 82 (by simp)]
    refine a1 k q.1 ?_
    have h1' : (done.map (·.1))[k]? = some q.1 := by rw [List.getElem?_map, hk]; rfl
    rw [y2, List.getElem?_take] at h1'
    split at h1'
    · exact h1'
    · cases h1'
  · exact (y4 q hq).mono (fun jj _ => congrFun (F14.2.2.2.2.2.2.1 73 (by simp)) _)
  · have hm : q.1 ∈ pl := by
      have : q.1 ∈ done.map (·.1) := List.mem_map_of_mem hq
      rw [y2] at this
      exact List.mem_of_mem_take this
    obtain ⟨z1, z2, z3, z4⟩ := a4 q.1 hm
    intro hu
    have := (v q.1 z2).2.mpr (Or.inr hu)
    rw [I90, this] at z4
    exact absurd z4 (by decide)
  · rw [y2]; exact a3.sublist (List.take_sublist _ _)
  · rw [F14.2.2.2.2.2.2.1 73 (by simp), y5 x hx jj hjj, I73]
