/-! A RUN IS WRITTEN -/
def wr_I (P : Nat) (h g : am_H) (a b : Nat) (full : List ent) (old : Bool) (ins : List (Nat × List ent)) (R : List ent) (done : List (Nat × List ent)) (C : List ent) (u : Nat) (pk : Option Int64) (pg : Nat) : Prop :=
  am_fi (a :: b :: wr_w) h g ∧ sk_K P g ∧ (bl_S P g ins ∧ (am_I g 25 7 = if old = true then 1 else 0) ∧ ∀ x ∈ ins, so x.2 ∧ ∀ e ∈ x.2, eo e) ∧ wr_S g C u pk ∧ wr_A h g a done.length ∧ wr_D P h g a done pg ∧ wr_F P h g done.length pg (1 + np u pk R) ∧ (ch_E done ++ C ++ R = full ∧ done.length + 1 + np u pk R = npg full)
/-- the run is there -/
def wr_Z (P : Nat) (h g : am_H) (a b : Nat) (full : List ent) (ps : List (Nat × List ent)) : Prop := am_fi (a :: b :: wr_w) h g ∧ sk_K P g ∧ wr_A h g a ps.length ∧ ch_C P g ps ∧ (∀ q ∈ ps, am_I g 20 q.1 = 1 ∧ am_I h 22 q.1 = 0 ∧ ∀ e, q.2.head? = some e → am_L g 24 q.1 = e.1) ∧ (ps.map (·.1)).Nodup ∧ fr_P h g (ps.map (·.1)) ∧ (∀ q, (ps.map (·.1)).head? = some q → am_I h a 3 = nI q) ∧ (fz (am_I g 22) P + ps.length = fz (am_I h 22) P ∧ am_I g 21 4 = nI (fz (am_I g 22) P)) ∧ ch_E ps = full ∧ ps.length = npg full
set_option maxRecDepth 20000 in
theorem l2_writeRun_loop {d P a b : Nat} {lv : Int32} {full : List ent} {old : Bool} {h : am_H} {Q : am_O → am_H → Prop} (ha : 109 ≤ a) (hb : 109 ≤ b) (ka : am_kd h a = 5) (r2 : am_R h a 2 = b) (kb : am_kd h b = 101) (nb : am_ln h b = 8) (hne : full ≠ [])
    (hx : ∀ g ps, wr_Z P h g a b full ps → Q (.inl (some (.ref a))) g) : ∀ (n i : Nat) (ins : List (Nat × List ent)) (g : am_H) (w : Value) (done : List (Nat × List ent)) (C : List ent) (u : Nat) (pk : Option Int64) (pg : Nat), tot ins ≤ n → i + n < 900000 → wr_I P h g a b full old ins (ou old (ins.map (·.2))) done C u pk pg → (C = [] → done = []) →
    am_Ex nm_pr (d + 5) mt_SR_writeRun (51, [.ref 2, .int lv, .ref a, .int (nI pg), .int (nI i), w], [], g) Q
  | n, i, ins, g, w, done, C, u, pk, pg, hn, hi, I, hC => by
    obtain ⟨F, hK, ⟨hB, h7, hO⟩, hS, hA, hD, hF, hE, hN⟩ := id I
    obtain ⟨⟨k2, r0, r1, rr2, r3, r5, r8⟩, S0, P0, Sp0, B0, N0, i185, i215⟩ := id hK
    have k25 := B0.1
    have li : nI i < 1000000 := nI_lt (b := 1000000) (by omega) (by decide)
    have one0 : ¬ (1 : Int32) = 0 := by decide
    have P1024 := P0.2.2.2.2.2.2.2.2.2
    refine am_go [58, 173] 3 ?_
    simp only [am_wp, am_stp, am_en, am_as, am_pad, am_nth, am_set, am_st1, am_st2, am_kl, am_kill, am_mem, am_fv, am_tk, am_wt, am_bk, Option.toList, List.cons_append, List.nil_append, Nat.reduceAdd, Nat.reduceEqDiff, Nat.reduceLeDiff, reduceIte, Nat.reduceLT, or_self, true_or, or_true, if_true, if_false, and_self, and_true, true_and, not_false_eq_true, not_true_eq_false, fd_SR_writeRun_51, fd_SR_writeRun_53, fd_SR_writeRun_55, li]
    refine am_go [] 3 ?_
    simp only [am_wp, am_stp, am_en, am_as, am_pad, am_nth, am_set, am_st1, am_st2, am_kl, am_kill, am_mem, am_fv, am_tk, am_wt, am_bk, Option.toList, List.cons_append, List.nil_append, Nat.reduceAdd, Nat.reduceEqDiff, Nat.reduceLeDiff, reduceIte, Nat.reduceLT, or_self, true_or, or_true, if_true, if_false, and_self, and_true, true_and, not_false_eq_true, not_true_eq_false, fd_SR_writeRun_58, fd_SR_writeRun_59, fd_SR_writeRun_62, k2, r5, k25]
    refine am_call (l2_advance (d := d + 1) P0 Sp0 hB h7 hO (by omega)) (fun o g1 q => ?_)
    obtain ⟨F1, q⟩ := q
    have FA : am_fi (a :: b :: wr_w) h g1 := F.trans (F1.sub (by unfold bl_w wr_w; simp))
    have K1 : sk_K P g1 := hK.fi F1 (by decide)
    have aw : a ∉ bl_w := by unfold bl_w; simp; omega
    have S1 : wr_S g1 C u pk := hS.fi F1 (by decide)
    have A1 : wr_A h g1 a done.length := hA.fi F1 aw
    have D1 : wr_D P h g1 a done pg := hD.fi F1 (by decide)
    have G1 := hF.fi F1 (by decide)
    have ka1 : am_kd g1 a = 5 := by rw [FA.2.2.2.1]; exact ka
    obtain ⟨⟨k2', r0', r1', rr2', r3', r5', r8'⟩, Sh1, P1, Sp1, B1, N1, i185', i215'⟩ := id K1
    rcases q with ⟨rfl, q⟩ | ⟨e, ins', rfl, q1, q2, q3, q4, q5, q6, q7, q8, q9⟩
    · -- nothing more comes: the last page
      rw [q] at hE hN
      have hC' : C ≠ [] := fun z => by
        rw [z, hC z] at hE
        exact hne hE.symm
      simp only [am_wp, am_stp, am_en, am_as, am_pad, am_nth, am_set, am_st1, am_st2, am_kl, am_kill, am_mem, am_fv, am_tk, am_wt, am_bk, Option.toList, List.cons_append, List.nil_append, Nat.reduceAdd, Nat.reduceEqDiff, Nat.reduceLeDiff, reduceIte, Nat.reduceLT, or_self, true_or, or_true, if_true, if_false, and_self, and_true, true_and, not_false_eq_true, not_true_eq_false]
      refine am_go [68, 173] 1 ?_
      simp only [am_wp, am_stp, am_en, am_as, am_pad, am_nth, am_set, am_st1, am_st2, am_kl, am_kill, am_mem, am_fv, am_tk, am_wt, am_bk, Option.toList, List.cons_append, List.nil_append, Nat.reduceAdd, Nat.reduceEqDiff, Nat.reduceLeDiff, reduceIte, Nat.reduceLT, or_self, true_or, or_true, if_true, if_false, and_self, and_true, true_and, not_false_eq_true, not_true_eq_false, fd_SR_writeRun_65]
      refine am_go [] 5 ?_
      simp only [am_wp, am_stp, am_en, am_as, am_pad, am_nth, am_set, am_st1, am_st2, am_kl, am_kill, am_mem, am_fv, am_tk, am_wt, am_bk, Option.toList, List.cons_append, List.nil_append, Nat.reduceAdd, Nat.reduceEqDiff, Nat.reduceLeDiff, reduceIte, Nat.reduceLT, or_self, true_or, or_true, if_true, if_false, and_self, and_true, true_and, not_false_eq_true, not_true_eq_false, fd_SR_writeRun_173, fd_SR_writeRun_174, fd_SR_writeRun_175, fd_SR_writeRun_176, fd_SR_writeRun_177, k2']
      refine am_call (l2_writePage (d := d + 1) (nx := 0) K1 G1.1 G1.2.1 G1.2.2.1 ka1 (by omega) A1.2 S1.1 hC' S1.2.1 S1.2.2.2.1) (fun o g2 z => ?_)
      obtain ⟨rfl, W⟩ := z
      simp only [am_wp, am_stp, am_en, am_as, am_pad, am_nth, am_set, am_st1, am_st2, am_kl, am_kill, am_mem, am_fv, am_tk, am_wt, am_bk, Option.toList, List.cons_append, List.nil_append, Nat.reduceAdd, Nat.reduceEqDiff, Nat.reduceLeDiff, reduceIte, Nat.reduceLT, or_self, true_or, or_true, if_true, if_false, and_self, and_true, true_and, not_false_eq_true, not_true_eq_false]
      refine am_go [] 2 ?_
      simp only [am_wp, am_stp, am_en, am_as, am_pad, am_nth, am_set, am_st1, am_st2, am_kl, am_kill, am_mem, am_fv, am_tk, am_wt, am_bk, Option.toList, List.cons_append, List.nil_append, Nat.reduceAdd, Nat.reduceEqDiff, Nat.reduceLeDiff, reduceIte, Nat.reduceLT, or_self, true_or, or_true, if_true, if_false, and_self, and_true, true_and, not_false_eq_true, not_true_eq_false, fd_SR_writeRun_180, fd_SR_writeRun_181]
      obtain ⟨x1, x2, x3, x4, x5⟩ := D1.fin S1 G1 W
      obtain ⟨w1, w2, w3, w4, w5, w6, w7, w8, w9, w10, w11⟩ := id W
      have z := fz_up (f := am_I g1 22) (p := pg) (v := 1) P G1.1 G1.2.1
      rw [if_pos G1.2.2.1, if_neg (by decide)] at z
      replace z : fz (up_f (am_I g1 22) pg 1) P + 1 = fz (am_I g1 22) P := by omega
      have hnp : np u pk [] = 0 := rfl
      have G5 := G1.2.2.2.2.1
      refine hx g2 (done ++ [(pg, C)]) ⟨FA.trans (w1.sub (by unfold wr_w; simp)), w2, ⟨fun j j1 j2 => ?_, ?_⟩, x1.c, fun y hy => ⟨(x2 y hy).1, (x2 y hy).2.1, (x2 y hy).2.2.2⟩, x3, x4, x5, ⟨?_, ?_⟩, ?_, ?_⟩
      · rw [w10]; unfold up_f; rw [if_neg j1]; exact A1.1 j j1 j2
      · rw [w10]; unfold up_f; rw [if_pos rfl]; simp
      · rw [w5, List.length_append]; simp; omega
      · rw [w9, G1.2.2.2.2.2.1, w5, ← z]; exact nI_pred _
      · rw [ch_E_snoc]; simpa using hE
      · rw [List.length_append]; simp; omega
    · have r250 := B1.2.1
      have k26 := B1.2.2.1
      have k25' := B1.1
      rw [q1] at hE hN G1
      -- the entry comes onto the sheet and is noted
      have tail : ∀ (g2 : am_H) (w2 : Value) (done2 : List (Nat × List ent)) (C2 : List ent) (u2 : Nat) (pk2 : Option Int64) (pg2 : Nat), am_L g2 25 1 = e.1 → am_I g2 26 0 = e.2.1 → am_L g2 26 1 = e.2.2 → u2 + es (sh1 pk2 e.1) e ≤ 120 → wr_I P h g2 a b full old ins' (e :: ou old (ins'.map (·.2))) done2 C2 u2 pk2 pg2 → am_Ex nm_pr (d + 5) mt_SR_writeRun (135, [.ref 2, .int lv, .ref a, .int (nI pg2), .int (nI i), w2], [], g2) Q := by
        intro g2 w2 done2 C2 u2 pk2 pg2 v1 v2 v3 hfit I2
        obtain ⟨F2, K2, ⟨B2, f7, O2⟩, S2, A2, D2, G2, E2, M2⟩ := I2
        obtain ⟨⟨k2s, r0s, r1s, rr2s, r3s, r5s, r8s⟩, Shs, Ps, Sps, Bs, Ns, i185s, i215s⟩ := id K2
        have hl := el_le S2.2.1
        have hu2 := S2.1.2.2.2.2.1
        refine am_go [] 9 ?_
        simp only [am_wp, am_stp, am_en, am_as, am_pad, am_nth, am_set, am_st1, am_st2, am_kl, am_kill, am_mem, am_fv, am_tk, am_wt, am_bk, Option.toList, List.cons_append, List.nil_append, Nat.reduceAdd, Nat.reduceEqDiff, Nat.reduceLeDiff, reduceIte, Nat.reduceLT, or_self, true_or, or_true, if_true, if_false, and_self, and_true, true_and, not_false_eq_true, not_true_eq_false, fd_SR_writeRun_135, fd_SR_writeRun_136, fd_SR_writeRun_139, fd_SR_writeRun_140, fd_SR_writeRun_143, fd_SR_writeRun_146, fd_SR_writeRun_147, fd_SR_writeRun_150, fd_SR_writeRun_153, k2s, r8s, r5s, Bs.1, Bs.2.1, v1, Shs.1]
        refine am_call (l2_append (d := d + 2) (t := 26) S2.1 q9 hfit (by decide) (by omega) Bs.2.2.1 v2 v3) (fun o g3 z => ?_)
        obtain ⟨rfl, F3, U3, E3, Kp3, L3⟩ := z
        have S3 := S2.app q9 U3 E3 Kp3 L3
        have K3 : sk_K P g3 := K2.fi F3 (by decide)
        have B3 : bl_S P g3 ins' := B2.lo F3 (by simp)
        have A3 := A2.fi F3 (by simp; omega)
        have D3 := D2.fi F3 (by decide)
        have G3 := G2.fi F3 (by decide)
        have F03 : am_fi (a :: b :: wr_w) h g3 := F2.trans (F3.sub (by unfold wr_w; simp))
        obtain ⟨⟨k2t, r0t, r1t, rr2t, r3t, r5t, r8t⟩, Sht, Pt, Spt, Bt, Nt, i185t, i215t⟩ := id K3
        have v1' : am_L g3 25 1 = e.1 := by rw [F3.2.2.2.2.2.2.2 25 (by simp)]; exact v1
        simp only [am_wp, am_stp, am_en, am_as, am_pad, am_nth, am_set, am_st1, am_st2, am_kl, am_kill, am_mem, am_fv, am_tk, am_wt, am_bk, Option.toList, List.cons_append, List.nil_append, Nat.reduceAdd, Nat.reduceEqDiff, Nat.reduceLeDiff, reduceIte, Nat.reduceLT, or_self, true_or, or_true, if_true, if_false, and_self, and_true, true_and, not_false_eq_true, not_true_eq_false]
        refine am_go [] 5 ?_
        have ka3 : am_kd g3 a = 5 := by rw [F03.2.2.2.1]; exact ka
        simp only [am_wp, am_stp, am_en, am_as, am_pad, am_nth, am_set, am_st1, am_st2, am_kl, am_kill, am_mem, am_fv, am_tk, am_wt, am_bk, Option.toList, List.cons_append, List.nil_append, Nat.reduceAdd, Nat.reduceEqDiff, Nat.reduceLeDiff, reduceIte, Nat.reduceLT, or_self, true_or, or_true, if_true, if_false, and_self, and_true, true_and, not_false_eq_true, not_true_eq_false, fd_SR_writeRun_156, fd_SR_writeRun_157, fd_SR_writeRun_158, fd_SR_writeRun_161, fd_SR_writeRun_164, k2t, r5t, Bt.1, v1', ka3]
        refine am_call (l2_note (d := d + 3) (b := b) ka3 (by rw [F03.2.2.2.2.2.1]; exact r2) (by rw [F03.2.2.2.1]; exact kb) (by rw [F03.2.2.2.2.1]; exact nb)) (fun o g4 z => ?_)
        obtain ⟨rfl, F4, N4⟩ := z
        simp only [am_wp, am_stp, am_en, am_as, am_pad, am_nth, am_set, am_st1, am_st2, am_kl, am_kill, am_mem, am_fv, am_tk, am_wt, am_bk, Option.toList, List.cons_append, List.nil_append, Nat.reduceAdd, Nat.reduceEqDiff, Nat.reduceLeDiff, reduceIte, Nat.reduceLT, or_self, true_or, or_true, if_true, if_false, and_self, and_true, true_and, not_false_eq_true, not_true_eq_false]
        refine am_go [51] 2 ?_
        simp only [am_wp, am_stp, am_en, am_as, am_pad, am_nth, am_set, am_st1, am_st2, am_kl, am_kill, am_mem, am_fv, am_tk, am_wt, am_bk, Option.toList, List.cons_append, List.nil_append, Nat.reduceAdd, Nat.reduceEqDiff, Nat.reduceLeDiff, reduceIte, Nat.reduceLT, or_self, true_or, or_true, if_true, if_false, and_self, and_true, true_and, not_false_eq_true, not_true_eq_false, fd_SR_writeRun_167, fd_SR_writeRun_170, nI_1]
        have hn' : ∃ k, n = k + 1 := ⟨n - 1, by omega⟩
        obtain ⟨k, rfl⟩ := hn'
        rw [np, if_pos hfit] at G3 M2
        have i25 : am_I g4 25 = am_I g2 25 := (F4.2.2.2.2.2.2.1 25 (by simp; omega)).trans (F3.2.2.2.2.2.2.1 25 (by simp))
        refine l2_writeRun_loop ha hb ka r2 kb nb hne hx k (i + 1) ins' g4 w2 done2 (C2 ++ [e]) _ _ pg2 (by omega) (by omega) ⟨F03.trans (F4.sub (by simp)), K3.fi F4 (by simp; omega), ⟨B3.lo F4 (by simp; omega), by rw [i25]; exact f7, O2⟩, S3.fi F4 (by simp; omega), ⟨fun j j1 j2 => by rw [N4 j j2]; exact A3.1 j j1 j2, by rw [N4 4 (by decide)]; exact A3.2⟩, D3.fi F4 (by simp; omega), G3.fi F4 (by simp; omega), by rw [← E2]; simp, M2⟩ (fun z => by simp at z)
      simp only [am_wp, am_stp, am_en, am_as, am_pad, am_nth, am_set, am_st1, am_st2, am_kl, am_kill, am_mem, am_fv, am_tk, am_wt, am_bk, Option.toList, List.cons_append, List.nil_append, Nat.reduceAdd, Nat.reduceEqDiff, Nat.reduceLeDiff, reduceIte, Nat.reduceLT, or_self, true_or, or_true, if_true, if_false, and_self, and_true, true_and, not_false_eq_true, not_true_eq_false]
      refine am_go [68, 173] 1 ?_
      simp only [am_wp, am_stp, am_en, am_as, am_pad, am_nth, am_set, am_st1, am_st2, am_kl, am_kill, am_mem, am_fv, am_tk, am_wt, am_bk, Option.toList, List.cons_append, List.nil_append, Nat.reduceAdd, Nat.reduceEqDiff, Nat.reduceLeDiff, reduceIte, Nat.reduceLT, or_self, true_or, or_true, if_true, if_false, and_self, and_true, true_and, not_false_eq_true, not_true_eq_false, fd_SR_writeRun_65, one0]
      refine am_go [] 9 ?_
      simp only [am_wp, am_stp, am_en, am_as, am_pad, am_nth, am_set, am_st1, am_st2, am_kl, am_kill, am_mem, am_fv, am_tk, am_wt, am_bk, Option.toList, List.cons_append, List.nil_append, Nat.reduceAdd, Nat.reduceEqDiff, Nat.reduceLeDiff, reduceIte, Nat.reduceLT, or_self, true_or, or_true, if_true, if_false, and_self, and_true, true_and, not_false_eq_true, not_true_eq_false, fd_SR_writeRun_68, fd_SR_writeRun_69, fd_SR_writeRun_72, fd_SR_writeRun_73, fd_SR_writeRun_76, fd_SR_writeRun_79, fd_SR_writeRun_80, fd_SR_writeRun_83, fd_SR_writeRun_86, k2', r8', r5', k25', r250, q6, Sh1.1]
      refine am_call (l2_fits (d := d + 3) (t := 26) S1.1 k26 q7 q8) (fun o g2 z => ?_)
      obtain ⟨rfl, rfl⟩ := z
      simp only [am_wp, am_stp, am_en, am_as, am_pad, am_nth, am_set, am_st1, am_st2, am_kl, am_kill, am_mem, am_fv, am_tk, am_wt, am_bk, Option.toList, List.cons_append, List.nil_append, Nat.reduceAdd, Nat.reduceEqDiff, Nat.reduceLeDiff, reduceIte, Nat.reduceLT, or_self, true_or, or_true, if_true, if_false, and_self, and_true, true_and, not_false_eq_true, not_true_eq_false]
      refine am_go [92, 135] 1 ?_
      simp only [am_wp, am_stp, am_en, am_as, am_pad, am_nth, am_set, am_st1, am_st2, am_kl, am_kill, am_mem, am_fv, am_tk, am_wt, am_bk, Option.toList, List.cons_append, List.nil_append, Nat.reduceAdd, Nat.reduceEqDiff, Nat.reduceLeDiff, reduceIte, Nat.reduceLT, or_self, true_or, or_true, if_true, if_false, and_self, and_true, true_and, not_false_eq_true, not_true_eq_false, fd_SR_writeRun_89]
      by_cases hf : u + es (sh1 pk e.1) e ≤ 120
      · simp only [hf, one0, am_wp, am_stp, am_en, am_as, am_pad, am_nth, am_set, am_st1, am_st2, am_kl, am_kill, am_mem, am_fv, am_tk, am_wt, am_bk, Option.toList, List.cons_append, List.nil_append, Nat.reduceAdd, Nat.reduceEqDiff, Nat.reduceLeDiff, reduceIte, Nat.reduceLT, or_self, true_or, or_true, if_true, if_false, and_self, and_true, true_and, not_false_eq_true, not_true_eq_false]
        exact tail g2 w done C u pk pg q6 q7 q8 hf ⟨FA, K1, ⟨q3, q4, q5⟩, S1, A1, D1, G1, hE, hN⟩
      · simp only [hf, am_wp, am_stp, am_en, am_as, am_pad, am_nth, am_set, am_st1, am_st2, am_kl, am_kill, am_mem, am_fv, am_tk, am_wt, am_bk, Option.toList, List.cons_append, List.nil_append, Nat.reduceAdd, Nat.reduceEqDiff, Nat.reduceLeDiff, reduceIte, Nat.reduceLT, or_self, true_or, or_true, if_true, if_false, and_self, and_true, true_and, not_false_eq_true, not_true_eq_false]
        have hl := el_le S1.2.1
        have hC' : C ≠ [] := fun z => by
          rw [z] at S1
          have e1 : u = 5 := S1.2.1.symm
          have e2 : pk = none := S1.2.2.1
          have := es_le 0 e
          rw [e1, e2] at hf
          exact hf (by show 5 + es 0 e ≤ 120; omega)
        rw [np, if_neg hf] at G1 hN
        obtain ⟨G_1, G_2, G_3, G_4, G_5, G_6, G_7⟩ := id G1
        have fz1 : fz (am_I g2 22) (pg + 1) = 1 := by
          show fz (am_I g2 22) pg + (if 2 ≤ pg ∧ am_I g2 22 pg = 0 then 1 else 0) = 1
          rw [fz_none pg G_4, if_pos ⟨G_1, G_3⟩]
        obtain ⟨p', t1, t2, t3, t4, t5⟩ := fz_least (f := am_I g2 22) (m := pg + 1) P (by omega) (by omega)
        refine am_go [] 6 ?_
        simp only [am_wp, am_stp, am_en, am_as, am_pad, am_nth, am_set, am_st1, am_st2, am_kl, am_kill, am_mem, am_fv, am_tk, am_wt, am_bk, Option.toList, List.cons_append, List.nil_append, Nat.reduceAdd, Nat.reduceEqDiff, Nat.reduceLeDiff, reduceIte, Nat.reduceLT, or_self, true_or, or_true, if_true, if_false, and_self, and_true, true_and, not_false_eq_true, not_true_eq_false, fd_SR_writeRun_92, fd_SR_writeRun_93, fd_SR_writeRun_96, fd_SR_writeRun_97, fd_SR_writeRun_98, fd_SR_writeRun_99, k2', r1', Sp1.1, nI_1]
        refine am_call (l2_Sp_least (d := d + 4) Sp1 (show 2 ≤ pg + 1 by omega) t1 t2 t4 (fun x x1 x2 => t5 x x1 (by omega) x2)) (fun o g3 z => ?_)
        obtain ⟨rfl, rfl⟩ := z
        simp only [am_wp, am_stp, am_en, am_as, am_pad, am_nth, am_set, am_st1, am_st2, am_kl, am_kill, am_mem, am_fv, am_tk, am_wt, am_bk, Option.toList, List.cons_append, List.nil_append, Nat.reduceAdd, Nat.reduceEqDiff, Nat.reduceLeDiff, reduceIte, Nat.reduceLT, or_self, true_or, or_true, if_true, if_false, and_self, and_true, true_and, not_false_eq_true, not_true_eq_false]
        refine am_go [] 6 ?_
        simp only [am_wp, am_stp, am_en, am_as, am_pad, am_nth, am_set, am_st1, am_st2, am_kl, am_kill, am_mem, am_fv, am_tk, am_wt, am_bk, Option.toList, List.cons_append, List.nil_append, Nat.reduceAdd, Nat.reduceEqDiff, Nat.reduceLeDiff, reduceIte, Nat.reduceLT, or_self, true_or, or_true, if_true, if_false, and_self, and_true, true_and, not_false_eq_true, not_true_eq_false, fd_SR_writeRun_102, fd_SR_writeRun_104, fd_SR_writeRun_105, fd_SR_writeRun_106, fd_SR_writeRun_107, fd_SR_writeRun_109, k2']
        refine am_call (l2_writePage (d := d + 1) (nx := nI p') K1 G_1 G_2 G_3 ka1 (by omega) A1.2 S1.1 hC' S1.2.1 S1.2.2.2.1) (fun o g4 z => ?_)
        obtain ⟨rfl, W⟩ := z
        obtain ⟨w1, w2, w3, w4, w5, w6, w7, w8, w9, w10, w11⟩ := id W
        have D4 := D1.wp S1 G1 W (show pg < p' by omega)
        have G4 := G1.wp (m' := 1 + np (5 + es 0 e) (some e.1) (ou old (ins'.map (·.2)))) W (by omega) t2 t4 (fun r r1 r2 => t5 r (by omega) (by omega) r2) (by omega)
        have FB : am_fi (a :: b :: wr_w) h g4 := FA.trans (w1.sub (by unfold wr_w; simp))
        obtain ⟨⟨k2s, r0s, r1s, rr2s, r3s, r5s, r8s⟩, Shs, Ps, Sps, Bs, Ns, i185s, i215s⟩ := id w2
        have ka4 : am_kd g4 a = 5 := by rw [FB.2.2.2.1]; exact ka
        have B4 : bl_S P g4 ins' := q3.wp w1 (congrFun (w1.2.2.2.2.2.2.1 25 (by simp; omega)) 5) (by simp; omega) (fun q hq => by
          have hne : q ∉ [pg] := fun z => by
            have : q = pg := by simpa using z
            rw [this, G_3] at hq
            exact absurd hq (by decide)
          obtain ⟨y1, y2, y3, y4, y5⟩ := W.fr q hne
          exact ⟨y5, y2, y3⟩)
        simp only [am_wp, am_stp, am_en, am_as, am_pad, am_nth, am_set, am_st1, am_st2, am_kl, am_kill, am_mem, am_fv, am_tk, am_wt, am_bk, Option.toList, List.cons_append, List.nil_append, Nat.reduceAdd, Nat.reduceEqDiff, Nat.reduceLeDiff, reduceIte, Nat.reduceLT, or_self, true_or, or_true, if_true, if_false, and_self, and_true, true_and, not_false_eq_true, not_true_eq_false]
        refine am_go [119, 121] 3 ?_
        simp only [am_wp, am_stp, am_en, am_as, am_pad, am_nth, am_set, am_st1, am_st2, am_kl, am_kill, am_mem, am_fv, am_tk, am_wt, am_bk, Option.toList, List.cons_append, List.nil_append, Nat.reduceAdd, Nat.reduceEqDiff, Nat.reduceLeDiff, reduceIte, Nat.reduceLT, or_self, true_or, or_true, if_true, if_false, and_self, and_true, true_and, not_false_eq_true, not_true_eq_false, fd_SR_writeRun_112, fd_SR_writeRun_113, fd_SR_writeRun_116, k2s, i215s]
        refine am_go [] 7 ?_
        simp only [am_wp, am_stp, am_en, am_as, am_pad, am_nth, am_set, am_st1, am_st2, am_kl, am_kill, am_mem, am_fv, am_tk, am_wt, am_bk, Option.toList, List.cons_append, List.nil_append, Nat.reduceAdd, Nat.reduceEqDiff, Nat.reduceLeDiff, reduceIte, Nat.reduceLT, or_self, true_or, or_true, if_true, if_false, and_self, and_true, true_and, not_false_eq_true, not_true_eq_false, fd_SR_writeRun_121, fd_SR_writeRun_123, fd_SR_writeRun_124, fd_SR_writeRun_125, fd_SR_writeRun_128, fd_SR_writeRun_129, fd_SR_writeRun_132, k2s, r8s, ka4, Shs.1]
        refine am_call (l2_beginPage (d := d + 2) Shs) (fun o g5 z => ?_)
        obtain ⟨rfl, F5, U5, L5⟩ := z
        simp only [am_wp, am_stp, am_en, am_as, am_pad, am_nth, am_set, am_st1, am_st2, am_kl, am_kill, am_mem, am_fv, am_tk, am_wt, am_bk, Option.toList, List.cons_append, List.nil_append, Nat.reduceAdd, Nat.reduceEqDiff, Nat.reduceLeDiff, reduceIte, Nat.reduceLT, or_self, true_or, or_true, if_true, if_false, and_self, and_true, true_and, not_false_eq_true, not_true_eq_false]
        have h20 := es_le 0 e
        have x14 : ∀ x, x ∉ [15, 18, 19, 20, 21, 22, 23, 24, a] → x ∉ [14, 15] → am_I g5 x = am_I g3 x ∧ am_L g5 x = am_L g3 x := fun x h1 h2 => ⟨(F5.2.2.2.2.2.2.1 x h2).trans (w1.2.2.2.2.2.2.1 x h1), (F5.2.2.2.2.2.2.2 x h2).trans (w1.2.2.2.2.2.2.2 x h1)⟩
        have x25 := x14 25 (by simp; omega) (by simp)
        have x26 := x14 26 (by simp; omega) (by simp)
        have np5 : np 5 none (e :: ou old (ins'.map (·.2))) = np (5 + es 0 e) (some e.1) (ou old (ins'.map (·.2))) := by
          rw [np, if_pos (show 5 + es (sh1 none e.1) e ≤ 120 from by show 5 + es 0 e ≤ 120; omega)]
          rfl
        have G5 := G4.fi F5 (by decide)
        rw [← np5] at G5
        refine tail g5 (.int (nI p')) (done ++ [(pg, C)]) [] 5 none p' (by rw [x25.2]; exact q6) (by rw [x26.1]; exact q7) (by rw [x26.2]; exact q8) (by show 5 + es 0 e ≤ 120; omega) ⟨FB.trans (F5.sub (by unfold wr_w; simp)), w2.fi F5 (by decide), ⟨B4.lo F5 (by simp), by rw [x25.1]; exact q4, q5⟩, ⟨U5, rfl, rfl, by simp, by simp⟩, ?_, D4.fi F5 (by decide), by rw [List.length_append]; exact G5, by rw [ch_E_snoc]; simpa using hE, ?_⟩
        · have y : am_I g5 a = am_I g4 a := F5.2.2.2.2.2.2.1 a (by simp; omega)
          refine ⟨fun j j1 j2 => ?_, ?_⟩
          · rw [y, w10]; unfold up_f; rw [if_neg j1]; exact A1.1 j j1 j2
          · rw [y, w10]; unfold up_f; rw [if_pos rfl]; simp
        · rw [List.length_append, np5, ← hN]
          simp only [List.length_cons, List.length_nil]
          omega
/-- a new run with its filter -/
def nr_H (h : am_H) (n l : Int32) : am_H := am_sI (am_sI (am_mk (am_al h 5 0 9) 101 8 8 (am_nx h) 2) (am_nx h) 0 n) (am_nx h) 1 l
theorem nr_lo {h : am_H} {n l : Int32} (hx : 109 ≤ am_nx h) : ∀ x, x < am_nx h → am_kd (nr_H h n l) x = am_kd h x ∧ am_ln (nr_H h n l) x = am_ln h x ∧ am_I (nr_H h n l) x = am_I h x ∧ am_L (nr_H h n l) x = am_L h x ∧ am_R (nr_H h n l) x = am_R h x := by
  intro x hx'
  have n1 : ¬ x = am_nx h := by omega
  have n2 : ¬ x = am_nx h + 1 := by omega
  unfold nr_H
  refine ⟨?_, ?_, ?_, ?_, ?_⟩
  · simp only [hx_nx_sI, hx_ce_sI, hx_sl_sI, hx_kd_sI, hx_ln_sI, hx_I_sI, hx_L_sI, hx_R_sI, hx_nx_sL, hx_ce_sL, hx_sl_sL, hx_kd_sL, hx_ln_sL, hx_I_sL, hx_L_sL, hx_R_sL, hx_nx_sR, hx_ce_sR, hx_sl_sR, hx_kd_sR, hx_ln_sR, hx_I_sR, hx_L_sR, hx_R_sR, hx_nx_al, hx_ce_al, hx_sl_al, hx_kd_al, hx_ln_al, hx_I_al, hx_L_al, hx_R_al, hx_nx_row, hx_ce_row, hx_sl_row, hx_kd_row, hx_ln_row, hx_I_row, hx_L_row, hx_R_row, hx_nx_mk, hx_kd_mk, hx_ln_mk, hx_I_mk, hx_L_mk, hx_R_mk, n1, n2, if_false]
  · simp only [hx_nx_sI, hx_ce_sI, hx_sl_sI, hx_kd_sI, hx_ln_sI, hx_I_sI, hx_L_sI, hx_R_sI, hx_nx_sL, hx_ce_sL, hx_sl_sL, hx_kd_sL, hx_ln_sL, hx_I_sL, hx_L_sL, hx_R_sL, hx_nx_sR, hx_ce_sR, hx_sl_sR, hx_kd_sR, hx_ln_sR, hx_I_sR, hx_L_sR, hx_R_sR, hx_nx_al, hx_ce_al, hx_sl_al, hx_kd_al, hx_ln_al, hx_I_al, hx_L_al, hx_R_al, hx_nx_row, hx_ce_row, hx_sl_row, hx_kd_row, hx_ln_row, hx_I_row, hx_L_row, hx_R_row, hx_nx_mk, hx_kd_mk, hx_ln_mk, hx_I_mk, hx_L_mk, hx_R_mk, n1, n2, if_false]
  · funext j; simp only [hx_nx_sI, hx_ce_sI, hx_sl_sI, hx_kd_sI, hx_ln_sI, hx_I_sI, hx_L_sI, hx_R_sI, hx_nx_sL, hx_ce_sL, hx_sl_sL, hx_kd_sL, hx_ln_sL, hx_I_sL, hx_L_sL, hx_R_sL, hx_nx_sR, hx_ce_sR, hx_sl_sR, hx_kd_sR, hx_ln_sR, hx_I_sR, hx_L_sR, hx_R_sR, hx_nx_al, hx_ce_al, hx_sl_al, hx_kd_al, hx_ln_al, hx_I_al, hx_L_al, hx_R_al, hx_nx_row, hx_ce_row, hx_sl_row, hx_kd_row, hx_ln_row, hx_I_row, hx_L_row, hx_R_row, hx_nx_mk, hx_kd_mk, hx_ln_mk, hx_I_mk, hx_L_mk, hx_R_mk, n1, n2, if_false]
  · funext j; simp only [hx_nx_sI, hx_ce_sI, hx_sl_sI, hx_kd_sI, hx_ln_sI, hx_I_sI, hx_L_sI, hx_R_sI, hx_nx_sL, hx_ce_sL, hx_sl_sL, hx_kd_sL, hx_ln_sL, hx_I_sL, hx_L_sL, hx_R_sL, hx_nx_sR, hx_ce_sR, hx_sl_sR, hx_kd_sR, hx_ln_sR, hx_I_sR, hx_L_sR, hx_R_sR, hx_nx_al, hx_ce_al, hx_sl_al, hx_kd_al, hx_ln_al, hx_I_al, hx_L_al, hx_R_al, hx_nx_row, hx_ce_row, hx_sl_row, hx_kd_row, hx_ln_row, hx_I_row, hx_L_row, hx_R_row, hx_nx_mk, hx_kd_mk, hx_ln_mk, hx_I_mk, hx_L_mk, hx_R_mk, n1, n2, if_false]
  · funext j; simp only [hx_nx_sI, hx_ce_sI, hx_sl_sI, hx_kd_sI, hx_ln_sI, hx_I_sI, hx_L_sI, hx_R_sI, hx_nx_sL, hx_ce_sL, hx_sl_sL, hx_kd_sL, hx_ln_sL, hx_I_sL, hx_L_sL, hx_R_sL, hx_nx_sR, hx_ce_sR, hx_sl_sR, hx_kd_sR, hx_ln_sR, hx_I_sR, hx_L_sR, hx_R_sR, hx_nx_al, hx_ce_al, hx_sl_al, hx_kd_al, hx_ln_al, hx_I_al, hx_L_al, hx_R_al, hx_nx_row, hx_ce_row, hx_sl_row, hx_kd_row, hx_ln_row, hx_I_row, hx_L_row, hx_R_row, hx_nx_mk, hx_kd_mk, hx_ln_mk, hx_I_mk, hx_L_mk, hx_R_mk, n1, n2, if_false]
/-- what has come of h by a new run of L at its next address -/
def nr_Q (P : Nat) (h h' : am_H) (lv : Int32) (L : List ent) (ps : List (Nat × List ent)) : Prop :=
  (am_nx h' = am_nx h + 2 ∧ am_ce h' = am_ce h + 2 ∧ am_sl h' = am_sl h + 17) ∧ am_xt (2 :: wr_w) (am_nx h) h h' ∧ (∀ j, j ≠ 13 → am_I h' 2 j = am_I h 2 j) ∧ am_R h' 2 = am_R h 2 ∧ sk_K P h' ∧
  (am_kd h' (am_nx h) = 5 ∧ am_I h' (am_nx h) 1 = lv ∧ am_I h' (am_nx h) 8 = 0 ∧ am_I h' (am_nx h) 4 = nI ps.length ∧ ∀ q, (ps.map (·.1)).head? = some q → am_I h' (am_nx h) 3 = nI q) ∧
  ch_C P h' ps ∧ (∀ q ∈ ps, am_I h' 20 q.1 = 1 ∧ am_I h 22 q.1 = 0 ∧ ∀ e, q.2.head? = some e → am_L h' 24 q.1 = e.1) ∧ (ps.map (·.1)).Nodup ∧ fr_P h h' (ps.map (·.1)) ∧ (fz (am_I h' 22) P + ps.length = fz (am_I h 22) P ∧ am_I h' 21 4 = nI (fz (am_I h' 22) P)) ∧ ch_E ps = L ∧ ps.length = npg L
theorem l2_writeRun {d P : Nat} {lv : Int32} {old : Bool} {ins : List (Nat × List ent)} {h : am_H} (hx : 109 ≤ am_nx h) (hK : sk_K P h) (hB : bl_S P h ins) (h7 : am_I h 25 7 = (if old = true then 1 else 0)) (hO : ∀ x ∈ ins, so x.2 ∧ ∀ e ∈ x.2, eo e) (hn : tot ins < 900000) (hne : ou old (ins.map (·.2)) ≠ []) (hfr : npg (ou old (ins.map (·.2))) ≤ fz (am_I h 22) P) (h21 : am_I h 21 4 = nI (fz (am_I h 22) P)) : am_Rt nm_pr (d + 6) mi_SR_writeRun [.ref 2, .int lv] h (fun o h' => o = .inl (some (.ref (am_nx h))) ∧ ∃ ps, nr_Q P h h' lv (ou old (ins.map (·.2))) ps) := by
  obtain ⟨⟨k2, r0, r1, rr2, r3, r5, r8⟩, S0, P0, Sp0, B0, N0, i185, i215⟩ := id hK
  have n0 : ¬ 2 = am_nx h := by omega
  have P4 := P0.2.2.2.2.2.2.2.2.1
  refine am_in' (d := d + 5) mt_SR_writeRun 6 rfl rfl rfl ?_
  refine am_go [] 6 ?_
  simp only [am_wp, am_stp, am_en, am_as, am_pad, am_nth, am_set, am_st1, am_st2, am_kl, am_kill, am_mem, am_fv, am_tk, am_wt, am_bk, Option.toList, List.cons_append, List.nil_append, Nat.reduceAdd, Nat.reduceEqDiff, Nat.reduceLeDiff, reduceIte, Nat.reduceLT, or_self, true_or, or_true, if_true, if_false, and_self, and_true, true_and, not_false_eq_true, not_true_eq_false, fd_SR_writeRun_0, fd_SR_writeRun_3, fd_SR_writeRun_4, fd_SR_writeRun_5, fd_SR_writeRun_8, fd_SR_writeRun_9, hx_nx_sI, hx_ce_sI, hx_sl_sI, hx_kd_sI, hx_ln_sI, hx_I_sI, hx_L_sI, hx_R_sI, hx_nx_sL, hx_ce_sL, hx_sl_sL, hx_kd_sL, hx_ln_sL, hx_I_sL, hx_L_sL, hx_R_sL, hx_nx_sR, hx_ce_sR, hx_sl_sR, hx_kd_sR, hx_ln_sR, hx_I_sR, hx_L_sR, hx_R_sR, hx_nx_al, hx_ce_al, hx_sl_al, hx_kd_al, hx_ln_al, hx_I_al, hx_L_al, hx_R_al, hx_nx_row, hx_ce_row, hx_sl_row, hx_kd_row, hx_ln_row, hx_I_row, hx_L_row, hx_R_row, hx_nx_mk, hx_kd_mk, hx_ln_mk, hx_I_mk, hx_L_mk, hx_R_mk, k2, n0]
  refine am_call (l2_Run_init (d := d + 4) (t := am_nx h) ?_ (by omega) am_zz.al (by rw [hx_nx_al]; omega)) (fun o h1 q => ?_)
  · simp only [hx_nx_sI, hx_ce_sI, hx_sl_sI, hx_kd_sI, hx_ln_sI, hx_I_sI, hx_L_sI, hx_R_sI, hx_nx_sL, hx_ce_sL, hx_sl_sL, hx_kd_sL, hx_ln_sL, hx_I_sL, hx_L_sL, hx_R_sL, hx_nx_sR, hx_ce_sR, hx_sl_sR, hx_kd_sR, hx_ln_sR, hx_I_sR, hx_L_sR, hx_R_sR, hx_nx_al, hx_ce_al, hx_sl_al, hx_kd_al, hx_ln_al, hx_I_al, hx_L_al, hx_R_al, hx_nx_row, hx_ce_row, hx_sl_row, hx_kd_row, hx_ln_row, hx_I_row, hx_L_row, hx_R_row, hx_nx_mk, hx_kd_mk, hx_ln_mk, hx_I_mk, hx_L_mk, hx_R_mk, am_wp, am_stp, am_en, am_as, am_pad, am_nth, am_set, am_st1, am_st2, am_kl, am_kill, am_mem, am_fv, am_tk, am_wt, am_bk, Option.toList, List.cons_append, List.nil_append, Nat.reduceAdd, Nat.reduceEqDiff, Nat.reduceLeDiff, reduceIte, Nat.reduceLT, or_self, true_or, or_true, if_true, if_false, and_self, and_true, true_and, not_false_eq_true, not_true_eq_false]
  obtain ⟨rfl, e1⟩ := q
  have e1' : h1 = nr_H h (am_I h 2 13) lv := e1
  clear e1
  have X1 := nr_lo (n := am_I h 2 13) (l := lv) hx
  rw [← e1'] at X1
  have nx1 : am_nx h1 = am_nx h + 2 := by rw [e1']; unfold nr_H; simp only [hx_nx_sI, hx_ce_sI, hx_sl_sI, hx_kd_sI, hx_ln_sI, hx_I_sI, hx_L_sI, hx_R_sI, hx_nx_sL, hx_ce_sL, hx_sl_sL, hx_kd_sL, hx_ln_sL, hx_I_sL, hx_L_sL, hx_R_sL, hx_nx_sR, hx_ce_sR, hx_sl_sR, hx_kd_sR, hx_ln_sR, hx_I_sR, hx_L_sR, hx_R_sR, hx_nx_al, hx_ce_al, hx_sl_al, hx_kd_al, hx_ln_al, hx_I_al, hx_L_al, hx_R_al, hx_nx_row, hx_ce_row, hx_sl_row, hx_kd_row, hx_ln_row, hx_I_row, hx_L_row, hx_R_row, hx_nx_mk, hx_kd_mk, hx_ln_mk, hx_I_mk, hx_L_mk, hx_R_mk]
  have ce1 : am_ce h1 = am_ce h + 2 := by rw [e1']; rfl
  have sl1 : am_sl h1 = am_sl h + 17 := by rw [e1']; rfl
  have q5 : am_kd h1 (am_nx h) = 5 := by rw [e1']; unfold nr_H; simp only [hx_nx_sI, hx_ce_sI, hx_sl_sI, hx_kd_sI, hx_ln_sI, hx_I_sI, hx_L_sI, hx_R_sI, hx_nx_sL, hx_ce_sL, hx_sl_sL, hx_kd_sL, hx_ln_sL, hx_I_sL, hx_L_sL, hx_R_sL, hx_nx_sR, hx_ce_sR, hx_sl_sR, hx_kd_sR, hx_ln_sR, hx_I_sR, hx_L_sR, hx_R_sR, hx_nx_al, hx_ce_al, hx_sl_al, hx_kd_al, hx_ln_al, hx_I_al, hx_L_al, hx_R_al, hx_nx_row, hx_ce_row, hx_sl_row, hx_kd_row, hx_ln_row, hx_I_row, hx_L_row, hx_R_row, hx_nx_mk, hx_kd_mk, hx_ln_mk, hx_I_mk, hx_L_mk, hx_R_mk, am_wp, am_stp, am_en, am_as, am_pad, am_nth, am_set, am_st1, am_st2, am_kl, am_kill, am_mem, am_fv, am_tk, am_wt, am_bk, Option.toList, List.cons_append, List.nil_append, Nat.reduceAdd, Nat.reduceEqDiff, Nat.reduceLeDiff, reduceIte, Nat.reduceLT, or_self, true_or, or_true, if_true, if_false, and_self, and_true, true_and, not_false_eq_true, not_true_eq_false]; simp
  have q2 : am_R h1 (am_nx h) 2 = am_nx h + 1 := by rw [e1']; unfold nr_H; simp only [hx_nx_sI, hx_ce_sI, hx_sl_sI, hx_kd_sI, hx_ln_sI, hx_I_sI, hx_L_sI, hx_R_sI, hx_nx_sL, hx_ce_sL, hx_sl_sL, hx_kd_sL, hx_ln_sL, hx_I_sL, hx_L_sL, hx_R_sL, hx_nx_sR, hx_ce_sR, hx_sl_sR, hx_kd_sR, hx_ln_sR, hx_I_sR, hx_L_sR, hx_R_sR, hx_nx_al, hx_ce_al, hx_sl_al, hx_kd_al, hx_ln_al, hx_I_al, hx_L_al, hx_R_al, hx_nx_row, hx_ce_row, hx_sl_row, hx_kd_row, hx_ln_row, hx_I_row, hx_L_row, hx_R_row, hx_nx_mk, hx_kd_mk, hx_ln_mk, hx_I_mk, hx_L_mk, hx_R_mk, am_wp, am_stp, am_en, am_as, am_pad, am_nth, am_set, am_st1, am_st2, am_kl, am_kill, am_mem, am_fv, am_tk, am_wt, am_bk, Option.toList, List.cons_append, List.nil_append, Nat.reduceAdd, Nat.reduceEqDiff, Nat.reduceLeDiff, reduceIte, Nat.reduceLT, or_self, true_or, or_true, if_true, if_false, and_self, and_true, true_and, not_false_eq_true, not_true_eq_false]
  have q101 : am_kd h1 (am_nx h + 1) = 101 := by rw [e1']; unfold nr_H; simp only [hx_nx_sI, hx_ce_sI, hx_sl_sI, hx_kd_sI, hx_ln_sI, hx_I_sI, hx_L_sI, hx_R_sI, hx_nx_sL, hx_ce_sL, hx_sl_sL, hx_kd_sL, hx_ln_sL, hx_I_sL, hx_L_sL, hx_R_sL, hx_nx_sR, hx_ce_sR, hx_sl_sR, hx_kd_sR, hx_ln_sR, hx_I_sR, hx_L_sR, hx_R_sR, hx_nx_al, hx_ce_al, hx_sl_al, hx_kd_al, hx_ln_al, hx_I_al, hx_L_al, hx_R_al, hx_nx_row, hx_ce_row, hx_sl_row, hx_kd_row, hx_ln_row, hx_I_row, hx_L_row, hx_R_row, hx_nx_mk, hx_kd_mk, hx_ln_mk, hx_I_mk, hx_L_mk, hx_R_mk, am_wp, am_stp, am_en, am_as, am_pad, am_nth, am_set, am_st1, am_st2, am_kl, am_kill, am_mem, am_fv, am_tk, am_wt, am_bk, Option.toList, List.cons_append, List.nil_append, Nat.reduceAdd, Nat.reduceEqDiff, Nat.reduceLeDiff, reduceIte, Nat.reduceLT, or_self, true_or, or_true, if_true, if_false, and_self, and_true, true_and, not_false_eq_true, not_true_eq_false]
  have q8 : am_ln h1 (am_nx h + 1) = 8 := by rw [e1']; unfold nr_H; simp only [hx_nx_sI, hx_ce_sI, hx_sl_sI, hx_kd_sI, hx_ln_sI, hx_I_sI, hx_L_sI, hx_R_sI, hx_nx_sL, hx_ce_sL, hx_sl_sL, hx_kd_sL, hx_ln_sL, hx_I_sL, hx_L_sL, hx_R_sL, hx_nx_sR, hx_ce_sR, hx_sl_sR, hx_kd_sR, hx_ln_sR, hx_I_sR, hx_L_sR, hx_R_sR, hx_nx_al, hx_ce_al, hx_sl_al, hx_kd_al, hx_ln_al, hx_I_al, hx_L_al, hx_R_al, hx_nx_row, hx_ce_row, hx_sl_row, hx_kd_row, hx_ln_row, hx_I_row, hx_L_row, hx_R_row, hx_nx_mk, hx_kd_mk, hx_ln_mk, hx_I_mk, hx_L_mk, hx_R_mk, am_wp, am_stp, am_en, am_as, am_pad, am_nth, am_set, am_st1, am_st2, am_kl, am_kill, am_mem, am_fv, am_tk, am_wt, am_bk, Option.toList, List.cons_append, List.nil_append, Nat.reduceAdd, Nat.reduceEqDiff, Nat.reduceLeDiff, reduceIte, Nat.reduceLT, or_self, true_or, or_true, if_true, if_false, and_self, and_true, true_and, not_false_eq_true, not_true_eq_false]
  have i1 : am_I h1 (am_nx h) 1 = lv := by rw [e1']; unfold nr_H; simp only [hx_nx_sI, hx_ce_sI, hx_sl_sI, hx_kd_sI, hx_ln_sI, hx_I_sI, hx_L_sI, hx_R_sI, hx_nx_sL, hx_ce_sL, hx_sl_sL, hx_kd_sL, hx_ln_sL, hx_I_sL, hx_L_sL, hx_R_sL, hx_nx_sR, hx_ce_sR, hx_sl_sR, hx_kd_sR, hx_ln_sR, hx_I_sR, hx_L_sR, hx_R_sR, hx_nx_al, hx_ce_al, hx_sl_al, hx_kd_al, hx_ln_al, hx_I_al, hx_L_al, hx_R_al, hx_nx_row, hx_ce_row, hx_sl_row, hx_kd_row, hx_ln_row, hx_I_row, hx_L_row, hx_R_row, hx_nx_mk, hx_kd_mk, hx_ln_mk, hx_I_mk, hx_L_mk, hx_R_mk, am_wp, am_stp, am_en, am_as, am_pad, am_nth, am_set, am_st1, am_st2, am_kl, am_kill, am_mem, am_fv, am_tk, am_wt, am_bk, Option.toList, List.cons_append, List.nil_append, Nat.reduceAdd, Nat.reduceEqDiff, Nat.reduceLeDiff, reduceIte, Nat.reduceLT, or_self, true_or, or_true, if_true, if_false, and_self, and_true, true_and, not_false_eq_true, not_true_eq_false]
  have i8 : am_I h1 (am_nx h) 8 = 0 := by rw [e1']; unfold nr_H; simp only [hx_nx_sI, hx_ce_sI, hx_sl_sI, hx_kd_sI, hx_ln_sI, hx_I_sI, hx_L_sI, hx_R_sI, hx_nx_sL, hx_ce_sL, hx_sl_sL, hx_kd_sL, hx_ln_sL, hx_I_sL, hx_L_sL, hx_R_sL, hx_nx_sR, hx_ce_sR, hx_sl_sR, hx_kd_sR, hx_ln_sR, hx_I_sR, hx_L_sR, hx_R_sR, hx_nx_al, hx_ce_al, hx_sl_al, hx_kd_al, hx_ln_al, hx_I_al, hx_L_al, hx_R_al, hx_nx_row, hx_ce_row, hx_sl_row, hx_kd_row, hx_ln_row, hx_I_row, hx_L_row, hx_R_row, hx_nx_mk, hx_kd_mk, hx_ln_mk, hx_I_mk, hx_L_mk, hx_R_mk, am_wp, am_stp, am_en, am_as, am_pad, am_nth, am_set, am_st1, am_st2, am_kl, am_kill, am_mem, am_fv, am_tk, am_wt, am_bk, Option.toList, List.cons_append, List.nil_append, Nat.reduceAdd, Nat.reduceEqDiff, Nat.reduceLeDiff, reduceIte, Nat.reduceLT, or_self, true_or, or_true, if_true, if_false, and_self, and_true, true_and, not_false_eq_true, not_true_eq_false]; simp
  have i4 : am_I h1 (am_nx h) 4 = 0 := by rw [e1']; unfold nr_H; simp only [hx_nx_sI, hx_ce_sI, hx_sl_sI, hx_kd_sI, hx_ln_sI, hx_I_sI, hx_L_sI, hx_R_sI, hx_nx_sL, hx_ce_sL, hx_sl_sL, hx_kd_sL, hx_ln_sL, hx_I_sL, hx_L_sL, hx_R_sL, hx_nx_sR, hx_ce_sR, hx_sl_sR, hx_kd_sR, hx_ln_sR, hx_I_sR, hx_L_sR, hx_R_sR, hx_nx_al, hx_ce_al, hx_sl_al, hx_kd_al, hx_ln_al, hx_I_al, hx_L_al, hx_R_al, hx_nx_row, hx_ce_row, hx_sl_row, hx_kd_row, hx_ln_row, hx_I_row, hx_L_row, hx_R_row, hx_nx_mk, hx_kd_mk, hx_ln_mk, hx_I_mk, hx_L_mk, hx_R_mk, am_wp, am_stp, am_en, am_as, am_pad, am_nth, am_set, am_st1, am_st2, am_kl, am_kill, am_mem, am_fv, am_tk, am_wt, am_bk, Option.toList, List.cons_append, List.nil_append, Nat.reduceAdd, Nat.reduceEqDiff, Nat.reduceLeDiff, reduceIte, Nat.reduceLT, or_self, true_or, or_true, if_true, if_false, and_self, and_true, true_and, not_false_eq_true, not_true_eq_false]; simp
  clear e1'
  have E1 : lo_E h h1 := fun x hx' => X1 x (by omega)
  have K1 := E1.sk hK
  obtain ⟨⟨k2', r0', r1', rr2', r3', r5', r8'⟩, S1, P1, Sp1, B1, N1, i185', i215'⟩ := id K1
  simp only [am_wp, am_stp, am_en, am_as, am_pad, am_nth, am_set, am_st1, am_st2, am_kl, am_kill, am_mem, am_fv, am_tk, am_wt, am_bk, Option.toList, List.cons_append, List.nil_append, Nat.reduceAdd, Nat.reduceEqDiff, Nat.reduceLeDiff, reduceIte, Nat.reduceLT, or_self, true_or, or_true, if_true, if_false, and_self, and_true, true_and, not_false_eq_true, not_true_eq_false]
  refine am_go [] 11 ?_
  simp only [am_wp, am_stp, am_en, am_as, am_pad, am_nth, am_set, am_st1, am_st2, am_kl, am_kill, am_mem, am_fv, am_tk, am_wt, am_bk, Option.toList, List.cons_append, List.nil_append, Nat.reduceAdd, Nat.reduceEqDiff, Nat.reduceLeDiff, reduceIte, Nat.reduceLT, or_self, true_or, or_true, if_true, if_false, and_self, and_true, true_and, not_false_eq_true, not_true_eq_false, fd_SR_writeRun_12, fd_SR_writeRun_13, fd_SR_writeRun_14, fd_SR_writeRun_15, fd_SR_writeRun_18, fd_SR_writeRun_19, fd_SR_writeRun_20, fd_SR_writeRun_23, fd_SR_writeRun_24, fd_SR_writeRun_27, fd_SR_writeRun_28, hx_nx_sI, hx_ce_sI, hx_sl_sI, hx_kd_sI, hx_ln_sI, hx_I_sI, hx_L_sI, hx_R_sI, hx_nx_sL, hx_ce_sL, hx_sl_sL, hx_kd_sL, hx_ln_sL, hx_I_sL, hx_L_sL, hx_R_sL, hx_nx_sR, hx_ce_sR, hx_sl_sR, hx_kd_sR, hx_ln_sR, hx_I_sR, hx_L_sR, hx_R_sR, hx_nx_al, hx_ce_al, hx_sl_al, hx_kd_al, hx_ln_al, hx_I_al, hx_L_al, hx_R_al, hx_nx_row, hx_ce_row, hx_sl_row, hx_kd_row, hx_ln_row, hx_I_row, hx_L_row, hx_R_row, hx_nx_mk, hx_kd_mk, hx_ln_mk, hx_I_mk, hx_L_mk, hx_R_mk, k2', r1', Sp1.1]
  have F2 : am_fi [2] h1 (am_sI h1 2 13 (am_I h1 2 13 + 1)) := am_fi.refl.sI (by simp)
  have j2 : ∀ j, j ≠ 13 → am_I (am_sI h1 2 13 (am_I h1 2 13 + 1)) 2 j = am_I h1 2 j := fun j hj => by simp only [hx_nx_sI, hx_ce_sI, hx_sl_sI, hx_kd_sI, hx_ln_sI, hx_I_sI, hx_L_sI, hx_R_sI, hx_nx_sL, hx_ce_sL, hx_sl_sL, hx_kd_sL, hx_ln_sL, hx_I_sL, hx_L_sL, hx_R_sL, hx_nx_sR, hx_ce_sR, hx_sl_sR, hx_kd_sR, hx_ln_sR, hx_I_sR, hx_L_sR, hx_R_sR, hx_nx_al, hx_ce_al, hx_sl_al, hx_kd_al, hx_ln_al, hx_I_al, hx_L_al, hx_R_al, hx_nx_row, hx_ce_row, hx_sl_row, hx_kd_row, hx_ln_row, hx_I_row, hx_L_row, hx_R_row, hx_nx_mk, hx_kd_mk, hx_ln_mk, hx_I_mk, hx_L_mk, hx_R_mk, am_wp, am_stp, am_en, am_as, am_pad, am_nth, am_set, am_st1, am_st2, am_kl, am_kill, am_mem, am_fv, am_tk, am_wt, am_bk, Option.toList, List.cons_append, List.nil_append, Nat.reduceAdd, Nat.reduceEqDiff, Nat.reduceLeDiff, reduceIte, Nat.reduceLT, or_self, true_or, or_true, if_true, if_false, and_self, and_true, true_and, not_false_eq_true, not_true_eq_false, hj]
  generalize am_sI h1 2 13 (am_I h1 2 13 + 1) = h2 at F2 j2 ⊢
  have K2 : sk_K P h2 := K1.mv F2 (congrFun (F2.2.2.2.2.2.2.1 18 (by simp)) 0) (congrFun (F2.2.2.2.2.2.2.1 18 (by simp)) 5) (congrFun (F2.2.2.2.2.2.2.1 21 (by simp)) 0) (j2 15 (by decide))
  obtain ⟨⟨k2s, r0s, r1s, rr2s, r3s, r5s, r8s⟩, S2, P2, Sp2, B2, N2, i185s, i215s⟩ := id K2
  have I22 : am_I h2 22 = am_I h 22 := (F2.2.2.2.2.2.2.1 22 (by simp)).trans (E1 22 (by decide)).2.2.1
  obtain ⟨e, L', hL⟩ : ∃ e L', ou old (ins.map (·.2)) = e :: L' := by
    cases hq : ou old (ins.map (·.2)) with
    | nil => exact absurd hq hne
    | cons e L' => exact ⟨e, L', rfl⟩
  have hnp : npg (ou old (ins.map (·.2))) = np 5 none (ou old (ins.map (·.2))) + 1 := by
    rw [hL]
    unfold npg
    rw [np_121, np, if_pos (show 5 + es (sh1 none e.1) e ≤ 120 from by have := es_le 0 e; show 5 + es 0 e ≤ 120; omega)]
    rfl
  have f2 : fz (am_I h 22) 2 = 0 := by
    have := fz_le (am_I h 22) 2
    omega
  obtain ⟨pg, t1, t2, t3, t4, t5⟩ := fz_least (f := am_I h 22) (m := 2) P (by omega) (by omega)
  refine am_call (l2_Sp_least (d := d + 4) (a := 2) (q := pg) Sp2 (by decide) t1 t2 (by rw [I22]; exact t4) (fun x x1 x2 => by rw [I22]; exact t5 x x1 x1 x2)) (fun o h3 q => ?_)
  obtain ⟨rfl, rfl⟩ := q
  have k5 : am_kd h3 (am_nx h) = 5 := by rw [F2.2.2.2.1]; exact q5
  simp only [am_wp, am_stp, am_en, am_as, am_pad, am_nth, am_set, am_st1, am_st2, am_kl, am_kill, am_mem, am_fv, am_tk, am_wt, am_bk, Option.toList, List.cons_append, List.nil_append, Nat.reduceAdd, Nat.reduceEqDiff, Nat.reduceLeDiff, reduceIte, Nat.reduceLT, or_self, true_or, or_true, if_true, if_false, and_self, and_true, true_and, not_false_eq_true, not_true_eq_false]
  refine am_go [] 9 ?_
  simp only [am_wp, am_stp, am_en, am_as, am_pad, am_nth, am_set, am_st1, am_st2, am_kl, am_kill, am_mem, am_fv, am_tk, am_wt, am_bk, Option.toList, List.cons_append, List.nil_append, Nat.reduceAdd, Nat.reduceEqDiff, Nat.reduceLeDiff, reduceIte, Nat.reduceLT, or_self, true_or, or_true, if_true, if_false, and_self, and_true, true_and, not_false_eq_true, not_true_eq_false, fd_SR_writeRun_31, fd_SR_writeRun_32, fd_SR_writeRun_33, fd_SR_writeRun_34, fd_SR_writeRun_37, fd_SR_writeRun_38, fd_SR_writeRun_41, fd_SR_writeRun_42, fd_SR_writeRun_45, hx_nx_sI, hx_ce_sI, hx_sl_sI, hx_kd_sI, hx_ln_sI, hx_I_sI, hx_L_sI, hx_R_sI, hx_nx_sL, hx_ce_sL, hx_sl_sL, hx_kd_sL, hx_ln_sL, hx_I_sL, hx_L_sL, hx_R_sL, hx_nx_sR, hx_ce_sR, hx_sl_sR, hx_kd_sR, hx_ln_sR, hx_I_sR, hx_L_sR, hx_R_sR, hx_nx_al, hx_ce_al, hx_sl_al, hx_kd_al, hx_ln_al, hx_I_al, hx_L_al, hx_R_al, hx_nx_row, hx_ce_row, hx_sl_row, hx_kd_row, hx_ln_row, hx_I_row, hx_L_row, hx_R_row, hx_nx_mk, hx_kd_mk, hx_ln_mk, hx_I_mk, hx_L_mk, hx_R_mk, k5, k2s, r8s, S2.1]
  have F3 : am_fi [am_nx h] h3 (am_sI h3 (am_nx h) 3 (nI pg)) := am_fi.refl.sI (by simp)
  have j3 : am_I (am_sI h3 (am_nx h) 3 (nI pg)) (am_nx h) 3 = nI pg := by simp only [hx_nx_sI, hx_ce_sI, hx_sl_sI, hx_kd_sI, hx_ln_sI, hx_I_sI, hx_L_sI, hx_R_sI, hx_nx_sL, hx_ce_sL, hx_sl_sL, hx_kd_sL, hx_ln_sL, hx_I_sL, hx_L_sL, hx_R_sL, hx_nx_sR, hx_ce_sR, hx_sl_sR, hx_kd_sR, hx_ln_sR, hx_I_sR, hx_L_sR, hx_R_sR, hx_nx_al, hx_ce_al, hx_sl_al, hx_kd_al, hx_ln_al, hx_I_al, hx_L_al, hx_R_al, hx_nx_row, hx_ce_row, hx_sl_row, hx_kd_row, hx_ln_row, hx_I_row, hx_L_row, hx_R_row, hx_nx_mk, hx_kd_mk, hx_ln_mk, hx_I_mk, hx_L_mk, hx_R_mk, am_wp, am_stp, am_en, am_as, am_pad, am_nth, am_set, am_st1, am_st2, am_kl, am_kill, am_mem, am_fv, am_tk, am_wt, am_bk, Option.toList, List.cons_append, List.nil_append, Nat.reduceAdd, Nat.reduceEqDiff, Nat.reduceLeDiff, reduceIte, Nat.reduceLT, or_self, true_or, or_true, if_true, if_false, and_self, and_true, true_and, not_false_eq_true, not_true_eq_false]
  have j3' : ∀ j, j ≠ 3 → am_I (am_sI h3 (am_nx h) 3 (nI pg)) (am_nx h) j = am_I h1 (am_nx h) j := fun j hj => by
    rw [← F2.2.2.2.2.2.2.1 (am_nx h) (by simp; omega)]
    simp only [hx_nx_sI, hx_ce_sI, hx_sl_sI, hx_kd_sI, hx_ln_sI, hx_I_sI, hx_L_sI, hx_R_sI, hx_nx_sL, hx_ce_sL, hx_sl_sL, hx_kd_sL, hx_ln_sL, hx_I_sL, hx_L_sL, hx_R_sL, hx_nx_sR, hx_ce_sR, hx_sl_sR, hx_kd_sR, hx_ln_sR, hx_I_sR, hx_L_sR, hx_R_sR, hx_nx_al, hx_ce_al, hx_sl_al, hx_kd_al, hx_ln_al, hx_I_al, hx_L_al, hx_R_al, hx_nx_row, hx_ce_row, hx_sl_row, hx_kd_row, hx_ln_row, hx_I_row, hx_L_row, hx_R_row, hx_nx_mk, hx_kd_mk, hx_ln_mk, hx_I_mk, hx_L_mk, hx_R_mk, am_wp, am_stp, am_en, am_as, am_pad, am_nth, am_set, am_st1, am_st2, am_kl, am_kill, am_mem, am_fv, am_tk, am_wt, am_bk, Option.toList, List.cons_append, List.nil_append, Nat.reduceAdd, Nat.reduceEqDiff, Nat.reduceLeDiff, reduceIte, Nat.reduceLT, or_self, true_or, or_true, if_true, if_false, and_self, and_true, true_and, not_false_eq_true, not_true_eq_false, hj]
  generalize am_sI h3 (am_nx h) 3 (nI pg) = h4 at F3 j3 j3' ⊢
  have K4 : sk_K P h4 := K2.fi F3 (by simp; omega)
  refine am_call (l2_beginPage (d := d + 2) K4.2.1) (fun o h5 q => ?_)
  obtain ⟨rfl, F5, U5, L5⟩ := q
  simp only [am_wp, am_stp, am_en, am_as, am_pad, am_nth, am_set, am_st1, am_st2, am_kl, am_kill, am_mem, am_fv, am_tk, am_wt, am_bk, Option.toList, List.cons_append, List.nil_append, Nat.reduceAdd, Nat.reduceEqDiff, Nat.reduceLeDiff, reduceIte, Nat.reduceLT, or_self, true_or, or_true, if_true, if_false, and_self, and_true, true_and, not_false_eq_true, not_true_eq_false]
  refine am_go [51] 2 ?_
  simp only [am_wp, am_stp, am_en, am_as, am_pad, am_nth, am_set, am_st1, am_st2, am_kl, am_kill, am_mem, am_fv, am_tk, am_wt, am_bk, Option.toList, List.cons_append, List.nil_append, Nat.reduceAdd, Nat.reduceEqDiff, Nat.reduceLeDiff, reduceIte, Nat.reduceLT, or_self, true_or, or_true, if_true, if_false, and_self, and_true, true_and, not_false_eq_true, not_true_eq_false, fd_SR_writeRun_48, fd_SR_writeRun_49]
  have F15 : am_fi [2, 14, 15, am_nx h] h1 h5 := ((F2.sub (by simp)).trans (F3.sub (by simp))).trans (F5.sub (by simp))
  have K5 : sk_K P h5 := K4.fi F5 (by decide)
  have lo : ∀ x, x < am_nx h → x ∉ [2, 14, 15] → am_I h5 x = am_I h x ∧ am_L h5 x = am_L h x := fun x x1 x2 => by
    have x3 : x ∉ [2, 14, 15, am_nx h] := by simp at x2 ⊢; omega
    exact ⟨(F15.2.2.2.2.2.2.1 x x3).trans (X1 x x1).2.2.1, (F15.2.2.2.2.2.2.2 x x3).trans (X1 x x1).2.2.2.1⟩
  have B5 : bl_S P h5 ins := (E1.bl hB).lo F15 (by simp; omega)
  have fr5 : fr_P h h5 [] := fr_P.of (lo 20 (by omega) (by simp)).1 (lo 22 (by omega) (by simp)).1 (lo 23 (by omega) (by simp)).1 (lo 24 (by omega) (by simp)).2 (lo 19 (by omega) (by simp)).1
  have I22' : am_I h5 22 = am_I h 22 := (lo 22 (by omega) (by simp)).1
  have I21' : am_I h5 21 = am_I h 21 := (lo 21 (by omega) (by simp)).1
  have ia : am_I h5 (am_nx h) = am_I h4 (am_nx h) := F5.2.2.2.2.2.2.1 (am_nx h) (by simp; omega)
  refine l2_writeRun_loop (a := am_nx h) (b := am_nx h + 1) (full := ou old (ins.map (·.2))) (old := old) hx (by omega) (by rw [F15.2.2.2.1]; exact q5) (by rw [F15.2.2.2.2.2.1]; exact q2) (by rw [F15.2.2.2.1]; exact q101) (by rw [F15.2.2.2.2.1]; exact q8) hne (fun g ps Z => ?_) (tot ins) 0 ins h5 am_j [] [] 5 none pg (Nat.le_refl _) (by omega) ⟨am_fi.refl, K5, ⟨B5, by rw [(lo 25 (by omega) (by simp)).1]; exact h7, hO⟩, ⟨U5, rfl, rfl, by simp, by simp⟩, ⟨fun j _ _ => rfl, ?_⟩, ⟨trivial, by simp, by simp, fr_P.refl, fun q hq => ?_⟩, ⟨t3, t2, by rw [I22']; exact t4, fun q x1 x2 => by rw [I22']; exact t5 q x1 x1 x2, rfl, by rw [I22', I21']; exact h21, by rw [I22']; omega⟩, by simp [ch_E], by simp; omega⟩ (fun _ => rfl)
  · obtain ⟨z1, z2, z3, z4, z5, z6, z7, z8, z9, z10, z11⟩ := Z
    refine ⟨rfl, ps, ⟨?_, ?_, ?_⟩, fun x x1 x2 => ?_, fun j hj => ?_, ?_, z2, ⟨?_, ?_, ?_, z3.2, fun q hq => ?_⟩, z4, fun q hq => ?_, z6, ?_, ⟨?_, z9.2⟩, z10, z11⟩
    · rw [z1.1, F15.1, nx1]
    · rw [z1.2.1, F15.2.1, ce1]
    · rw [z1.2.2.1, F15.2.2.1, sl1]
    · obtain ⟨y1, y2, y3, y4, y5⟩ := X1 x x1
      have x3 : x ∉ [2, 14, 15, am_nx h] := by
        unfold wr_w at x2
        simp at x2 ⊢
        omega
      have x4 : x ∉ am_nx h :: (am_nx h + 1) :: wr_w := by
        simp at x2 ⊢
        exact ⟨by omega, by omega, x2.2⟩
      refine ⟨?_, ?_, ?_, ?_, ?_⟩
      · rw [z1.2.2.2.1, F15.2.2.2.1]; exact y1
      · rw [z1.2.2.2.2.1, F15.2.2.2.2.1]; exact y2
      · rw [z1.2.2.2.2.2.2.1 x x4, F15.2.2.2.2.2.2.1 x x3]; exact y3
      · rw [z1.2.2.2.2.2.2.2 x x4, F15.2.2.2.2.2.2.2 x x3]; exact y4
      · rw [z1.2.2.2.2.2.1, F15.2.2.2.2.2.1]; exact y5
    · have g2 : am_I g 2 = am_I h5 2 := z1.2.2.2.2.2.2.1 2 (by unfold wr_w; simp; omega)
      rw [g2, F5.2.2.2.2.2.2.1 2 (by simp), F3.2.2.2.2.2.2.1 2 (by simp; omega), j2 j hj, (X1 2 (by omega)).2.2.1]
    · rw [z1.2.2.2.2.2.1, F15.2.2.2.2.2.1]; exact (X1 2 (by omega)).2.2.2.2
    · rw [z1.2.2.2.1, F15.2.2.2.1]; exact q5
    · rw [z3.1 1 (by decide) (by decide), ia, j3' 1 (by decide)]; exact i1
    · rw [z3.1 8 (by decide) (by decide), ia, j3' 8 (by decide)]; exact i8
    · rw [z3.1 3 (by decide) (by decide)]; exact z8 q hq
    · obtain ⟨y1, y2, y3⟩ := z5 q hq
      exact ⟨y1, by rw [← I22']; exact y2, y3⟩
    · have := fr5.trans z7
      simpa using this
    · rw [← I22']; exact z9.1
  · rw [ia, j3' 4 (by decide)]; exact i4
  · have : pg = q := by simpa using hq
    rw [← this, ia]
    exact j3
