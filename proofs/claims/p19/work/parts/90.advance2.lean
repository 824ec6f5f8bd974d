-- needs: 89.advance 04.fd
/-! THE BLEND: advance, addTable, addRun -/
/-- what the blend gives -/
def ou (old : Bool) (Ls : List (List ent)) : List ent := if old = true then rp (bm Ls) else bm Ls
/-- how many entries there are at most -/
def tot (ins : List (Nat × List ent)) : Nat := (ins.map (fun x => x.2.length)).sum
theorem dm_len (m : Int64) (L : List ent) : (dm m L).length ≤ L.length := by
  cases L with
  | nil => simp [dm]
  | cons e L => simp only [dm]; split <;> simp
theorem tot_dm {m : Int64} : ∀ {ins : List (Nat × List ent)}, tot (ins.map (fun y => (y.1, dm m y.2))) ≤ tot ins ∧ ((ins.map (·.2)).any (hm m) = true → tot (ins.map (fun y => (y.1, dm m y.2))) < tot ins)
  | [] => ⟨Nat.le_refl _, fun h => by simp at h⟩
  | y :: ins => by
    have ih := tot_dm (m := m) (ins := ins)
    have l1 := dm_len m y.2
    simp only [tot, List.map_cons, List.sum_cons, List.any_cons, Bool.or_eq_true] at ih ⊢
    refine ⟨by omega, fun h => ?_⟩
    rcases h with h | h
    · have : (dm m y.2).length < y.2.length := by
        cases h2 : y.2 with
        | nil => rw [h2] at h; simp [hm] at h
        | cons e L =>
          rw [h2] at h
          have : e.1 = m := by simpa [hm] using h
          simp [dm, this]
      omega
    · have := ih.2 h
      omega
theorem dm_ok {m : Int64} {L : List ent} (h : so L ∧ ∀ x ∈ L, eo x) : so (dm m L) ∧ ∀ x ∈ dm m L, eo x := by
  cases L with
  | nil => exact h
  | cons e L =>
    simp only [dm]
    split
    · exact ⟨h.1.2, fun x hx => h.2 x (by simp [hx])⟩
    · exact h
theorem bm_all {Ls : List (List ent)} (h : ∀ L ∈ Ls, so L ∧ ∀ x ∈ L, eo x) : so (bm Ls) ∧ ∀ x ∈ bm Ls, eo x := by
  have go : ∀ (Ls : List (List ent)) (A : List ent), (so A ∧ ∀ x ∈ A, eo x) → (∀ L ∈ Ls, so L ∧ ∀ x ∈ L, eo x) → so (Ls.foldl mg A) ∧ ∀ x ∈ Ls.foldl mg A, eo x := by
    intro Ls
    induction Ls with
    | nil => intro A hA _; exact hA
    | cons L Ls ih =>
      intro A hA hL
      have l := hL L (by simp)
      exact ih (mg A L) ⟨mg_so _ A L (Nat.le_refl _) hA.1 l.1, mg_eo _ A L (Nat.le_refl _) hA.2 l.2⟩ (fun M hM => hL M (by simp [hM]))
  exact go Ls [] ⟨trivial, by simp⟩ h
theorem l2_advance_loop {d P : Nat} {old : Bool} {Q : am_O → am_H → Prop} : ∀ (n i : Nat) (ins : List (Nat × List ent)) (h : am_H) (w1 w2 : Value), tot ins ≤ n → i + n < 1000000 → cl_Pg P h → cl_Sp P h → bl_S P h ins → am_I h 25 7 = (if old = true then 1 else 0) → (∀ x ∈ ins, so x.2 ∧ ∀ e ∈ x.2, eo e) →
    (ou old (ins.map (·.2)) = [] → ∀ g, am_fi bl_w h g → Q (.inl (some (.int 0))) g) →
    (∀ e ins' g, ou old (ins.map (·.2)) = e :: ou old (ins'.map (·.2)) → tot ins' < tot ins → am_fi bl_w h g → bl_S P g ins' → am_I g 25 7 = (if old = true then 1 else 0) → (∀ x ∈ ins', so x.2 ∧ ∀ e ∈ x.2, eo e) → am_L g 25 1 = e.1 → am_I g 26 0 = e.2.1 → am_L g 26 1 = e.2.2 → eo e → Q (.inl (some (.int 1))) g) →
    am_Ex nm_pr (d + 3) mt_Blend_advance (2, [.ref 25, .int (nI i), w1, w2], [], h) Q
  | n, i, ins, h, w1, w2, hn, hi, hP, hSp, hB, ho, hO, hx0, hx1 => by
    have hK := hB.1
    have li : nI i < 1000000 := nI_lt (b := 1000000) (by omega) (by decide)
    have one0 : ¬ (1 : Int32) = 0 := by decide
    refine am_go [8, 121] 3 ?_
    simp only [am_wp, am_stp, am_en, am_as, am_pad, am_nth, am_set, am_st1, am_st2, am_kl, am_kill, am_mem, am_fv, am_tk, am_wt, am_bk, Option.toList, List.cons_append, List.nil_append, Nat.reduceAdd, Nat.reduceEqDiff, Nat.reduceLeDiff, reduceIte, Nat.reduceLT, or_self, true_or, or_true, if_true, if_false, and_self, and_true, true_and, not_false_eq_true, not_true_eq_false, fd_Blend_advance_2, fd_Blend_advance_3, fd_Blend_advance_5, li]
    refine am_go [] 2 ?_
    simp only [am_wp, am_stp, am_en, am_as, am_pad, am_nth, am_set, am_st1, am_st2, am_kl, am_kill, am_mem, am_fv, am_tk, am_wt, am_bk, Option.toList, List.cons_append, List.nil_append, Nat.reduceAdd, Nat.reduceEqDiff, Nat.reduceLeDiff, reduceIte, Nat.reduceLT, or_self, true_or, or_true, if_true, if_false, and_self, and_true, true_and, not_false_eq_true, not_true_eq_false, fd_Blend_advance_8, fd_Blend_advance_9, hK.1]
    refine am_call (l2_findLeast (d := d + 2) hB) (fun o g q => ?_)
    obtain ⟨r, rfl, hlo, F, FI, hr⟩ := q
    simp only [am_wp, am_stp, am_en, am_as, am_pad, am_nth, am_set, am_st1, am_st2, am_kl, am_kill, am_mem, am_fv, am_tk, am_wt, am_bk, Option.toList, List.cons_append, List.nil_append, Nat.reduceAdd, Nat.reduceEqDiff, Nat.reduceLeDiff, reduceIte, Nat.reduceLT, or_self, true_or, or_true, if_true, if_false, and_self, and_true, true_and, not_false_eq_true, not_true_eq_false]
    cases r with
    | none =>
      have a01 : (0 : Int32) = 0 ∨ (0 : Int32) = 1 := by decide
      refine am_go [15] 4 ?_
      simp only [am_wp, am_stp, am_en, am_as, am_pad, am_nth, am_set, am_st1, am_st2, am_kl, am_kill, am_mem, am_fv, am_tk, am_wt, am_bk, Option.toList, List.cons_append, List.nil_append, Nat.reduceAdd, Nat.reduceEqDiff, Nat.reduceLeDiff, reduceIte, Nat.reduceLT, or_self, true_or, or_true, if_true, if_false, and_self, and_true, true_and, not_false_eq_true, not_true_eq_false, fd_Blend_advance_12, fd_Blend_advance_121, fd_Blend_advance_122, Option.isSome, Bool.false_eq_true, a01]
      refine hx0 ?_ g (F.sub (by simp [bl_w]))
      have : bm (ins.map (·.2)) = [] := bm_nil hlo
      unfold ou
      rw [this]
      split <;> rfl
    | some m =>
      have hm1 := hr m rfl
      refine am_go [15, 121] 1 ?_
      simp only [am_wp, am_stp, am_en, am_as, am_pad, am_nth, am_set, am_st1, am_st2, am_kl, am_kill, am_mem, am_fv, am_tk, am_wt, am_bk, Option.toList, List.cons_append, List.nil_append, Nat.reduceAdd, Nat.reduceEqDiff, Nat.reduceLeDiff, reduceIte, Nat.reduceLT, or_self, true_or, or_true, if_true, if_false, and_self, and_true, true_and, not_false_eq_true, not_true_eq_false, fd_Blend_advance_12, Option.isSome, one0]
      have hK' := hK.fi F
      refine am_go [] 5 ?_
      simp only [am_wp, am_stp, am_en, am_as, am_pad, am_nth, am_set, am_st1, am_st2, am_kl, am_kill, am_mem, am_fv, am_tk, am_wt, am_bk, Option.toList, List.cons_append, List.nil_append, Nat.reduceAdd, Nat.reduceEqDiff, Nat.reduceLeDiff, reduceIte, Nat.reduceLT, or_self, true_or, or_true, if_true, if_false, and_self, and_true, true_and, not_false_eq_true, not_true_eq_false, fd_Blend_advance_15, fd_Blend_advance_16, fd_Blend_advance_19, fd_Blend_advance_20, fd_Blend_advance_21, hK'.1, hK'.2.1, hK'.2.2.1]
      refine am_call (l2_begin (d := d + 2) hK'.2.2.1) (fun o g1 q => ?_)
      obtain ⟨rfl, e1⟩ := q
      have F1 : am_fi [26] g g1 := by rw [e1]; exact (am_fi.refl.sI (by simp)).sL (by simp)
      have f0 : am_I g1 26 0 = 0 := by rw [e1]; simp only [hx_nx_sI, hx_ce_sI, hx_sl_sI, hx_kd_sI, hx_ln_sI, hx_I_sI, hx_L_sI, hx_R_sI, hx_nx_sL, hx_ce_sL, hx_sl_sL, hx_kd_sL, hx_ln_sL, hx_I_sL, hx_L_sL, hx_R_sL, hx_nx_sR, hx_ce_sR, hx_sl_sR, hx_kd_sR, hx_ln_sR, hx_I_sR, hx_L_sR, hx_R_sR, hx_nx_al, hx_ce_al, hx_sl_al, hx_kd_al, hx_ln_al, hx_I_al, hx_L_al, hx_R_al, hx_nx_row, hx_ce_row, hx_sl_row, hx_kd_row, hx_ln_row, hx_I_row, hx_L_row, hx_R_row, hx_nx_mk, hx_kd_mk, hx_ln_mk, hx_I_mk, hx_L_mk, hx_R_mk, am_wp, am_stp, am_en, am_as, am_pad, am_nth, am_set, am_st1, am_st2, am_kl, am_kill, am_mem, am_fv, am_tk, am_wt, am_bk, Option.toList, List.cons_append, List.nil_append, Nat.reduceAdd, Nat.reduceEqDiff, Nat.reduceLeDiff, reduceIte, Nat.reduceLT, or_self, true_or, or_true, if_true, if_false, and_self, and_true, true_and, not_false_eq_true, not_true_eq_false]
      have f1 : am_L g1 26 1 = 0 := by rw [e1]; simp only [hx_nx_sI, hx_ce_sI, hx_sl_sI, hx_kd_sI, hx_ln_sI, hx_I_sI, hx_L_sI, hx_R_sI, hx_nx_sL, hx_ce_sL, hx_sl_sL, hx_kd_sL, hx_ln_sL, hx_I_sL, hx_L_sL, hx_R_sL, hx_nx_sR, hx_ce_sR, hx_sl_sR, hx_kd_sR, hx_ln_sR, hx_I_sR, hx_L_sR, hx_R_sR, hx_nx_al, hx_ce_al, hx_sl_al, hx_kd_al, hx_ln_al, hx_I_al, hx_L_al, hx_R_al, hx_nx_row, hx_ce_row, hx_sl_row, hx_kd_row, hx_ln_row, hx_I_row, hx_L_row, hx_R_row, hx_nx_mk, hx_kd_mk, hx_ln_mk, hx_I_mk, hx_L_mk, hx_R_mk, am_wp, am_stp, am_en, am_as, am_pad, am_nth, am_set, am_st1, am_st2, am_kl, am_kill, am_mem, am_fv, am_tk, am_wt, am_bk, Option.toList, List.cons_append, List.nil_append, Nat.reduceAdd, Nat.reduceEqDiff, Nat.reduceLeDiff, reduceIte, Nat.reduceLT, or_self, true_or, or_true, if_true, if_false, and_self, and_true, true_and, not_false_eq_true, not_true_eq_false]
      clear e1
      have Fh : am_fi bl_w h g1 := (F.sub (by simp [bl_w])).trans (F1.sub (by simp [bl_w]))
      have I25 : am_I g1 25 = am_I h 25 := (F1.2.2.2.2.2.2.1 25 (by simp)).trans (congrFun FI 25)
      have L25 : am_L g1 25 1 = m := (congrFun (F1.2.2.2.2.2.2.2 25 (by simp)) 1).trans hm1
      have P1 := hP.fi Fh (by decide)
      have Sp1 := hSp.fi Fh (by decide)
      have B1 : bl_S P g1 ins := by
        obtain ⟨b1, b2, b3, b4, b5⟩ := hB
        refine ⟨b1.fi Fh, by rw [I25]; exact b2, b3, b4, fun s x hxs => ?_⟩
        obtain ⟨c1, c2⟩ := b5 s x hxs
        have c3 := c2.1
        exact ⟨by rw [Fh.2.2.2.2.2.1]; exact c1, (c2.fi F.fx (by simp; omega) (by simp)).fi F1.fx (by simp; omega) (by simp)⟩
      simp only [am_wp, am_stp, am_en, am_as, am_pad, am_nth, am_set, am_st1, am_st2, am_kl, am_kill, am_mem, am_fv, am_tk, am_wt, am_bk, Option.toList, List.cons_append, List.nil_append, Nat.reduceAdd, Nat.reduceEqDiff, Nat.reduceLeDiff, reduceIte, Nat.reduceLT, or_self, true_or, or_true, if_true, if_false, and_self, and_true, true_and, not_false_eq_true, not_true_eq_false]
      refine am_go [26] 2 ?_
      simp only [am_wp, am_stp, am_en, am_as, am_pad, am_nth, am_set, am_st1, am_st2, am_kl, am_kill, am_mem, am_fv, am_tk, am_wt, am_bk, Option.toList, List.cons_append, List.nil_append, Nat.reduceAdd, Nat.reduceEqDiff, Nat.reduceLeDiff, reduceIte, Nat.reduceLT, or_self, true_or, or_true, if_true, if_false, and_self, and_true, true_and, not_false_eq_true, not_true_eq_false, fd_Blend_advance_24, fd_Blend_advance_25]
      refine l2_advance_in (m := m) P1 Sp1 B1 L25 (fun g2 w S2 F2 I2 L2 f2 => ?_) ins [] g1 w2 (by simp) (by simpa using B1) am_fi.refl rfl L25 (by simp [f0, f1])
      have F3 := Fh.trans F2
      have I7 : am_I g2 25 7 = (if old = true then 1 else 0) := by rw [I2, I25]; exact ho
      have hstep := bm_step (m := m) (Ls := ins.map (·.2)) (fun L hL => by
        obtain ⟨x, hx, rfl⟩ := List.mem_map.mp hL
        exact ⟨(hO x hx).1, hlo.2 _ (List.mem_map_of_mem hx), (hO x hx).2⟩) hlo.1
      have hmm : (ins.map (·.2)).map (dm m) = (ins.map (fun y => (y.1, dm m y.2))).map (·.2) := by simp [Function.comp_def]
      rw [hmm, ← f2] at hstep
      dsimp only at hstep
      have hO' : ∀ x ∈ ins.map (fun y => (y.1, dm m y.2)), so x.2 ∧ ∀ e ∈ x.2, eo e := by
        intro x hx
        obtain ⟨y, hy, rfl⟩ := List.mem_map.mp hx
        exact dm_ok (hO y hy)
      have hlt := (tot_dm (m := m) (ins := ins)).2 hlo.1
      have hall := bm_all (Ls := ins.map (·.2)) (fun L hL => by
        obtain ⟨x, hx, rfl⟩ := List.mem_map.mp hL
        exact hO x hx)
      have heo : eo (m, am_I g2 26 0, am_L g2 26 1) := hall.2 _ (by rw [hstep]; simp)
      have hK2 := hK.fi F3
      generalize hins' : ins.map (fun y => (y.1, dm m y.2)) = ins' at *
      cases old with
      | false =>
        have I7' : am_I g2 25 7 = 0 := I7
        have a11 : (1 : Int32) = 0 ∨ (1 : Int32) = 1 := by decide
        refine am_go [94] 6 ?_
        simp only [am_wp, am_stp, am_en, am_as, am_pad, am_nth, am_set, am_st1, am_st2, am_kl, am_kill, am_mem, am_fv, am_tk, am_wt, am_bk, Option.toList, List.cons_append, List.nil_append, Nat.reduceAdd, Nat.reduceEqDiff, Nat.reduceLeDiff, reduceIte, Nat.reduceLT, or_self, true_or, or_true, if_true, if_false, and_self, and_true, true_and, not_false_eq_true, not_true_eq_false, fd_Blend_advance_85, fd_Blend_advance_86, fd_Blend_advance_89, fd_Blend_advance_92, fd_Blend_advance_93, hK2.1, I7', a11]
        exact hx1 (m, am_I g2 26 0, am_L g2 26 1) ins' g2 hstep hlt F3 S2 I7 hO' L2 rfl rfl heo
      | true =>
        have I7' : am_I g2 25 7 = 1 := I7
        have hou : ou true (ins.map (·.2)) = rp (bm (ins.map (·.2))) := rfl
        rw [hou, hstep] at hx0 hx1
        refine am_go [94, 92] 3 ?_
        simp only [am_wp, am_stp, am_en, am_as, am_pad, am_nth, am_set, am_st1, am_st2, am_kl, am_kill, am_mem, am_fv, am_tk, am_wt, am_bk, Option.toList, List.cons_append, List.nil_append, Nat.reduceAdd, Nat.reduceEqDiff, Nat.reduceLeDiff, reduceIte, Nat.reduceLT, or_self, true_or, or_true, if_true, if_false, and_self, and_true, true_and, not_false_eq_true, not_true_eq_false, fd_Blend_advance_85, fd_Blend_advance_86, fd_Blend_advance_89, hK2.1, I7', one0]
        refine am_go [105, 115] 5 ?_
        simp only [am_wp, am_stp, am_en, am_as, am_pad, am_nth, am_set, am_st1, am_st2, am_kl, am_kill, am_mem, am_fv, am_tk, am_wt, am_bk, Option.toList, List.cons_append, List.nil_append, Nat.reduceAdd, Nat.reduceEqDiff, Nat.reduceLeDiff, reduceIte, Nat.reduceLT, or_self, true_or, or_true, if_true, if_false, and_self, and_true, true_and, not_false_eq_true, not_true_eq_false, fd_Blend_advance_94, fd_Blend_advance_95, fd_Blend_advance_98, fd_Blend_advance_101, fd_Blend_advance_102, hK2.1, hK2.2.1, hK2.2.2.1]
        by_cases q : am_I g2 26 0 = 2
        · simp only [q, am_wp, am_stp, am_en, am_as, am_pad, am_nth, am_set, am_st1, am_st2, am_kl, am_kill, am_mem, am_fv, am_tk, am_wt, am_bk, Option.toList, List.cons_append, List.nil_append, Nat.reduceAdd, Nat.reduceEqDiff, Nat.reduceLeDiff, reduceIte, Nat.reduceLT, or_self, true_or, or_true, if_true, if_false, and_self, and_true, true_and, not_false_eq_true, not_true_eq_false]
          have hrp : rp ((m, am_I g2 26 0, am_L g2 26 1) :: bm (ins'.map (·.2))) = rp (bm (ins'.map (·.2))) := by
            unfold rp
            simp [q]
          rw [hrp] at hx0 hx1
          refine am_go [2] 2 ?_
          simp only [am_wp, am_stp, am_en, am_as, am_pad, am_nth, am_set, am_st1, am_st2, am_kl, am_kill, am_mem, am_fv, am_tk, am_wt, am_bk, Option.toList, List.cons_append, List.nil_append, Nat.reduceAdd, Nat.reduceEqDiff, Nat.reduceLeDiff, reduceIte, Nat.reduceLT, or_self, true_or, or_true, if_true, if_false, and_self, and_true, true_and, not_false_eq_true, not_true_eq_false, fd_Blend_advance_115, fd_Blend_advance_118, nI_1]
          have hn' : ∃ k, n = k + 1 := ⟨n - 1, by omega⟩
          obtain ⟨k, rfl⟩ := hn'
          exact l2_advance_loop k (i + 1) ins' g2 (.int (nI ins.length)) w (by omega) (by omega) (hP.fi F3 (by decide)) (hSp.fi F3 (by decide)) S2 I7 hO' (fun h0 g F => hx0 h0 g (F3.trans F)) (fun e ins2 g z1 z2 z3 z4 z5 z6 z7 z8 z9 z10 => hx1 e ins2 g z1 (by omega) (F3.trans z3) z4 z5 z6 z7 z8 z9 z10)
        · simp only [q, am_wp, am_stp, am_en, am_as, am_pad, am_nth, am_set, am_st1, am_st2, am_kl, am_kill, am_mem, am_fv, am_tk, am_wt, am_bk, Option.toList, List.cons_append, List.nil_append, Nat.reduceAdd, Nat.reduceEqDiff, Nat.reduceLeDiff, reduceIte, Nat.reduceLT, or_self, true_or, or_true, if_true, if_false, and_self, and_true, true_and, not_false_eq_true, not_true_eq_false]
          have a11 : (1 : Int32) = 0 ∨ (1 : Int32) = 1 := by decide
          have hrp : rp ((m, am_I g2 26 0, am_L g2 26 1) :: bm (ins'.map (·.2))) = (m, 1, am_L g2 26 1) :: rp (bm (ins'.map (·.2))) := by
            unfold rp
            simp [q]
          rw [hrp] at hx0 hx1
          refine am_go [] 6 ?_
          simp only [am_wp, am_stp, am_en, am_as, am_pad, am_nth, am_set, am_st1, am_st2, am_kl, am_kill, am_mem, am_fv, am_tk, am_wt, am_bk, Option.toList, List.cons_append, List.nil_append, Nat.reduceAdd, Nat.reduceEqDiff, Nat.reduceLeDiff, reduceIte, Nat.reduceLT, or_self, true_or, or_true, if_true, if_false, and_self, and_true, true_and, not_false_eq_true, not_true_eq_false, fd_Blend_advance_105, fd_Blend_advance_106, fd_Blend_advance_109, fd_Blend_advance_110, fd_Blend_advance_113, fd_Blend_advance_114, hK2.1, hK2.2.1, hK2.2.2.1, a11]
          have F26 : am_fi [26] g2 (am_sI g2 26 0 1) := am_fi.refl.sI (by simp)
          have F4 : am_fi bl_w h (am_sI g2 26 0 1) := F3.sI (by simp [bl_w])
          refine hx1 (m, 1, am_L g2 26 1) ins' _ rfl hlt F4 ?_ ?_ hO' ?_ ?_ ?_ ⟨Or.inl rfl, fun e => absurd (show (1 : Int32) = 2 from e) (by decide)⟩
          · obtain ⟨b1, b2, b3, b4, b5⟩ := S2
            refine ⟨b1.fi F26, by simp only [hx_nx_sI, hx_ce_sI, hx_sl_sI, hx_kd_sI, hx_ln_sI, hx_I_sI, hx_L_sI, hx_R_sI, hx_nx_sL, hx_ce_sL, hx_sl_sL, hx_kd_sL, hx_ln_sL, hx_I_sL, hx_L_sL, hx_R_sL, hx_nx_sR, hx_ce_sR, hx_sl_sR, hx_kd_sR, hx_ln_sR, hx_I_sR, hx_L_sR, hx_R_sR, hx_nx_al, hx_ce_al, hx_sl_al, hx_kd_al, hx_ln_al, hx_I_al, hx_L_al, hx_R_al, hx_nx_row, hx_ce_row, hx_sl_row, hx_kd_row, hx_ln_row, hx_I_row, hx_L_row, hx_R_row, hx_nx_mk, hx_kd_mk, hx_ln_mk, hx_I_mk, hx_L_mk, hx_R_mk, am_wp, am_stp, am_en, am_as, am_pad, am_nth, am_set, am_st1, am_st2, am_kl, am_kill, am_mem, am_fv, am_tk, am_wt, am_bk, Option.toList, List.cons_append, List.nil_append, Nat.reduceAdd, Nat.reduceEqDiff, Nat.reduceLeDiff, reduceIte, Nat.reduceLT, or_self, true_or, or_true, if_true, if_false, and_self, and_true, true_and, not_false_eq_true, not_true_eq_false]; exact b2, b3, b4, fun s x hxs => ?_⟩
            obtain ⟨c1, c2⟩ := b5 s x hxs
            have c3 := c2.1
            exact ⟨c1, c2.fi F26.fx (by simp; omega) (by simp)⟩
          · simp only [hx_nx_sI, hx_ce_sI, hx_sl_sI, hx_kd_sI, hx_ln_sI, hx_I_sI, hx_L_sI, hx_R_sI, hx_nx_sL, hx_ce_sL, hx_sl_sL, hx_kd_sL, hx_ln_sL, hx_I_sL, hx_L_sL, hx_R_sL, hx_nx_sR, hx_ce_sR, hx_sl_sR, hx_kd_sR, hx_ln_sR, hx_I_sR, hx_L_sR, hx_R_sR, hx_nx_al, hx_ce_al, hx_sl_al, hx_kd_al, hx_ln_al, hx_I_al, hx_L_al, hx_R_al, hx_nx_row, hx_ce_row, hx_sl_row, hx_kd_row, hx_ln_row, hx_I_row, hx_L_row, hx_R_row, hx_nx_mk, hx_kd_mk, hx_ln_mk, hx_I_mk, hx_L_mk, hx_R_mk, am_wp, am_stp, am_en, am_as, am_pad, am_nth, am_set, am_st1, am_st2, am_kl, am_kill, am_mem, am_fv, am_tk, am_wt, am_bk, Option.toList, List.cons_append, List.nil_append, Nat.reduceAdd, Nat.reduceEqDiff, Nat.reduceLeDiff, reduceIte, Nat.reduceLT, or_self, true_or, or_true, if_true, if_false, and_self, and_true, true_and, not_false_eq_true, not_true_eq_false]; exact I7
          · exact L2
          · simp only [hx_nx_sI, hx_ce_sI, hx_sl_sI, hx_kd_sI, hx_ln_sI, hx_I_sI, hx_L_sI, hx_R_sI, hx_nx_sL, hx_ce_sL, hx_sl_sL, hx_kd_sL, hx_ln_sL, hx_I_sL, hx_L_sL, hx_R_sL, hx_nx_sR, hx_ce_sR, hx_sl_sR, hx_kd_sR, hx_ln_sR, hx_I_sR, hx_L_sR, hx_R_sR, hx_nx_al, hx_ce_al, hx_sl_al, hx_kd_al, hx_ln_al, hx_I_al, hx_L_al, hx_R_al, hx_nx_row, hx_ce_row, hx_sl_row, hx_kd_row, hx_ln_row, hx_I_row, hx_L_row, hx_R_row, hx_nx_mk, hx_kd_mk, hx_ln_mk, hx_I_mk, hx_L_mk, hx_R_mk, am_wp, am_stp, am_en, am_as, am_pad, am_nth, am_set, am_st1, am_st2, am_kl, am_kill, am_mem, am_fv, am_tk, am_wt, am_bk, Option.toList, List.cons_append, List.nil_append, Nat.reduceAdd, Nat.reduceEqDiff, Nat.reduceLeDiff, reduceIte, Nat.reduceLT, or_self, true_or, or_true, if_true, if_false, and_self, and_true, true_and, not_false_eq_true, not_true_eq_false]
          · rfl
/-- ADVANCE -/
theorem l2_advance {d P : Nat} {old : Bool} {ins : List (Nat × List ent)} {h : am_H} (hP : cl_Pg P h) (hSp : cl_Sp P h) (hB : bl_S P h ins) (ho : am_I h 25 7 = (if old = true then 1 else 0)) (hO : ∀ x ∈ ins, so x.2 ∧ ∀ e ∈ x.2, eo e) (hn : tot ins < 900000) : am_Rt nm_pr (d + 4) mi_Blend_advance [.ref 25] h (fun o g => am_fi bl_w h g ∧ ((o = .inl (some (.int 0)) ∧ ou old (ins.map (·.2)) = []) ∨ (∃ e ins', o = .inl (some (.int 1)) ∧ ou old (ins.map (·.2)) = e :: ou old (ins'.map (·.2)) ∧ tot ins' < tot ins ∧ bl_S P g ins' ∧ am_I g 25 7 = (if old = true then 1 else 0) ∧ (∀ x ∈ ins', so x.2 ∧ ∀ e ∈ x.2, eo e) ∧ am_L g 25 1 = e.1 ∧ am_I g 26 0 = e.2.1 ∧ am_L g 26 1 = e.2.2 ∧ eo e))) := by
  refine am_in' (d := d + 3) mt_Blend_advance 4 rfl rfl rfl ?_
  refine am_go [2] 3 ?_
  simp only [am_wp, am_stp, am_en, am_as, am_pad, am_nth, am_set, am_st1, am_st2, am_kl, am_kill, am_mem, am_fv, am_tk, am_wt, am_bk, Option.toList, List.cons_append, List.nil_append, Nat.reduceAdd, Nat.reduceEqDiff, Nat.reduceLeDiff, reduceIte, Nat.reduceLT, or_self, true_or, or_true, if_true, if_false, and_self, and_true, true_and, not_false_eq_true, not_true_eq_false, fd_Blend_advance_0, fd_Blend_advance_1]
  exact l2_advance_loop (tot ins) 0 ins h am_j am_j (Nat.le_refl _) (by omega) hP hSp hB ho hO (fun h0 g F => ⟨F, Or.inl ⟨rfl, h0⟩⟩) (fun e ins' g z1 z2 z3 z4 z5 z6 z7 z8 z9 z10 => ⟨z3, Or.inr ⟨e, ins', rfl, z1, z2, z4, z5, z6, z7, z8, z9, z10⟩⟩)
