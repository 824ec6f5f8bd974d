-- needs: 88.blend 04.fd
/-! THE BLEND: findLeast and advance -/
def bl_K (h : am_H) : Prop := am_kd h 25 = 2 ∧ am_R h 25 0 = 26 ∧ am_kd h 26 = 3 ∧ am_R h 25 2 = 29 ∧ am_R h 25 3 = 27 ∧ am_R h 25 4 = 28 ∧ am_kd h 28 = 203 ∧ am_ln h 28 = 10 ∧ am_kd h 27 = 202 ∧ am_ln h 27 = 9 ∧ (∀ j, j < 9 → am_R h 27 j = 30 + j) ∧ ts_K h 29 ∧ ∀ j, j < 9 → rs_K h (30 + j)
theorem bl_K.fx {S : List Nat} {h h' : am_H} (a : bl_K h) (b : am_fx S h h') (hS : ∀ q ∈ S, q < 25 ∨ q = 26 ∨ q = 28 ∨ 38 < q) : bl_K h' := by
  obtain ⟨b1, b2, b3, b4, b5, b6, b7, b8⟩ := b
  obtain ⟨a1, a2, a3, a4, a5, a6, a7, a8, a9, a10, a11, a12, a13⟩ := a
  have g : ∀ x, 25 ≤ x → x ≠ 26 → x ≠ 28 → x ≤ 38 → am_R h' x = am_R h x := fun x h1 h2 h3 h4 => b8 x (fun hm => by have := hS x hm; omega)
  refine ⟨by rw [b4]; exact a1, by rw [g 25 (by decide) (by decide) (by decide) (by decide)]; exact a2, by rw [b4]; exact a3, by rw [g 25 (by decide) (by decide) (by decide) (by decide)]; exact a4, by rw [g 25 (by decide) (by decide) (by decide) (by decide)]; exact a5, by rw [g 25 (by decide) (by decide) (by decide) (by decide)]; exact a6, by rw [b4]; exact a7, by rw [b5]; exact a8, by rw [b4]; exact a9, by rw [b5]; exact a10, fun j hj => by rw [g 27 (by decide) (by decide) (by decide) (by decide)]; exact a11 j hj, ?_, fun j hj => ?_⟩
  · unfold ts_K
    rw [b4, g 29 (by decide) (by decide) (by decide) (by decide)]
    exact a12
  · unfold rs_K
    rw [b4, g (30 + j) (by omega) (by omega) (by omega) (by omega)]
    exact a13 j hj
theorem bl_K.fi {S : List Nat} {h h' : am_H} (a : bl_K h) (b : am_fi S h h') : bl_K h' := by
  obtain ⟨b1, b2, b3, b4, b5, b6, b7, b8⟩ := b
  unfold bl_K ts_K rs_K at *
  rw [b4, b5, b6]
  exact a
/-- the inputs: addresses and what is left of each -/
def bl_S (P : Nat) (h : am_H) (ins : List (Nat × List ent)) : Prop := bl_K h ∧ am_I h 25 5 = nI ins.length ∧ ins.length ≤ 10 ∧ (ins.map (·.1)).Nodup ∧ ∀ s x, ins[s]? = some x → am_R h 28 s = x.1 ∧ st_P P h x.1 x.2
/-- the least head so far -/
def lo (Ls : List (List ent)) : Option Int64 → Prop
  | none => ∀ L ∈ Ls, L = []
  | some m => Ls.any (hm m) = true ∧ ∀ L ∈ Ls, nm m L
theorem nm_lt {m k : Int64} {L : List ent} (h : nm m L) (hk : k < m) : nm k L := by
  cases L with
  | nil => trivial
  | cons e L => exact fun q => h (l_tr q hk)
theorem lo_nil {Ls : List (List ent)} {o : Option Int64} (h : lo Ls o) : lo (Ls ++ [[]]) o := by
  cases o with
  | none => intro L hL; rcases List.mem_append.mp hL with q | q; exact h L q; simpa using q
  | some m =>
    refine ⟨by rw [List.any_append, h.1]; rfl, fun L hL => ?_⟩
    rcases List.mem_append.mp hL with q | q
    · exact h.2 L q
    · have : L = [] := by simpa using q
      subst this; trivial
theorem lo_new {Ls : List (List ent)} {e : ent} {M : List ent} (h : lo Ls none) : lo (Ls ++ [e :: M]) (some e.1) := by
  refine ⟨by rw [List.any_append]; simp [hm], fun L hL => ?_⟩
  rcases List.mem_append.mp hL with q | q
  · rw [h L q]; trivial
  · have : L = e :: M := by simpa using q
    subst this; exact l_irr _
theorem lo_less {Ls : List (List ent)} {m : Int64} {e : ent} {M : List ent} (h : lo Ls (some m)) (hl : e.1 < m) : lo (Ls ++ [e :: M]) (some e.1) := by
  refine ⟨by rw [List.any_append]; simp [hm], fun L hL => ?_⟩
  rcases List.mem_append.mp hL with q | q
  · exact nm_lt (h.2 L q) hl
  · have : L = e :: M := by simpa using q
    subst this; exact l_irr _
theorem lo_more {Ls : List (List ent)} {m : Int64} {e : ent} {M : List ent} (h : lo Ls (some m)) (hl : ¬ e.1 < m) : lo (Ls ++ [e :: M]) (some m) := by
  refine ⟨by rw [List.any_append, h.1]; rfl, fun L hL => ?_⟩
  rcases List.mem_append.mp hL with q | q
  · exact h.2 L q
  · have : L = e :: M := by simpa using q
    subst this; exact hl
theorem l2_findLeast_loop {d P : Nat} {ins : List (Nat × List ent)} {h : am_H} {Q : am_O → am_H → Prop} (hB : bl_S P h ins) (hx : ∀ o g, lo (ins.map (·.2)) o → am_fi [25] h g → am_I g = am_I h → (∀ m, o = some m → am_L g 25 1 = m) → Q (.inl (some (.int (if o.isSome then 1 else 0)))) g) : ∀ (rest pre : List (Nat × List ent)) (o : Option Int64) (g : am_H) (w : Value), pre ++ rest = ins → lo (pre.map (·.2)) o → am_fi [25] h g → am_I g = am_I h → (∀ m, o = some m → am_L g 25 1 = m) →
    am_Ex nm_pr d mt_Blend_findLeast (4, [.ref 25, .int (if o.isSome then 1 else 0), .int (nI pre.length), w], [], g) Q
  | [], pre, o, g, w, hp, hl, F, FI, hm => by
    obtain ⟨hK, i5, hn, -, -⟩ := id hB
    have hK' := hK.fi F
    have e : pre = ins := by simpa using hp
    subst e
    have l1 : ¬ nI pre.length < nI pre.length := nI_nlt (Nat.le_refl _) (by omega)
    have g5 : am_I g 25 5 = nI pre.length := by rw [FI]; exact i5
    have q01 : (if o.isSome = true then (1 : Int32) else 0) = 0 ∨ (if o.isSome = true then (1 : Int32) else 0) = 1 := by split <;> simp
    refine am_go [12] 7 ?_
    simp only [am_wp, am_stp, am_en, am_as, am_pad, am_nth, am_set, am_st1, am_st2, am_kl, am_kill, am_mem, am_fv, am_tk, am_wt, am_bk, Option.toList, List.cons_append, List.nil_append, Nat.reduceAdd, Nat.reduceEqDiff, Nat.reduceLeDiff, reduceIte, Nat.reduceLT, or_self, true_or, or_true, if_true, if_false, and_self, and_true, true_and, not_false_eq_true, not_true_eq_false, fd_Blend_findLeast_4, fd_Blend_findLeast_5, fd_Blend_findLeast_6, fd_Blend_findLeast_9, fd_Blend_findLeast_58, fd_Blend_findLeast_59, hK'.1, g5, l1, q01]
    exact hx o g hl F FI hm
  | x :: rest, pre, o, g, w, hp, hl, F, FI, hm => by
    obtain ⟨hK, i5, hn, hd, hs⟩ := id hB
    have hK' := hK.fi F
    have hlen : pre.length < ins.length := by rw [← hp]; simp
    have hget : ins[pre.length]? = some x := by rw [← hp]; simp
    obtain ⟨sR, sP⟩ := hs _ _ hget
    have l1 : nI pre.length < nI ins.length := nI_lt hlen (by omega)
    have g5 : am_I g 25 5 = nI ins.length := by rw [FI]; exact i5
    have r28 : am_R g 28 pre.length = x.1 := by rw [F.2.2.2.2.2.1]; exact sR
    have n1 : (200 ≤ 203 ∧ 203 < 204) := by decide
    have i1 := am_inb (c := pre.length) (N := 10) (by omega) (by omega)
    have q1 : (nI pre.length).toNatClampNeg = pre.length := nI_clamp (by omega)
    have gx : am_kd g x.1 = 7 ∨ am_kd g x.1 = 11 := by rw [F.2.2.2.1]; exact sP.kd
    have gx' : (am_kd g x.1 = 7 ∨ am_kd g x.1 = 11) = True := eq_true gx
    have x25 : x.1 ≠ 25 := by have := sP.1; omega
    have one0 : ¬ (1 : Int32) = 0 := by decide
    have hpre : (pre ++ [x]) ++ rest = ins := by rw [← hp]; simp
    have hmap : (pre ++ [x]).map (·.2) = pre.map (·.2) ++ [x.2] := by simp
    have hlen2 : (pre ++ [x]).length = pre.length + 1 := by simp
    refine am_go [12, 58] 4 ?_
    simp only [am_wp, am_stp, am_en, am_as, am_pad, am_nth, am_set, am_st1, am_st2, am_kl, am_kill, am_mem, am_fv, am_tk, am_wt, am_bk, Option.toList, List.cons_append, List.nil_append, Nat.reduceAdd, Nat.reduceEqDiff, Nat.reduceLeDiff, reduceIte, Nat.reduceLT, or_self, true_or, or_true, if_true, if_false, and_self, and_true, true_and, not_false_eq_true, not_true_eq_false, fd_Blend_findLeast_4, fd_Blend_findLeast_5, fd_Blend_findLeast_6, fd_Blend_findLeast_9, hK'.1, g5, l1]
    refine am_go [19] 5 ?_
    simp only [am_wp, am_stp, am_en, am_as, am_pad, am_nth, am_set, am_st1, am_st2, am_kl, am_kill, am_mem, am_fv, am_tk, am_wt, am_bk, Option.toList, List.cons_append, List.nil_append, Nat.reduceAdd, Nat.reduceEqDiff, Nat.reduceLeDiff, reduceIte, Nat.reduceLT, or_self, true_or, or_true, if_true, if_false, and_self, and_true, true_and, not_false_eq_true, not_true_eq_false, fd_Blend_findLeast_12, fd_Blend_findLeast_13, fd_Blend_findLeast_16, fd_Blend_findLeast_17, fd_Blend_findLeast_18, hK'.1, hK'.2.2.2.2.2.1, hK'.2.2.2.2.2.2.1, hK'.2.2.2.2.2.2.2.1, n1, i1, q1, r28]
    have next : ∀ (o' : Option Int64) (g' : am_H), lo (pre.map (·.2) ++ [x.2]) o' → am_fi [25] h g' → am_I g' = am_I h → (∀ m, o' = some m → am_L g' 25 1 = m) → am_Ex nm_pr d mt_Blend_findLeast (52, [.ref 25, .int (if o'.isSome then 1 else 0), .int (nI pre.length), .ref x.1], [], g') Q := by
      intro o' g' hl' F' FI' hm'
      refine am_go [4] 2 ?_
      simp only [am_wp, am_stp, am_en, am_as, am_pad, am_nth, am_set, am_st1, am_st2, am_kl, am_kill, am_mem, am_fv, am_tk, am_wt, am_bk, Option.toList, List.cons_append, List.nil_append, Nat.reduceAdd, Nat.reduceEqDiff, Nat.reduceLeDiff, reduceIte, Nat.reduceLT, or_self, true_or, or_true, if_true, if_false, and_self, and_true, true_and, not_false_eq_true, not_true_eq_false, fd_Blend_findLeast_52, fd_Blend_findLeast_55, nI_1]
      have := l2_findLeast_loop (d := d) hB hx rest (pre ++ [x]) o' g' (.ref x.1) hpre (by rw [hmap]; exact hl') F' FI' hm'
      rw [hlen2] at this
      exact this
    obtain ⟨t, L⟩ := x
    dsimp only at *
    cases L with
    | nil =>
      have t0 : am_I g t 0 = 0 := by rw [FI]; exact sP.nil
      refine am_go [26, 52] 3 ?_
      simp only [am_wp, am_stp, am_en, am_as, am_pad, am_nth, am_set, am_st1, am_st2, am_kl, am_kill, am_mem, am_fv, am_tk, am_wt, am_bk, Option.toList, List.cons_append, List.nil_append, Nat.reduceAdd, Nat.reduceEqDiff, Nat.reduceLeDiff, reduceIte, Nat.reduceLT, or_self, true_or, or_true, if_true, if_false, and_self, and_true, true_and, not_false_eq_true, not_true_eq_false, fd_Blend_findLeast_19, fd_Blend_findLeast_20, fd_Blend_findLeast_23, gx', t0]
      exact next o g (lo_nil hl) F FI hm
    | cons e L =>
      obtain ⟨c0, c1, -, -⟩ := sP.cons
      have t0 : am_I g t 0 = 1 := by rw [FI]; exact c0
      have t1 : am_L g t 1 = e.1 := by rw [F.2.2.2.2.2.2.2 t (by simp; omega)]; exact c1
      refine am_go [26, 52] 3 ?_
      simp only [am_wp, am_stp, am_en, am_as, am_pad, am_nth, am_set, am_st1, am_st2, am_kl, am_kill, am_mem, am_fv, am_tk, am_wt, am_bk, Option.toList, List.cons_append, List.nil_append, Nat.reduceAdd, Nat.reduceEqDiff, Nat.reduceLeDiff, reduceIte, Nat.reduceLT, or_self, true_or, or_true, if_true, if_false, and_self, and_true, true_and, not_false_eq_true, not_true_eq_false, fd_Blend_findLeast_19, fd_Blend_findLeast_20, fd_Blend_findLeast_23, gx', t0, one0]
      have take : ∀ v : Value, lo (pre.map (·.2) ++ [e :: L]) (some e.1) → am_Ex nm_pr d mt_Blend_findLeast (42, [.ref 25, v, .int (nI pre.length), .ref t], [], g) Q := by
        intro v hl'
        refine am_go [52] 6 ?_
        simp only [am_wp, am_stp, am_en, am_as, am_pad, am_nth, am_set, am_st1, am_st2, am_kl, am_kill, am_mem, am_fv, am_tk, am_wt, am_bk, Option.toList, List.cons_append, List.nil_append, Nat.reduceAdd, Nat.reduceEqDiff, Nat.reduceLeDiff, reduceIte, Nat.reduceLT, or_self, true_or, or_true, if_true, if_false, and_self, and_true, true_and, not_false_eq_true, not_true_eq_false, fd_Blend_findLeast_42, fd_Blend_findLeast_43, fd_Blend_findLeast_44, fd_Blend_findLeast_47, fd_Blend_findLeast_50, fd_Blend_findLeast_51, hK'.1, gx', t1]
        exact next (some e.1) (am_sL g 25 1 e.1) hl' (F.sL (by simp)) FI (fun m hm => by simp only [hx_nx_sI, hx_ce_sI, hx_sl_sI, hx_kd_sI, hx_ln_sI, hx_I_sI, hx_L_sI, hx_R_sI, hx_nx_sL, hx_ce_sL, hx_sl_sL, hx_kd_sL, hx_ln_sL, hx_I_sL, hx_L_sL, hx_R_sL, hx_nx_sR, hx_ce_sR, hx_sl_sR, hx_kd_sR, hx_ln_sR, hx_I_sR, hx_L_sR, hx_R_sR, hx_nx_al, hx_ce_al, hx_sl_al, hx_kd_al, hx_ln_al, hx_I_al, hx_L_al, hx_R_al, hx_nx_row, hx_ce_row, hx_sl_row, hx_kd_row, hx_ln_row, hx_I_row, hx_L_row, hx_R_row, hx_nx_mk, hx_kd_mk, hx_ln_mk, hx_I_mk, hx_L_mk, hx_R_mk, am_wp, am_stp, am_en, am_as, am_pad, am_nth, am_set, am_st1, am_st2, am_kl, am_kill, am_mem, am_fv, am_tk, am_wt, am_bk, Option.toList, List.cons_append, List.nil_append, Nat.reduceAdd, Nat.reduceEqDiff, Nat.reduceLeDiff, reduceIte, Nat.reduceLT, or_self, true_or, or_true, if_true, if_false, and_self, and_true, true_and, not_false_eq_true, not_true_eq_false]; exact Option.some.inj hm)
      cases o with
      | none =>
        refine am_go [30, 42] 2 ?_
        simp only [am_wp, am_stp, am_en, am_as, am_pad, am_nth, am_set, am_st1, am_st2, am_kl, am_kill, am_mem, am_fv, am_tk, am_wt, am_bk, Option.toList, List.cons_append, List.nil_append, Nat.reduceAdd, Nat.reduceEqDiff, Nat.reduceLeDiff, reduceIte, Nat.reduceLT, or_self, true_or, or_true, if_true, if_false, and_self, and_true, true_and, not_false_eq_true, not_true_eq_false, fd_Blend_findLeast_26, fd_Blend_findLeast_27, Option.isSome, Bool.false_eq_true]
        exact take _ (lo_new hl)
      | some m =>
        have km := hm m rfl
        refine am_go [30, 42] 2 ?_
        simp only [am_wp, am_stp, am_en, am_as, am_pad, am_nth, am_set, am_st1, am_st2, am_kl, am_kill, am_mem, am_fv, am_tk, am_wt, am_bk, Option.toList, List.cons_append, List.nil_append, Nat.reduceAdd, Nat.reduceEqDiff, Nat.reduceLeDiff, reduceIte, Nat.reduceLT, or_self, true_or, or_true, if_true, if_false, and_self, and_true, true_and, not_false_eq_true, not_true_eq_false, fd_Blend_findLeast_26, fd_Blend_findLeast_27, Option.isSome, one0]
        refine am_go [42, 52] 6 ?_
        simp only [am_wp, am_stp, am_en, am_as, am_pad, am_nth, am_set, am_st1, am_st2, am_kl, am_kill, am_mem, am_fv, am_tk, am_wt, am_bk, Option.toList, List.cons_append, List.nil_append, Nat.reduceAdd, Nat.reduceEqDiff, Nat.reduceLeDiff, reduceIte, Nat.reduceLT, or_self, true_or, or_true, if_true, if_false, and_self, and_true, true_and, not_false_eq_true, not_true_eq_false, fd_Blend_findLeast_30, fd_Blend_findLeast_31, fd_Blend_findLeast_34, fd_Blend_findLeast_35, fd_Blend_findLeast_38, fd_Blend_findLeast_39, hK'.1, gx', t1, km]
        simp only [lc_lt]
        by_cases q : e.1 < m
        · simp only [q, am_wp, am_stp, am_en, am_as, am_pad, am_nth, am_set, am_st1, am_st2, am_kl, am_kill, am_mem, am_fv, am_tk, am_wt, am_bk, Option.toList, List.cons_append, List.nil_append, Nat.reduceAdd, Nat.reduceEqDiff, Nat.reduceLeDiff, reduceIte, Nat.reduceLT, or_self, true_or, or_true, if_true, if_false, and_self, and_true, true_and, not_false_eq_true, not_true_eq_false]
          exact take _ (lo_less hl q)
        · simp only [q, am_wp, am_stp, am_en, am_as, am_pad, am_nth, am_set, am_st1, am_st2, am_kl, am_kill, am_mem, am_fv, am_tk, am_wt, am_bk, Option.toList, List.cons_append, List.nil_append, Nat.reduceAdd, Nat.reduceEqDiff, Nat.reduceLeDiff, reduceIte, Nat.reduceLT, or_self, true_or, or_true, if_true, if_false, and_self, and_true, true_and, not_false_eq_true, not_true_eq_false]
          exact next (some m) g (lo_more hl q) F FI hm
theorem l2_findLeast {d P : Nat} {ins : List (Nat × List ent)} {h : am_H} (hB : bl_S P h ins) : am_Rt nm_pr (d + 1) mi_Blend_findLeast [.ref 25] h (fun o h' => ∃ r : Option Int64, o = .inl (some (.int (if r.isSome then 1 else 0))) ∧ lo (ins.map (·.2)) r ∧ am_fi [25] h h' ∧ am_I h' = am_I h ∧ ∀ m, r = some m → am_L h' 25 1 = m) := by
  refine am_in' mt_Blend_findLeast 4 rfl rfl rfl ?_
  refine am_go [4] 5 ?_
  simp only [am_wp, am_stp, am_en, am_as, am_pad, am_nth, am_set, am_st1, am_st2, am_kl, am_kill, am_mem, am_fv, am_tk, am_wt, am_bk, Option.toList, List.cons_append, List.nil_append, Nat.reduceAdd, Nat.reduceEqDiff, Nat.reduceLeDiff, reduceIte, Nat.reduceLT, or_self, true_or, or_true, if_true, if_false, and_self, and_true, true_and, not_false_eq_true, not_true_eq_false, fd_Blend_findLeast_0, fd_Blend_findLeast_1, fd_Blend_findLeast_2, fd_Blend_findLeast_3]
  exact l2_findLeast_loop hB (fun o g a b c e => ⟨o, rfl, a, b, c, e⟩) ins [] none h am_j (by simp) (by intro L hL; simp at hL) am_fi.refl rfl (fun m hm => by cases hm)
/-- where the blend writes -/
def bl_w : List Nat := [25, 26, 29, 30, 31, 32, 33, 34, 35, 36, 37, 38]
theorem bl_w_in {t : Nat} (h : 29 ≤ t ∧ t ≤ 38) : t ∈ bl_w := by
  have : t = 29 ∨ t = 30 ∨ t = 31 ∨ t = 32 ∨ t = 33 ∨ t = 34 ∨ t = 35 ∨ t = 36 ∨ t = 37 ∨ t = 38 := by omega
  unfold bl_w
  simp
  omega
theorem l2_advance_in {d P : Nat} {m : Int64} {x : Int32} {ins : List (Nat × List ent)} {h : am_H} {Q : am_O → am_H → Prop} (hP : cl_Pg P h) (hSp : cl_Sp P h) (hB : bl_S P h ins) (hk : am_L h 25 1 = m)
    (hx : ∀ g w, bl_S P g (ins.map (fun y => (y.1, dm m y.2))) → am_fi bl_w h g → am_I g 25 = am_I h 25 → am_L g 25 1 = m → (am_I g 26 0, am_L g 26 1) = (ins.map (·.2)).foldl (lm m) (0, 0) → am_Ex nm_pr (d + 3) mt_Blend_advance (85, [.ref 25, .int x, .int (nI ins.length), w], [], g) Q) : ∀ (rest pre : List (Nat × List ent)) (g : am_H) (w : Value), pre ++ rest = ins → bl_S P g (pre.map (fun y => (y.1, dm m y.2)) ++ rest) → am_fi bl_w h g → am_I g 25 = am_I h 25 → am_L g 25 1 = m → (am_I g 26 0, am_L g 26 1) = (pre.map (·.2)).foldl (lm m) (0, 0) →
    am_Ex nm_pr (d + 3) mt_Blend_advance (26, [.ref 25, .int x, .int (nI pre.length), w], [], g) Q
  | [], pre, g, w, hp, hS, F, FI, hL, hf => by
    have e : pre = ins := by simpa using hp
    subst e
    obtain ⟨hK, i5, hn, -, -⟩ := id hB
    have hK' := hK.fi F
    have l1 : ¬ nI pre.length < nI pre.length := nI_nlt (Nat.le_refl _) (by omega)
    have g5 : am_I g 25 5 = nI pre.length := by rw [FI]; exact i5
    refine am_go [34, 85] 4 ?_
    simp only [am_wp, am_stp, am_en, am_as, am_pad, am_nth, am_set, am_st1, am_st2, am_kl, am_kill, am_mem, am_fv, am_tk, am_wt, am_bk, Option.toList, List.cons_append, List.nil_append, Nat.reduceAdd, Nat.reduceEqDiff, Nat.reduceLeDiff, reduceIte, Nat.reduceLT, or_self, true_or, or_true, if_true, if_false, and_self, and_true, true_and, not_false_eq_true, not_true_eq_false, fd_Blend_advance_26, fd_Blend_advance_27, fd_Blend_advance_28, fd_Blend_advance_31, hK'.1, g5, l1]
    refine hx g w ?_ F FI hL hf
    simpa using hS
  | y :: rest, pre, g, w, hp, hS, F, FI, hL, hf => by
    obtain ⟨hK, i5, hn, hd, hs⟩ := id hB
    have hK' := hK.fi F
    have hlen : pre.length < ins.length := by rw [← hp]; simp
    obtain ⟨sK, s5, sn, sd, ss⟩ := id hS
    have hget : (pre.map (fun y => (y.1, dm m y.2)) ++ y :: rest)[pre.length]? = some y := by
      have : pre.length = (pre.map (fun y => (y.1, dm m y.2))).length := by simp
      rw [this]
      simp
    obtain ⟨sR, sP⟩ := ss _ _ hget
    have l1 : nI pre.length < nI ins.length := nI_lt hlen (by omega)
    have g5 : am_I g 25 5 = nI ins.length := by rw [FI]; exact i5
    have n1 : (200 ≤ 203 ∧ 203 < 204) := by decide
    have i1 := am_inb (c := pre.length) (N := 10) (by omega) (by omega)
    have q1 : (nI pre.length).toNatClampNeg = pre.length := nI_clamp (by omega)
    have gx' : (am_kd g y.1 = 7 ∨ am_kd g y.1 = 11) = True := eq_true sP.kd
    have one0 : ¬ (1 : Int32) = 0 := by decide
    have hpre : (pre ++ [y]) ++ rest = ins := by rw [← hp]; simp
    have hlen2 : (pre ++ [y]).length = pre.length + 1 := by simp
    have hPg : cl_Pg P g := hP.fi F (by decide)
    have hSg : cl_Sp P g := hSp.fi F (by decide)
    refine am_go [34, 85] 4 ?_
    simp only [am_wp, am_stp, am_en, am_as, am_pad, am_nth, am_set, am_st1, am_st2, am_kl, am_kill, am_mem, am_fv, am_tk, am_wt, am_bk, Option.toList, List.cons_append, List.nil_append, Nat.reduceAdd, Nat.reduceEqDiff, Nat.reduceLeDiff, reduceIte, Nat.reduceLT, or_self, true_or, or_true, if_true, if_false, and_self, and_true, true_and, not_false_eq_true, not_true_eq_false, fd_Blend_advance_26, fd_Blend_advance_27, fd_Blend_advance_28, fd_Blend_advance_31, hK'.1, g5, l1]
    refine am_go [41] 5 ?_
    simp only [am_wp, am_stp, am_en, am_as, am_pad, am_nth, am_set, am_st1, am_st2, am_kl, am_kill, am_mem, am_fv, am_tk, am_wt, am_bk, Option.toList, List.cons_append, List.nil_append, Nat.reduceAdd, Nat.reduceEqDiff, Nat.reduceLeDiff, reduceIte, Nat.reduceLT, or_self, true_or, or_true, if_true, if_false, and_self, and_true, true_and, not_false_eq_true, not_true_eq_false, fd_Blend_advance_34, fd_Blend_advance_35, fd_Blend_advance_38, fd_Blend_advance_39, fd_Blend_advance_40, hK'.1, hK'.2.2.2.2.2.1, hK'.2.2.2.2.2.2.1, hK'.2.2.2.2.2.2.2.1, n1, i1, q1, sR]
    have next : ∀ g' : am_H, bl_S P g' (pre.map (fun y => (y.1, dm m y.2)) ++ (y.1, dm m y.2) :: rest) → am_fi bl_w h g' → am_I g' 25 = am_I h 25 → am_L g' 25 1 = m → (am_I g' 26 0, am_L g' 26 1) = lm m ((pre.map (·.2)).foldl (lm m) (0, 0)) y.2 → am_Ex nm_pr (d + 3) mt_Blend_advance (79, [.ref 25, .int x, .int (nI pre.length), .ref y.1], [], g') Q := by
      intro g' S' F' FI' L' f'
      refine am_go [26] 2 ?_
      simp only [am_wp, am_stp, am_en, am_as, am_pad, am_nth, am_set, am_st1, am_st2, am_kl, am_kill, am_mem, am_fv, am_tk, am_wt, am_bk, Option.toList, List.cons_append, List.nil_append, Nat.reduceAdd, Nat.reduceEqDiff, Nat.reduceLeDiff, reduceIte, Nat.reduceLT, or_self, true_or, or_true, if_true, if_false, and_self, and_true, true_and, not_false_eq_true, not_true_eq_false, fd_Blend_advance_79, fd_Blend_advance_82, nI_1]
      have := l2_advance_in (d := d) hP hSp hB hk hx rest (pre ++ [y]) g' (.ref y.1) hpre (by simpa using S') F' FI' L' (by rw [f']; simp)
      rw [hlen2] at this
      exact this
    by_cases q : hm m y.2 = true
    · obtain ⟨t, L⟩ := y
      cases L with
      | nil => simp [hm] at q
      | cons e L =>
        have em : e.1 = m := by simpa [hm] using q
        dsimp only at *
        obtain ⟨c0, c1, c2, c3⟩ := sP.cons
        refine am_go [48, 79] 3 ?_
        simp only [am_wp, am_stp, am_en, am_as, am_pad, am_nth, am_set, am_st1, am_st2, am_kl, am_kill, am_mem, am_fv, am_tk, am_wt, am_bk, Option.toList, List.cons_append, List.nil_append, Nat.reduceAdd, Nat.reduceEqDiff, Nat.reduceLeDiff, reduceIte, Nat.reduceLT, or_self, true_or, or_true, if_true, if_false, and_self, and_true, true_and, not_false_eq_true, not_true_eq_false, fd_Blend_advance_41, fd_Blend_advance_42, fd_Blend_advance_45, gx', c0, one0]
        refine am_go [60, 79] 6 ?_
        simp only [am_wp, am_stp, am_en, am_as, am_pad, am_nth, am_set, am_st1, am_st2, am_kl, am_kill, am_mem, am_fv, am_tk, am_wt, am_bk, Option.toList, List.cons_append, List.nil_append, Nat.reduceAdd, Nat.reduceEqDiff, Nat.reduceLeDiff, reduceIte, Nat.reduceLT, or_self, true_or, or_true, if_true, if_false, and_self, and_true, true_and, not_false_eq_true, not_true_eq_false, fd_Blend_advance_48, fd_Blend_advance_49, fd_Blend_advance_52, fd_Blend_advance_53, fd_Blend_advance_56, fd_Blend_advance_57, hK'.1, gx', c1, hL]
        simp only [lc_eq]
        rw [if_pos em]
        refine am_go [] 7 ?_
        simp only [am_wp, am_stp, am_en, am_as, am_pad, am_nth, am_set, am_st1, am_st2, am_kl, am_kill, am_mem, am_fv, am_tk, am_wt, am_bk, Option.toList, List.cons_append, List.nil_append, Nat.reduceAdd, Nat.reduceEqDiff, Nat.reduceLeDiff, reduceIte, Nat.reduceLT, or_self, true_or, or_true, if_true, if_false, and_self, and_true, true_and, not_false_eq_true, not_true_eq_false, fd_Blend_advance_60, fd_Blend_advance_61, fd_Blend_advance_64, fd_Blend_advance_65, fd_Blend_advance_68, fd_Blend_advance_69, fd_Blend_advance_72, hK'.1, hK'.2.1, hK'.2.2.1, gx', c2, c3]
        refine am_call (l2_layUpon (d := d + 2) hK'.2.2.1) (fun o g1 z => ?_)
        obtain ⟨rfl, F1, f0, f1⟩ := z
        simp only [am_wp, am_stp, am_en, am_as, am_pad, am_nth, am_set, am_st1, am_st2, am_kl, am_kill, am_mem, am_fv, am_tk, am_wt, am_bk, Option.toList, List.cons_append, List.nil_append, Nat.reduceAdd, Nat.reduceEqDiff, Nat.reduceLeDiff, reduceIte, Nat.reduceLT, or_self, true_or, or_true, if_true, if_false, and_self, and_true, true_and, not_false_eq_true, not_true_eq_false]
        have t26 : t ∉ [26] := by have := sP.1; simp; omega
        have sP1 : st_P P g1 t (e :: L) := sP.fi F1.fx t26 (by simp)
        refine am_go [] 2 ?_
        simp only [am_wp, am_stp, am_en, am_as, am_pad, am_nth, am_set, am_st1, am_st2, am_kl, am_kill, am_mem, am_fv, am_tk, am_wt, am_bk, Option.toList, List.cons_append, List.nil_append, Nat.reduceAdd, Nat.reduceEqDiff, Nat.reduceLeDiff, reduceIte, Nat.reduceLT, or_self, true_or, or_true, if_true, if_false, and_self, and_true, true_and, not_false_eq_true, not_true_eq_false, fd_Blend_advance_75, fd_Blend_advance_76]
        have fin : ∀ (o : am_O) (h' : am_H), (o = .inl none ∧ am_fi [t] g1 h' ∧ st_P P h' t L) → am_bk (fun c2 => match am_mem [] c2.1 with
          | true => am_Ex nm_pr (d + 3) mt_Blend_advance c2 Q
          | false => am_wp nm_pr (d + 3) mt_Blend_advance Q [] 0 c2) Q mt_Blend_advance (76, [.ref 25, .int x, .int (nI pre.length), .ref t], [], g1) o h' := by
          rintro o g2 ⟨rfl, F2, S2⟩
          simp only [am_wp, am_stp, am_en, am_as, am_pad, am_nth, am_set, am_st1, am_st2, am_kl, am_kill, am_mem, am_fv, am_tk, am_wt, am_bk, Option.toList, List.cons_append, List.nil_append, Nat.reduceAdd, Nat.reduceEqDiff, Nat.reduceLeDiff, reduceIte, Nat.reduceLT, or_self, true_or, or_true, if_true, if_false, and_self, and_true, true_and, not_false_eq_true, not_true_eq_false]
          have tw := bl_w_in sP.1
          have Fg : am_fi bl_w g g2 := (F1.sub (by intro q hq; simp at hq; subst hq; decide)).trans (F2.sub (by intro q hq; simp at hq; subst hq; exact tw))
          have t25 : t ≠ 25 ∧ t ≠ 26 := by have := sP.1; omega
          have x25 : am_I g2 25 = am_I g 25 := (F2.2.2.2.2.2.2.1 25 (by simp; omega)).trans (F1.2.2.2.2.2.2.1 25 (by simp))
          refine next g2 ⟨sK.fi Fg, ?_, by simpa using sn, by simpa using sd, fun s z hz => ?_⟩ (F.trans Fg) (x25.trans FI) ?_ ?_
          · rw [x25]; rw [s5]; simp
          · have hR : am_R g2 = am_R g := Fg.2.2.2.2.2.1
            by_cases es : s = pre.length
            · subst es
              have : (pre.map (fun y => (y.1, dm m y.2)) ++ (t, dm m (e :: L)) :: rest)[pre.length]? = some (t, dm m (e :: L)) := by
                have : pre.length = (pre.map (fun y => (y.1, dm m y.2))).length := by simp
                rw [this]
                simp
              rw [this] at hz
              cases hz
              refine ⟨by rw [hR]; exact sR, ?_⟩
              have : dm m (e :: L) = L := by simp [dm, em]
              dsimp only
              rw [this]
              exact S2
            · have hz' : (pre.map (fun y => (y.1, dm m y.2)) ++ (t, e :: L) :: rest)[s]? = some z := by
                rw [← hz]
                rw [List.getElem?_append, List.getElem?_append]
                split
                · rfl
                · rename_i hge
                  simp only [List.length_map] at hge ⊢
                  obtain ⟨k, hk⟩ : ∃ k, s - pre.length = k + 1 := ⟨s - pre.length - 1, by omega⟩
                  rw [hk]
                  simp
              obtain ⟨u1, u2⟩ := ss s z hz'
              have zt : z.1 ≠ t := by
                intro ezt
                have i1 := (List.getElem?_eq_some_iff.mp hz').1
                have nd := sd
                have j1 : ((pre.map (fun y => (y.1, dm m y.2)) ++ (t, e :: L) :: rest).map (·.1))[s]? = some t := by rw [List.getElem?_map, hz']; simp [ezt]
                have j2 : ((pre.map (fun y => (y.1, dm m y.2)) ++ (t, e :: L) :: rest).map (·.1))[pre.length]? = some t := by rw [List.getElem?_map, hget]; rfl
                exact es ((List.getElem?_inj (by simpa using i1) nd).mp (j1.trans j2.symm))
              have z26 : z.1 ∉ [26] := by have := u2.1; simp; omega
              refine ⟨by rw [hR]; exact u1, (u2.fi F1.fx z26 (by simp)).fi F2.fx (by simp; exact zt) (by have := sP.1; simp; omega)⟩
          · have : am_L g2 25 = am_L g 25 := (F2.2.2.2.2.2.2.2 25 (by simp; omega)).trans (F1.2.2.2.2.2.2.2 25 (by simp))
            rw [this]; exact hL
          · have y1 : am_I g2 26 = am_I g1 26 := F2.2.2.2.2.2.2.1 26 (by simp; omega)
            have y2 : am_L g2 26 = am_L g1 26 := F2.2.2.2.2.2.2.2 26 (by simp; omega)
            rw [y1, y2, f0, f1]
            simp only [lm, em, if_true]
            rw [← hf]
        have hPg1 : cl_Pg P g1 := hPg.fi F1 (by decide)
        have hSg1 : cl_Sp P g1 := hSg.fi F1 (by decide)
        have st := l2_st_step (d := d) hPg1 hSg1 sP1
        cases st with
        | inl z =>
          have kk := z.1
          have R := z.2
          simp only [kk, am_wp, am_stp, am_en, am_as, am_pad, am_nth, am_set, am_st1, am_st2, am_kl, am_kill, am_mem, am_fv, am_tk, am_wt, am_bk, Option.toList, List.cons_append, List.nil_append, Nat.reduceAdd, Nat.reduceEqDiff, Nat.reduceLeDiff, reduceIte, Nat.reduceLT, or_self, true_or, or_true, if_true, if_false, and_self, and_true, true_and, not_false_eq_true, not_true_eq_false]
          exact am_call R fin
        | inr z =>
          have kk := z.1
          have R := z.2
          have n7 : ¬ (11 : Nat) = 7 := by decide
          simp only [kk, n7, am_wp, am_stp, am_en, am_as, am_pad, am_nth, am_set, am_st1, am_st2, am_kl, am_kill, am_mem, am_fv, am_tk, am_wt, am_bk, Option.toList, List.cons_append, List.nil_append, Nat.reduceAdd, Nat.reduceEqDiff, Nat.reduceLeDiff, reduceIte, Nat.reduceLT, or_self, true_or, or_true, if_true, if_false, and_self, and_true, true_and, not_false_eq_true, not_true_eq_false]
          exact am_call R fin
    · have keep : dm m y.2 = y.2 ∧ lm m ((pre.map (·.2)).foldl (lm m) (0, 0)) y.2 = (pre.map (·.2)).foldl (lm m) (0, 0) := by
        cases h2 : y.2 with
        | nil => simp [dm, lm]
        | cons e L =>
          have : ¬ e.1 = m := by rw [h2] at q; simpa [hm] using q
          simp [dm, lm, this]
      have go79 := next g (by rw [keep.1]; exact hS) F FI hL (by rw [keep.2]; exact hf)
      obtain ⟨t, L⟩ := y
      dsimp only at *
      cases L with
      | nil =>
        have t0 := sP.nil
        refine am_go [48, 79] 3 ?_
        simp only [am_wp, am_stp, am_en, am_as, am_pad, am_nth, am_set, am_st1, am_st2, am_kl, am_kill, am_mem, am_fv, am_tk, am_wt, am_bk, Option.toList, List.cons_append, List.nil_append, Nat.reduceAdd, Nat.reduceEqDiff, Nat.reduceLeDiff, reduceIte, Nat.reduceLT, or_self, true_or, or_true, if_true, if_false, and_self, and_true, true_and, not_false_eq_true, not_true_eq_false, fd_Blend_advance_41, fd_Blend_advance_42, fd_Blend_advance_45, gx', t0]
        exact go79
      | cons e L =>
        obtain ⟨c0, c1, c2, c3⟩ := sP.cons
        have em : ¬ e.1 = m := by simpa [hm] using q
        refine am_go [48, 79] 3 ?_
        simp only [am_wp, am_stp, am_en, am_as, am_pad, am_nth, am_set, am_st1, am_st2, am_kl, am_kill, am_mem, am_fv, am_tk, am_wt, am_bk, Option.toList, List.cons_append, List.nil_append, Nat.reduceAdd, Nat.reduceEqDiff, Nat.reduceLeDiff, reduceIte, Nat.reduceLT, or_self, true_or, or_true, if_true, if_false, and_self, and_true, true_and, not_false_eq_true, not_true_eq_false, fd_Blend_advance_41, fd_Blend_advance_42, fd_Blend_advance_45, gx', c0, one0]
        refine am_go [60, 79] 6 ?_
        simp only [am_wp, am_stp, am_en, am_as, am_pad, am_nth, am_set, am_st1, am_st2, am_kl, am_kill, am_mem, am_fv, am_tk, am_wt, am_bk, Option.toList, List.cons_append, List.nil_append, Nat.reduceAdd, Nat.reduceEqDiff, Nat.reduceLeDiff, reduceIte, Nat.reduceLT, or_self, true_or, or_true, if_true, if_false, and_self, and_true, true_and, not_false_eq_true, not_true_eq_false, fd_Blend_advance_48, fd_Blend_advance_49, fd_Blend_advance_52, fd_Blend_advance_53, fd_Blend_advance_56, fd_Blend_advance_57, hK'.1, gx', c1, hL]
        simp only [lc_eq]
        rw [if_neg em]
        exact go79
