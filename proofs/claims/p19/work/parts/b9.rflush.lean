/-! THE REFERENCE'S flushNow -/
/-- entries of a table, r of them from i on -/
def tf (K : Nat → Int64) (N : Nat → Int32) (V : Nat → Int64) : Nat → Nat → List ent
  | _, 0 => []
  | i, r + 1 => (K i, N i, V i) :: tf K N V (i + 1) r
theorem tl_tf (h : am_H) : ∀ r i, tl h i r = tf (am_L h 4) (am_I h 5) (am_L h 6) i r
  | 0, i => rfl
  | r + 1, i => by
    unfold tl tf
    rw [tl_tf h r (i + 1)]
theorem tf_len (K : Nat → Int64) (N : Nat → Int32) (V : Nat → Int64) : ∀ r i, (tf K N V i r).length = r
  | 0, i => rfl
  | r + 1, i => by simp [tf, tf_len K N V r (i + 1)]
theorem tf_get (K : Nat → Int64) (N : Nat → Int32) (V : Nat → Int64) : ∀ r i k, k < r → (tf K N V i r)[k]? = some (K (i + k), N (i + k), V (i + k))
  | 0, i, k, h => by omega
  | r + 1, i, 0, h => by simp [tf]
  | r + 1, i, k + 1, h => by
    unfold tf
    rw [List.getElem?_cons_succ, tf_get K N V r (i + 1) k (by omega), show i + 1 + k = i + (k + 1) by omega]
def rf_S (P : Nat) (h : am_H) (n : Nat) (Rs : List rn) : Prop := rf_K P h ∧ rt_S h n ∧ nm_R P h Rs
def rf_w : List Nat := [72, 73, 77, 78, 79, 80, 81, 82, 83, 84, 85, 86, 90, 91, 92, 93, 94, 95, 96, 97, 98, 99, 100, 101, 102, 103]
theorem rm_S.fr {P : Nat} {h h' : am_H} {r : rn} (c : rm_S P h r) (e79 : am_I h' 79 r.1 = am_I h 79 r.1) (e80 : am_I h' 80 r.1 = am_I h 80 r.1) (e77 : am_I h' 77 r.1 = am_I h 77 r.1) (e82 : ∀ k, k < 1024 → am_I h' 82 (1024 * r.1 + k) = am_I h 82 (1024 * r.1 + k)) (e73 : ∀ x ∈ rn_p r, ∀ j, j < 128 → am_I h' 73 (x * 128 + j) = am_I h 73 (x * 128 + j)) : rm_S P h' r := by
  obtain ⟨⟨a1, a2, a3, a4⟩, b1, b2, b3, b4⟩ := c
  refine ⟨⟨a1, by rw [e80]; exact a2, a3, fun k q hk => ?_⟩, by rw [e79]; exact b1, b2, by rw [e77]; exact b3, b4⟩
  obtain ⟨x1, x2⟩ := a4 k q hk
  have := (List.getElem?_eq_some_iff.mp hk).1
  exact ⟨by rw [e82 k (by omega)]; exact x1, x2.mono (e73 q.1 (List.mem_map_of_mem (List.mem_of_getElem? hk)))⟩
theorem nm_R.fr {P : Nat} {h h' : am_H} {Rs : List rn} (N : nm_R P h Rs) (e24 : am_I h' 72 24 = am_I h 72 24) (e77 : am_I h' 77 = am_I h 77) (e79 : am_I h' 79 = am_I h 79) (e80 : am_I h' 80 = am_I h 80) (e82 : am_I h' 82 = am_I h 82) (e86 : am_I h' 86 = am_I h 86) (e73 : ∀ x ∈ pgs Rs, ∀ j, j < 128 → am_I h' 73 (x * 128 + j) = am_I h 73 (x * 128 + j)) : nm_R P h' Rs := by
  obtain ⟨c1, c2, c3, c4, c5, c6⟩ := N
  refine ⟨fun i r hr => ?_, by rw [e24]; exact c2, c3, c4, c5, fun s h1 h2 => by rw [e77]; exact c6 s h1 h2⟩
  obtain ⟨x1, x2⟩ := c1 i r hr
  exact ⟨by rw [e86]; exact x1, x2.fr (by rw [e79]) (by rw [e80]) (by rw [e77]) (fun k _ => by rw [e82]) (fun x hx => e73 x (List.mem_flatMap.mpr ⟨r, List.mem_of_getElem? hr, hx⟩))⟩
theorem nm_R.fi {P : Nat} {S : List Nat} {h h' : am_H} {Rs : List rn} (N : nm_R P h Rs) (f : am_fi S h h') (e24 : am_I h' 72 24 = am_I h 72 24) (hS : 73 ∉ S ∧ 77 ∉ S ∧ 79 ∉ S ∧ 80 ∉ S ∧ 82 ∉ S ∧ 86 ∉ S) : nm_R P h' Rs :=
  N.fr e24 (f.2.2.2.2.2.2.1 77 hS.2.1) (f.2.2.2.2.2.2.1 79 hS.2.2.1) (f.2.2.2.2.2.2.1 80 hS.2.2.2.1) (f.2.2.2.2.2.2.1 82 hS.2.2.2.2.1) (f.2.2.2.2.2.2.1 86 hS.2.2.2.2.2) (fun x _ j _ => congrFun (f.2.2.2.2.2.2.1 73 hS.1) _)
theorem rf_K.mv {P : Nat} {S : List Nat} {h h' : am_H} (c : rf_K P h) (f : am_fi S h h') (e1 : am_I h' 72 1 = am_I h 72 1) (e8 : am_I h' 72 8 = am_I h 72 8) (e3 : am_I h' 72 3 = am_I h 72 3) : rf_K P h' := by
  obtain ⟨c1, c2, c3, c4, c5⟩ := c
  exact ⟨c1.fi f, by rw [e1]; exact c2, by rw [e8]; exact c3, by rw [e3]; exact c4, c5⟩
theorem rt_S.mv {S : List Nat} {n : Nat} {h h' : am_H} (c : rt_S h n) (f : am_fi S h h') (e : am_I h' 72 11 = am_I h 72 11) : rt_S h' n := ⟨c.1.fi f, by rw [e]; exact c.2.1, c.2.2⟩
/-- a run that was written stands beside the others -/
theorem nm_R.rw {P s : Nat} {h h' : am_H} {lv : Int32} {L : List ent} {ps : List (Nat × List ent)} {Rs : List rn} (N : nm_R P h Rs) (hP : P ≤ 1024) (q : rw_Q P h h' lv L s ps) : nm_R P h' Rs ∧ s ∉ Rs.map (·.1) ∧ ∀ p ∈ ps.map (·.1), p ∉ pgs Rs := by
  obtain ⟨q1, q2, ⟨q3, q3'⟩, q4, q5, q6, q7, q8, q9, q10, q11, q12⟩ := q
  have hs : s ∉ Rs.map (·.1) := fun hm => by
    obtain ⟨r, r1, r2⟩ := List.mem_map.mp hm
    rw [← r2, (N.all r r1).2.2.2.1] at q3'
    exact q3' (by decide)
  have hp : ∀ p ∈ ps.map (·.1), p ∉ pgs Rs := fun p hp hm => by
    obtain ⟨x, x1, x2⟩ := List.mem_map.mp hp
    obtain ⟨y1, y2⟩ := q8 x x1
    have := ((N.us hP).2 x.1 y1.2.1).mpr (by rw [x2]; exact hm)
    exact y2 this
  refine ⟨?_, hs, hp⟩
  obtain ⟨c1, c2, c3, c4, c5, c6⟩ := N
  have e77 : am_I h' 77 = am_I h 77 := q1.2.2.2.2.2.2.1 77 (by simp)
  refine ⟨fun i r hr => ?_, by rw [q2 24 (by decide)]; exact c2, c3, c4, c5, fun t h1 h2 => by rw [e77]; exact c6 t h1 h2⟩
  obtain ⟨x1, x2⟩ := c1 i r hr
  have hne : r.1 ≠ s := fun e => hs (e ▸ List.mem_map_of_mem (List.mem_of_getElem? hr))
  refine ⟨by rw [q1.2.2.2.2.2.2.1 86 (by simp)]; exact x1, x2.fr ?_ ?_ (by rw [e77]) (fun k hk => q6 _ ?_) (fun x hx j hj => q10 x (fun hm => hp x hm (List.mem_flatMap.mpr ⟨r, List.mem_of_getElem? hr, hx⟩)) j hj)⟩
  · rw [q4]; unfold up_f; rw [if_neg hne]
  · rw [q5]; unfold up_f; rw [if_neg hne]
  · rcases Nat.lt_or_gt_of_ne hne with e | e <;> omega
/-- the table's entries become the list -/
theorem l2_ft_copy {d n : Nat} {h : am_H} {Q : am_O → am_H → Prop} (hS : mo_Sk h) (hn : n ≤ 64) (h31 : am_I h 72 31 = nI n) (hx : ∀ g, am_fi [92, 93, 94] h g → tr_S g 92 93 94 (tf (am_L h 74) (am_I h 75) (am_L h 76) 0 n) → am_Ex nm_pr d mt_Mo_flushNow (78, [.ref 72, .int (nI n), .retAddr 0, .retAddr 0], [], g) Q) : ∀ (m i : Nat) (g : am_H), m + i = n → am_fi [92, 93, 94] h g → tr_S g 92 93 94 ((tf (am_L h 74) (am_I h 75) (am_L h 76) 0 n).take i) →
    am_Ex nm_pr d mt_Mo_flushNow (28, [.ref 72, .int (nI i), .retAddr 0, .retAddr 0], [], g) Q
  | 0, i, g, hm, F, T => by
    have e : i = n := by omega
    subst e
    have k72 := (hS.fi F).1
    have h31' : am_I g 72 31 = nI i := by rw [F.2.2.2.2.2.2.1 72 (by simp)]; exact h31
    have l1 : ¬ nI i < nI i := nI_nlt (Nat.le_refl _) (by omega)
    rw [List.take_of_length_le (by rw [tf_len]; omega)] at T
    refine am_go [36, 78] 4 ?_
    simp only [am_wp, am_stp, am_en, am_as, am_pad, am_nth, am_set, am_st1, am_st2, am_kl, am_kill, am_mem, am_fv, am_tk, am_wt, am_bk, Option.toList, List.cons_append, List.nil_append, Nat.reduceAdd, Nat.reduceEqDiff, Nat.reduceLeDiff, reduceIte, Nat.reduceLT, or_self, true_or, or_true, if_true, if_false, and_self, and_true, true_and, not_false_eq_true, not_true_eq_false, fd_Mo_flushNow_28, fd_Mo_flushNow_29, fd_Mo_flushNow_30, fd_Mo_flushNow_33, k72, h31', l1]
    exact hx g F T
  | m + 1, i, g, hm, F, T => by
    have G := hS.fi F
    obtain ⟨k72, r32, r33, r34, k92, n92, k93, n93, k94, n94⟩ := mo_ky G
    obtain ⟨-, r12, r13, r14, k74, n74, k75, n75, k76, n76⟩ := rt_ar G
    have hi : i < n := by omega
    have hget := tf_get (am_L h 74) (am_I h 75) (am_L h 76) n 0 i hi
    rw [Nat.zero_add] at hget
    have h31' : am_I g 72 31 = nI n := by rw [F.2.2.2.2.2.2.1 72 (by simp)]; exact h31
    have t1 : am_L g 74 i = am_L h 74 i := by rw [F.2.2.2.2.2.2.2 74 (by simp)]
    have t2 : am_I g 75 i = am_I h 75 i := by rw [F.2.2.2.2.2.2.1 75 (by simp)]
    have t3 : am_L g 76 i = am_L h 76 i := by rw [F.2.2.2.2.2.2.2 76 (by simp)]
    have l1 : nI i < nI n := nI_lt hi (by omega)
    have i1 := am_inb (c := i) (N := 45000) (by omega) (by omega)
    have q1 : (nI i).toNatClampNeg = i := nI_clamp (by omega)
    have i2 := am_inb (c := i) (N := 64) (by omega) (by omega)
    refine am_go [36, 78] 4 ?_
    simp only [am_wp, am_stp, am_en, am_as, am_pad, am_nth, am_set, am_st1, am_st2, am_kl, am_kill, am_mem, am_fv, am_tk, am_wt, am_bk, Option.toList, List.cons_append, List.nil_append, Nat.reduceAdd, Nat.reduceEqDiff, Nat.reduceLeDiff, reduceIte, Nat.reduceLT, or_self, true_or, or_true, if_true, if_false, and_self, and_true, true_and, not_false_eq_true, not_true_eq_false, fd_Mo_flushNow_28, fd_Mo_flushNow_29, fd_Mo_flushNow_30, fd_Mo_flushNow_33, k72, h31', l1]
    refine am_go [] 8 ?_
    simp only [am_wp, am_stp, am_en, am_as, am_pad, am_nth, am_set, am_st1, am_st2, am_kl, am_kill, am_mem, am_fv, am_tk, am_wt, am_bk, Option.toList, List.cons_append, List.nil_append, Nat.reduceAdd, Nat.reduceEqDiff, Nat.reduceLeDiff, reduceIte, Nat.reduceLT, or_self, true_or, or_true, if_true, if_false, and_self, and_true, true_and, not_false_eq_true, not_true_eq_false, fd_Mo_flushNow_36, fd_Mo_flushNow_37, fd_Mo_flushNow_40, fd_Mo_flushNow_41, fd_Mo_flushNow_42, fd_Mo_flushNow_45, fd_Mo_flushNow_46, fd_Mo_flushNow_47, k72, r32, r12, k74, n74, i2, q1, t1, k92, n92, i1]
    refine am_go [] 8 ?_
    simp only [am_wp, am_stp, am_en, am_as, am_pad, am_nth, am_set, am_st1, am_st2, am_kl, am_kill, am_mem, am_fv, am_tk, am_wt, am_bk, Option.toList, List.cons_append, List.nil_append, Nat.reduceAdd, Nat.reduceEqDiff, Nat.reduceLeDiff, reduceIte, Nat.reduceLT, or_self, true_or, or_true, if_true, if_false, and_self, and_true, true_and, not_false_eq_true, not_true_eq_false, fd_Mo_flushNow_48, fd_Mo_flushNow_49, fd_Mo_flushNow_52, fd_Mo_flushNow_53, fd_Mo_flushNow_54, fd_Mo_flushNow_57, fd_Mo_flushNow_58, fd_Mo_flushNow_59, hx_nx_sI, hx_ce_sI, hx_sl_sI, hx_kd_sI, hx_ln_sI, hx_I_sI, hx_L_sI, hx_R_sI, hx_nx_sL, hx_ce_sL, hx_sl_sL, hx_kd_sL, hx_ln_sL, hx_I_sL, hx_L_sL, hx_R_sL, hx_nx_sR, hx_ce_sR, hx_sl_sR, hx_kd_sR, hx_ln_sR, hx_I_sR, hx_L_sR, hx_R_sR, hx_nx_al, hx_ce_al, hx_sl_al, hx_kd_al, hx_ln_al, hx_I_al, hx_L_al, hx_R_al, hx_nx_row, hx_ce_row, hx_sl_row, hx_kd_row, hx_ln_row, hx_I_row, hx_L_row, hx_R_row, hx_nx_mk, hx_kd_mk, hx_ln_mk, hx_I_mk, hx_L_mk, hx_R_mk, k72, r33, r13, k75, n75, i2, q1, t2, k93, n93, i1]
    refine am_go [28] 10 ?_
    simp only [am_wp, am_stp, am_en, am_as, am_pad, am_nth, am_set, am_st1, am_st2, am_kl, am_kill, am_mem, am_fv, am_tk, am_wt, am_bk, Option.toList, List.cons_append, List.nil_append, Nat.reduceAdd, Nat.reduceEqDiff, Nat.reduceLeDiff, reduceIte, Nat.reduceLT, or_self, true_or, or_true, if_true, if_false, and_self, and_true, true_and, not_false_eq_true, not_true_eq_false, fd_Mo_flushNow_60, fd_Mo_flushNow_61, fd_Mo_flushNow_64, fd_Mo_flushNow_65, fd_Mo_flushNow_66, fd_Mo_flushNow_69, fd_Mo_flushNow_70, fd_Mo_flushNow_71, fd_Mo_flushNow_72, fd_Mo_flushNow_75, hx_nx_sI, hx_ce_sI, hx_sl_sI, hx_kd_sI, hx_ln_sI, hx_I_sI, hx_L_sI, hx_R_sI, hx_nx_sL, hx_ce_sL, hx_sl_sL, hx_kd_sL, hx_ln_sL, hx_I_sL, hx_L_sL, hx_R_sL, hx_nx_sR, hx_ce_sR, hx_sl_sR, hx_kd_sR, hx_ln_sR, hx_I_sR, hx_L_sR, hx_R_sR, hx_nx_al, hx_ce_al, hx_sl_al, hx_kd_al, hx_ln_al, hx_I_al, hx_L_al, hx_R_al, hx_nx_row, hx_ce_row, hx_sl_row, hx_kd_row, hx_ln_row, hx_I_row, hx_L_row, hx_R_row, hx_nx_mk, hx_kd_mk, hx_ln_mk, hx_I_mk, hx_L_mk, hx_R_mk, k72, r34, r14, k76, n76, i2, q1, t3, k94, n94, i1, nI_1]
    have hlt : ((tf (am_L h 74) (am_I h 75) (am_L h 76) 0 n).take i).length = i := by rw [List.length_take, tf_len]; omega
    refine l2_ft_copy hS hn h31 hx m (i + 1) _ (by omega) (((F.sL (by simp)).sI (by simp)).sL (by simp)) ?_
    rw [take_snoc hget]
    refine T.snoc (fun j hj => ?_) ?_ ?_ ?_
    · rw [hlt] at hj
      refine ⟨?_, ?_, ?_⟩
      · simp only [hx_nx_sI, hx_ce_sI, hx_sl_sI, hx_kd_sI, hx_ln_sI, hx_I_sI, hx_L_sI, hx_R_sI, hx_nx_sL, hx_ce_sL, hx_sl_sL, hx_kd_sL, hx_ln_sL, hx_I_sL, hx_L_sL, hx_R_sL, hx_nx_sR, hx_ce_sR, hx_sl_sR, hx_kd_sR, hx_ln_sR, hx_I_sR, hx_L_sR, hx_R_sR, hx_nx_al, hx_ce_al, hx_sl_al, hx_kd_al, hx_ln_al, hx_I_al, hx_L_al, hx_R_al, hx_nx_row, hx_ce_row, hx_sl_row, hx_kd_row, hx_ln_row, hx_I_row, hx_L_row, hx_R_row, hx_nx_mk, hx_kd_mk, hx_ln_mk, hx_I_mk, hx_L_mk, hx_R_mk, am_wp, am_stp, am_en, am_as, am_pad, am_nth, am_set, am_st1, am_st2, am_kl, am_kill, am_mem, am_fv, am_tk, am_wt, am_bk, Option.toList, List.cons_append, List.nil_append, Nat.reduceAdd, Nat.reduceEqDiff, Nat.reduceLeDiff, reduceIte, Nat.reduceLT, or_self, true_or, or_true, if_true, if_false, and_self, and_true, true_and, not_false_eq_true, not_true_eq_false]; rw [if_neg (by omega)]
      · simp only [hx_nx_sI, hx_ce_sI, hx_sl_sI, hx_kd_sI, hx_ln_sI, hx_I_sI, hx_L_sI, hx_R_sI, hx_nx_sL, hx_ce_sL, hx_sl_sL, hx_kd_sL, hx_ln_sL, hx_I_sL, hx_L_sL, hx_R_sL, hx_nx_sR, hx_ce_sR, hx_sl_sR, hx_kd_sR, hx_ln_sR, hx_I_sR, hx_L_sR, hx_R_sR, hx_nx_al, hx_ce_al, hx_sl_al, hx_kd_al, hx_ln_al, hx_I_al, hx_L_al, hx_R_al, hx_nx_row, hx_ce_row, hx_sl_row, hx_kd_row, hx_ln_row, hx_I_row, hx_L_row, hx_R_row, hx_nx_mk, hx_kd_mk, hx_ln_mk, hx_I_mk, hx_L_mk, hx_R_mk, am_wp, am_stp, am_en, am_as, am_pad, am_nth, am_set, am_st1, am_st2, am_kl, am_kill, am_mem, am_fv, am_tk, am_wt, am_bk, Option.toList, List.cons_append, List.nil_append, Nat.reduceAdd, Nat.reduceEqDiff, Nat.reduceLeDiff, reduceIte, Nat.reduceLT, or_self, true_or, or_true, if_true, if_false, and_self, and_true, true_and, not_false_eq_true, not_true_eq_false]; rw [if_neg (by omega)]
      · simp only [hx_nx_sI, hx_ce_sI, hx_sl_sI, hx_kd_sI, hx_ln_sI, hx_I_sI, hx_L_sI, hx_R_sI, hx_nx_sL, hx_ce_sL, hx_sl_sL, hx_kd_sL, hx_ln_sL, hx_I_sL, hx_L_sL, hx_R_sL, hx_nx_sR, hx_ce_sR, hx_sl_sR, hx_kd_sR, hx_ln_sR, hx_I_sR, hx_L_sR, hx_R_sR, hx_nx_al, hx_ce_al, hx_sl_al, hx_kd_al, hx_ln_al, hx_I_al, hx_L_al, hx_R_al, hx_nx_row, hx_ce_row, hx_sl_row, hx_kd_row, hx_ln_row, hx_I_row, hx_L_row, hx_R_row, hx_nx_mk, hx_kd_mk, hx_ln_mk, hx_I_mk, hx_L_mk, hx_R_mk, am_wp, am_stp, am_en, am_as, am_pad, am_nth, am_set, am_st1, am_st2, am_kl, am_kill, am_mem, am_fv, am_tk, am_wt, am_bk, Option.toList, List.cons_append, List.nil_append, Nat.reduceAdd, Nat.reduceEqDiff, Nat.reduceLeDiff, reduceIte, Nat.reduceLT, or_self, true_or, or_true, if_true, if_false, and_self, and_true, true_and, not_false_eq_true, not_true_eq_false]; rw [if_neg (by omega)]
    · rw [hlt]; simp only [hx_nx_sI, hx_ce_sI, hx_sl_sI, hx_kd_sI, hx_ln_sI, hx_I_sI, hx_L_sI, hx_R_sI, hx_nx_sL, hx_ce_sL, hx_sl_sL, hx_kd_sL, hx_ln_sL, hx_I_sL, hx_L_sL, hx_R_sL, hx_nx_sR, hx_ce_sR, hx_sl_sR, hx_kd_sR, hx_ln_sR, hx_I_sR, hx_L_sR, hx_R_sR, hx_nx_al, hx_ce_al, hx_sl_al, hx_kd_al, hx_ln_al, hx_I_al, hx_L_al, hx_R_al, hx_nx_row, hx_ce_row, hx_sl_row, hx_kd_row, hx_ln_row, hx_I_row, hx_L_row, hx_R_row, hx_nx_mk, hx_kd_mk, hx_ln_mk, hx_I_mk, hx_L_mk, hx_R_mk, am_wp, am_stp, am_en, am_as, am_pad, am_nth, am_set, am_st1, am_st2, am_kl, am_kill, am_mem, am_fv, am_tk, am_wt, am_bk, Option.toList, List.cons_append, List.nil_append, Nat.reduceAdd, Nat.reduceEqDiff, Nat.reduceLeDiff, reduceIte, Nat.reduceLT, or_self, true_or, or_true, if_true, if_false, and_self, and_true, true_and, not_false_eq_true, not_true_eq_false]
    · rw [hlt]; simp only [hx_nx_sI, hx_ce_sI, hx_sl_sI, hx_kd_sI, hx_ln_sI, hx_I_sI, hx_L_sI, hx_R_sI, hx_nx_sL, hx_ce_sL, hx_sl_sL, hx_kd_sL, hx_ln_sL, hx_I_sL, hx_L_sL, hx_R_sL, hx_nx_sR, hx_ce_sR, hx_sl_sR, hx_kd_sR, hx_ln_sR, hx_I_sR, hx_L_sR, hx_R_sR, hx_nx_al, hx_ce_al, hx_sl_al, hx_kd_al, hx_ln_al, hx_I_al, hx_L_al, hx_R_al, hx_nx_row, hx_ce_row, hx_sl_row, hx_kd_row, hx_ln_row, hx_I_row, hx_L_row, hx_R_row, hx_nx_mk, hx_kd_mk, hx_ln_mk, hx_I_mk, hx_L_mk, hx_R_mk, am_wp, am_stp, am_en, am_as, am_pad, am_nth, am_set, am_st1, am_st2, am_kl, am_kill, am_mem, am_fv, am_tk, am_wt, am_bk, Option.toList, List.cons_append, List.nil_append, Nat.reduceAdd, Nat.reduceEqDiff, Nat.reduceLeDiff, reduceIte, Nat.reduceLT, or_self, true_or, or_true, if_true, if_false, and_self, and_true, true_and, not_false_eq_true, not_true_eq_false]
    · rw [hlt]; simp only [hx_nx_sI, hx_ce_sI, hx_sl_sI, hx_kd_sI, hx_ln_sI, hx_I_sI, hx_L_sI, hx_R_sI, hx_nx_sL, hx_ce_sL, hx_sl_sL, hx_kd_sL, hx_ln_sL, hx_I_sL, hx_L_sL, hx_R_sL, hx_nx_sR, hx_ce_sR, hx_sl_sR, hx_kd_sR, hx_ln_sR, hx_I_sR, hx_L_sR, hx_R_sR, hx_nx_al, hx_ce_al, hx_sl_al, hx_kd_al, hx_ln_al, hx_I_al, hx_L_al, hx_R_al, hx_nx_row, hx_ce_row, hx_sl_row, hx_kd_row, hx_ln_row, hx_I_row, hx_L_row, hx_R_row, hx_nx_mk, hx_kd_mk, hx_ln_mk, hx_I_mk, hx_L_mk, hx_R_mk, am_wp, am_stp, am_en, am_as, am_pad, am_nth, am_set, am_st1, am_st2, am_kl, am_kill, am_mem, am_fv, am_tk, am_wt, am_bk, Option.toList, List.cons_append, List.nil_append, Nat.reduceAdd, Nat.reduceEqDiff, Nat.reduceLeDiff, reduceIte, Nat.reduceLT, or_self, true_or, or_true, if_true, if_false, and_self, and_true, true_and, not_false_eq_true, not_true_eq_false]
theorem l2_now_shift {d n s : Nat} {h : am_H} {Q : am_O → am_H → Prop} (hS : mo_Sk h) (hn : n < 9) (hx : ∀ g, am_fi [86] h g → am_I g 86 = sh_f (am_I h 86) 0 n → am_Ex nm_pr d mt_Mo_flushNow (129, [.ref 72, .int (nI s), .int (nI 0), .retAddr 0], [], g) Q) : ∀ (i : Nat) (g : am_H), i ≤ n → am_fi [86] h g → am_I g 86 = sh_f (am_I h 86) i n →
    am_Ex nm_pr d mt_Mo_flushNow (105, [.ref 72, .int (nI s), .int (nI i), .retAddr 0], [], g) Q
  | 0, g, hi, F, e86 => by
    have l0 : ¬ (0 : Int32) < nI 0 := by decide
    refine am_go [109, 129] 2 ?_
    simp only [am_wp, am_stp, am_en, am_as, am_pad, am_nth, am_set, am_st1, am_st2, am_kl, am_kill, am_mem, am_fv, am_tk, am_wt, am_bk, Option.toList, List.cons_append, List.nil_append, Nat.reduceAdd, Nat.reduceEqDiff, Nat.reduceLeDiff, reduceIte, Nat.reduceLT, or_self, true_or, or_true, if_true, if_false, and_self, and_true, true_and, not_false_eq_true, not_true_eq_false, fd_Mo_flushNow_105, fd_Mo_flushNow_106, l0]
    exact hx g F e86
  | i + 1, g, hi, F, e86 => by
    obtain ⟨k72, -, -, -, -, -, -, -, -, -, ⟨r25, k86, n86⟩, -⟩ := mo_sl_ (hS.fi F)
    have l0 : (0 : Int32) < nI (i + 1) := nI_gt0 (by omega) (by omega)
    have i1 := am_inb (c := i) (N := 9) (by omega) (by omega)
    have q1 : (nI i).toNatClampNeg = i := nI_clamp (by omega)
    have i2 : (nI (i + 1) < 0 ∨ 8 ≤ i) = False := eq_false (fun q => by rcases q with q | q; exact nI_pos (by omega) q; omega)
    have q2 : (nI (i + 1)).toNatClampNeg = i + 1 := nI_clamp (by omega)
    have em : nI (i + 1) - 1 = nI i := nI_pred i
    have em2 : nI (i + 1) + -1 = nI i := by rw [← em, Int32.sub_eq_add_neg]
    refine am_go [109, 129] 2 ?_
    simp only [am_wp, am_stp, am_en, am_as, am_pad, am_nth, am_set, am_st1, am_st2, am_kl, am_kill, am_mem, am_fv, am_tk, am_wt, am_bk, Option.toList, List.cons_append, List.nil_append, Nat.reduceAdd, Nat.reduceEqDiff, Nat.reduceLeDiff, reduceIte, Nat.reduceLT, or_self, true_or, or_true, if_true, if_false, and_self, and_true, true_and, not_false_eq_true, not_true_eq_false, fd_Mo_flushNow_105, fd_Mo_flushNow_106, l0]
    refine am_go [105] 12 ?_
    simp only [am_wp, am_stp, am_en, am_as, am_pad, am_nth, am_set, am_st1, am_st2, am_kl, am_kill, am_mem, am_fv, am_tk, am_wt, am_bk, Option.toList, List.cons_append, List.nil_append, Nat.reduceAdd, Nat.reduceEqDiff, Nat.reduceLeDiff, reduceIte, Nat.reduceLT, or_self, true_or, or_true, if_true, if_false, and_self, and_true, true_and, not_false_eq_true, not_true_eq_false, fd_Mo_flushNow_109, fd_Mo_flushNow_110, fd_Mo_flushNow_113, fd_Mo_flushNow_114, fd_Mo_flushNow_115, fd_Mo_flushNow_118, fd_Mo_flushNow_119, fd_Mo_flushNow_120, fd_Mo_flushNow_121, fd_Mo_flushNow_122, fd_Mo_flushNow_123, fd_Mo_flushNow_126, k72, r25, k86, n86, em, i1, q1, q2, i2, em2]
    refine l2_now_shift hS hn hx i _ (by omega) (F.sI (by simp)) ?_
    rw [← sh_s (am_I h 86) i n (by omega), ← e86]
    funext j
    simp only [hx_nx_sI, hx_ce_sI, hx_sl_sI, hx_kd_sI, hx_ln_sI, hx_I_sI, hx_L_sI, hx_R_sI, hx_nx_sL, hx_ce_sL, hx_sl_sL, hx_kd_sL, hx_ln_sL, hx_I_sL, hx_L_sL, hx_R_sL, hx_nx_sR, hx_ce_sR, hx_sl_sR, hx_kd_sR, hx_ln_sR, hx_I_sR, hx_L_sR, hx_R_sR, hx_nx_al, hx_ce_al, hx_sl_al, hx_kd_al, hx_ln_al, hx_I_al, hx_L_al, hx_R_al, hx_nx_row, hx_ce_row, hx_sl_row, hx_kd_row, hx_ln_row, hx_I_row, hx_L_row, hx_R_row, hx_nx_mk, hx_kd_mk, hx_ln_mk, hx_I_mk, hx_L_mk, hx_R_mk, am_wp, am_stp, am_en, am_as, am_pad, am_nth, am_set, am_st1, am_st2, am_kl, am_kill, am_mem, am_fv, am_tk, am_wt, am_bk, Option.toList, List.cons_append, List.nil_append, Nat.reduceAdd, Nat.reduceEqDiff, Nat.reduceLeDiff, reduceIte, Nat.reduceLT, or_self, true_or, or_true, if_true, if_false, and_self, and_true, true_and, not_false_eq_true, not_true_eq_false]
theorem l2_flushNow6 {d P n : Nat} {Rs : List rn} {h : am_H} (R : rf_S P h n Rs) (hn : 0 < n) (h6 : up 0 (lvs Rs) = 6) : am_Rt nm_pr (d + 6) mi_Mo_flushNow [.ref 72] h (fun o h' => (∃ x, o = .inl (some (.int x))) ∧ h' = h) := by
  obtain ⟨⟨hS, -⟩, T, N⟩ := R
  have n64 := T.2.2
  have z : ¬ nI n = 0 := nI_ne0 hn (by omega)
  have e6 : (nI 6 = 6) = True := eq_true rfl
  refine am_in' (d := d + 5) mt_Mo_flushNow 4 rfl rfl rfl ?_
  refine am_go [7, 16] 3 ?_
  simp only [am_wp, am_stp, am_en, am_as, am_pad, am_nth, am_set, am_st1, am_st2, am_kl, am_kill, am_mem, am_fv, am_tk, am_wt, am_bk, Option.toList, List.cons_append, List.nil_append, Nat.reduceAdd, Nat.reduceEqDiff, Nat.reduceLeDiff, reduceIte, Nat.reduceLT, or_self, true_or, or_true, if_true, if_false, and_self, and_true, true_and, not_false_eq_true, not_true_eq_false, fd_Mo_flushNow_0, fd_Mo_flushNow_1, fd_Mo_flushNow_4, hS.1, T.2.1, z]
  refine am_go [] 2 ?_
  simp only [am_wp, am_stp, am_en, am_as, am_pad, am_nth, am_set, am_st1, am_st2, am_kl, am_kill, am_mem, am_fv, am_tk, am_wt, am_bk, Option.toList, List.cons_append, List.nil_append, Nat.reduceAdd, Nat.reduceEqDiff, Nat.reduceLeDiff, reduceIte, Nat.reduceLT, or_self, true_or, or_true, if_true, if_false, and_self, and_true, true_and, not_false_eq_true, not_true_eq_false, fd_Mo_flushNow_7, fd_Mo_flushNow_8, hS.1]
  refine am_call (l2_level0 (d := d + 4) hS N) (fun o h1 q => ?_)
  obtain ⟨rfl, rfl⟩ := q
  rw [h6]
  simp only [am_wp, am_stp, am_en, am_as, am_pad, am_nth, am_set, am_st1, am_st2, am_kl, am_kill, am_mem, am_fv, am_tk, am_wt, am_bk, Option.toList, List.cons_append, List.nil_append, Nat.reduceAdd, Nat.reduceEqDiff, Nat.reduceLeDiff, reduceIte, Nat.reduceLT, or_self, true_or, or_true, if_true, if_false, and_self, and_true, true_and, not_false_eq_true, not_true_eq_false]
  refine am_go [18] 4 ?_
  simp only [am_wp, am_stp, am_en, am_as, am_pad, am_nth, am_set, am_st1, am_st2, am_kl, am_kill, am_mem, am_fv, am_tk, am_wt, am_bk, Option.toList, List.cons_append, List.nil_append, Nat.reduceAdd, Nat.reduceEqDiff, Nat.reduceLeDiff, reduceIte, Nat.reduceLT, or_self, true_or, or_true, if_true, if_false, and_self, and_true, true_and, not_false_eq_true, not_true_eq_false, fd_Mo_flushNow_11, fd_Mo_flushNow_13, fd_Mo_flushNow_16, fd_Mo_flushNow_17, e6]
  exact ⟨_, rfl⟩
theorem l2_flushNow {d P n : Nat} {Rs : List rn} {h : am_H} (R : rf_S P h n Rs) (hn : 0 < n) (hT : so (tf (am_L h 74) (am_I h 75) (am_L h 76) 0 n)) (ho : ∀ e ∈ tf (am_L h 74) (am_I h 75) (am_L h 76) 0 n, eo e) (h6 : up 0 (lvs Rs) < 6) (hl : Rs.length < 9) : am_Rt nm_pr (d + 6) mi_Mo_flushNow [.ref 72] h (fun o h' => (∃ x, o = .inl (some (.int x))) ∧ am_fi rf_w h h' ∧ am_I h' 72 0 = am_I h 72 0 ∧ ((npg (tf (am_L h 74) (am_I h 75) (am_L h 76) 0 n) + (pgs Rs).length ≤ P - 2 ∧ ∃ s ps, rf_S P h' 0 ((s, 0, ps) :: Rs) ∧ ch_E ps = tf (am_L h 74) (am_I h 75) (am_L h 76) 0 n) ∨ (P - 2 < npg (tf (am_L h 74) (am_I h 75) (am_L h 76) 0 n) + (pgs Rs).length ∧ rf_S P h' n Rs))) := by
  obtain ⟨hK, T, N⟩ := id R
  obtain ⟨hS, jP, j8, j3, P4, P1024⟩ := id hK
  have n64 := T.2.2
  have i11 := T.2.1
  have ul := up_le 0 (lvs Rs)
  have z : ¬ nI n = 0 := nI_ne0 hn (by omega)
  have e6 : (nI (up 0 (lvs Rs)) = 6) = False := eq_false (fun q => by
    have : nI (up 0 (lvs Rs)) = nI 6 := q
    rw [nI_eq (by omega) (by omega)] at this
    omega)
  generalize hTd : tf (am_L h 74) (am_I h 75) (am_L h 76) 0 n = TL at *
  have hTl : TL.length = n := by rw [← hTd]; exact tf_len _ _ _ _ _
  refine am_in' (d := d + 5) mt_Mo_flushNow 4 rfl rfl rfl ?_
  refine am_go [7, 16] 3 ?_
  simp only [am_wp, am_stp, am_en, am_as, am_pad, am_nth, am_set, am_st1, am_st2, am_kl, am_kill, am_mem, am_fv, am_tk, am_wt, am_bk, Option.toList, List.cons_append, List.nil_append, Nat.reduceAdd, Nat.reduceEqDiff, Nat.reduceLeDiff, reduceIte, Nat.reduceLT, or_self, true_or, or_true, if_true, if_false, and_self, and_true, true_and, not_false_eq_true, not_true_eq_false, fd_Mo_flushNow_0, fd_Mo_flushNow_1, fd_Mo_flushNow_4, hS.1, i11, z]
  refine am_go [] 2 ?_
  simp only [am_wp, am_stp, am_en, am_as, am_pad, am_nth, am_set, am_st1, am_st2, am_kl, am_kill, am_mem, am_fv, am_tk, am_wt, am_bk, Option.toList, List.cons_append, List.nil_append, Nat.reduceAdd, Nat.reduceEqDiff, Nat.reduceLeDiff, reduceIte, Nat.reduceLT, or_self, true_or, or_true, if_true, if_false, and_self, and_true, true_and, not_false_eq_true, not_true_eq_false, fd_Mo_flushNow_7, fd_Mo_flushNow_8, hS.1]
  refine am_call (l2_level0 (d := d + 4) hS N) (fun o h1 q => ?_)
  obtain ⟨rfl, rfl⟩ := q
  simp only [am_wp, am_stp, am_en, am_as, am_pad, am_nth, am_set, am_st1, am_st2, am_kl, am_kill, am_mem, am_fv, am_tk, am_wt, am_bk, Option.toList, List.cons_append, List.nil_append, Nat.reduceAdd, Nat.reduceEqDiff, Nat.reduceLeDiff, reduceIte, Nat.reduceLT, or_self, true_or, or_true, if_true, if_false, and_self, and_true, true_and, not_false_eq_true, not_true_eq_false]
  refine am_go [16, 18] 2 ?_
  simp only [am_wp, am_stp, am_en, am_as, am_pad, am_nth, am_set, am_st1, am_st2, am_kl, am_kill, am_mem, am_fv, am_tk, am_wt, am_bk, Option.toList, List.cons_append, List.nil_append, Nat.reduceAdd, Nat.reduceEqDiff, Nat.reduceLeDiff, reduceIte, Nat.reduceLT, or_self, true_or, or_true, if_true, if_false, and_self, and_true, true_and, not_false_eq_true, not_true_eq_false, fd_Mo_flushNow_11, fd_Mo_flushNow_13, e6]
  refine am_go [28] 6 ?_
  simp only [am_wp, am_stp, am_en, am_as, am_pad, am_nth, am_set, am_st1, am_st2, am_kl, am_kill, am_mem, am_fv, am_tk, am_wt, am_bk, Option.toList, List.cons_append, List.nil_append, Nat.reduceAdd, Nat.reduceEqDiff, Nat.reduceLeDiff, reduceIte, Nat.reduceLT, or_self, true_or, or_true, if_true, if_false, and_self, and_true, true_and, not_false_eq_true, not_true_eq_false, fd_Mo_flushNow_18, fd_Mo_flushNow_19, fd_Mo_flushNow_20, fd_Mo_flushNow_23, fd_Mo_flushNow_26, fd_Mo_flushNow_27, hS.1, i11]
  have F1 : am_fi [72] h1 (am_sI h1 72 31 (nI n)) := am_fi.refl.sI (by simp)
  have v31 : am_I (am_sI h1 72 31 (nI n)) 72 31 = nI n := by simp only [hx_nx_sI, hx_ce_sI, hx_sl_sI, hx_kd_sI, hx_ln_sI, hx_I_sI, hx_L_sI, hx_R_sI, hx_nx_sL, hx_ce_sL, hx_sl_sL, hx_kd_sL, hx_ln_sL, hx_I_sL, hx_L_sL, hx_R_sL, hx_nx_sR, hx_ce_sR, hx_sl_sR, hx_kd_sR, hx_ln_sR, hx_I_sR, hx_L_sR, hx_R_sR, hx_nx_al, hx_ce_al, hx_sl_al, hx_kd_al, hx_ln_al, hx_I_al, hx_L_al, hx_R_al, hx_nx_row, hx_ce_row, hx_sl_row, hx_kd_row, hx_ln_row, hx_I_row, hx_L_row, hx_R_row, hx_nx_mk, hx_kd_mk, hx_ln_mk, hx_I_mk, hx_L_mk, hx_R_mk, am_wp, am_stp, am_en, am_as, am_pad, am_nth, am_set, am_st1, am_st2, am_kl, am_kill, am_mem, am_fv, am_tk, am_wt, am_bk, Option.toList, List.cons_append, List.nil_append, Nat.reduceAdd, Nat.reduceEqDiff, Nat.reduceLeDiff, reduceIte, Nat.reduceLT, or_self, true_or, or_true, if_true, if_false, and_self, and_true, true_and, not_false_eq_true, not_true_eq_false]
  have vj : ∀ j, j ≠ 31 → am_I (am_sI h1 72 31 (nI n)) 72 j = am_I h1 72 j := fun j hj => by simp only [hx_nx_sI, hx_ce_sI, hx_sl_sI, hx_kd_sI, hx_ln_sI, hx_I_sI, hx_L_sI, hx_R_sI, hx_nx_sL, hx_ce_sL, hx_sl_sL, hx_kd_sL, hx_ln_sL, hx_I_sL, hx_L_sL, hx_R_sL, hx_nx_sR, hx_ce_sR, hx_sl_sR, hx_kd_sR, hx_ln_sR, hx_I_sR, hx_L_sR, hx_R_sR, hx_nx_al, hx_ce_al, hx_sl_al, hx_kd_al, hx_ln_al, hx_I_al, hx_L_al, hx_R_al, hx_nx_row, hx_ce_row, hx_sl_row, hx_kd_row, hx_ln_row, hx_I_row, hx_L_row, hx_R_row, hx_nx_mk, hx_kd_mk, hx_ln_mk, hx_I_mk, hx_L_mk, hx_R_mk, am_wp, am_stp, am_en, am_as, am_pad, am_nth, am_set, am_st1, am_st2, am_kl, am_kill, am_mem, am_fv, am_tk, am_wt, am_bk, Option.toList, List.cons_append, List.nil_append, Nat.reduceAdd, Nat.reduceEqDiff, Nat.reduceLeDiff, reduceIte, Nat.reduceLT, or_self, true_or, or_true, if_true, if_false, and_self, and_true, true_and, not_false_eq_true, not_true_eq_false, hj]
  generalize am_sI h1 72 31 (nI n) = h2 at F1 v31 vj ⊢
  have S2 := hS.fi F1
  have hTd2 : tf (am_L h2 74) (am_I h2 75) (am_L h2 76) 0 n = TL := by
    rw [F1.2.2.2.2.2.2.2 74 (by simp), F1.2.2.2.2.2.2.1 75 (by simp), F1.2.2.2.2.2.2.2 76 (by simp)]
    exact hTd
  refine l2_ft_copy S2 n64 v31 (fun g F2 T2 => ?_) n 0 h2 (by omega) am_fi.refl (fun i e he => by simp at he)
  rw [hTd2] at T2
  have F12 : am_fi [72, 92, 93, 94] h1 g := (F1.sub (by simp)).trans (F2.sub (by simp))
  have i72 : am_I g 72 = am_I h2 72 := F2.2.2.2.2.2.2.1 72 (by simp)
  have Kg : rf_K P g := hK.mv F12 (by rw [i72, vj 1 (by decide)]) (by rw [i72, vj 8 (by decide)]) (by rw [i72, vj 3 (by decide)])
  have Ng : nm_R P g Rs := N.fi F12 (by rw [i72, vj 24 (by decide)]) (by simp)
  have Tg : rt_S g n := T.mv F12 (by rw [i72, vj 11 (by decide)])
  have Kyg : ky_S g TL := ⟨Kg.1, by rw [i72, v31, hTl], by omega, T2⟩
  have hne : TL ≠ [] := fun q => by rw [q] at hTl; simp at hTl; omega
  have u := Ng.us P1024
  have hpl : (pgs Rs).length ≤ P - 2 := by
    have := fz_list (P := P) (pgs Rs) (fun q => if q ∈ pgs Rs then 1 else 0) Ng.2.2.2.2.1 Ng.pg (fun p _ _ => by by_cases q : p ∈ pgs Rs <;> simp [q])
    omega
  refine am_go [] 3 ?_
  simp only [am_wp, am_stp, am_en, am_as, am_pad, am_nth, am_set, am_st1, am_st2, am_kl, am_kill, am_mem, am_fv, am_tk, am_wt, am_bk, Option.toList, List.cons_append, List.nil_append, Nat.reduceAdd, Nat.reduceEqDiff, Nat.reduceLeDiff, reduceIte, Nat.reduceLT, or_self, true_or, or_true, if_true, if_false, and_self, and_true, true_and, not_false_eq_true, not_true_eq_false, fd_Mo_flushNow_78, fd_Mo_flushNow_79, fd_Mo_flushNow_80, Kg.1.1]
  refine am_call (l2_Mo_writeRun (d := d) (lv := nI 0) (fr := P - 2 - (pgs Rs).length) Kg Kyg hne ho u.1 Ng.slot (Ng.free P4 P1024) (by omega)) (fun o g1 q => ?_)
  rcases q with ⟨hf, s, ps, rfl, Q⟩ | ⟨hf, rfl, F3⟩
  · obtain ⟨N1, hs, hpp⟩ := Ng.rw P1024 Q
    obtain ⟨q1, q2, ⟨q3, q3'⟩, q4, q5, q6, q7, q8, q9, q10, q11, q12⟩ := id Q
    have K1 : rf_K P g1 := Kg.mv q1 (q2 1 (by decide)) (q2 8 (by decide)) (q2 3 (by decide))
    have pos : ¬ nI s < 0 := nI_pos (by omega)
    have c24 := N1.2.1
    simp only [am_wp, am_stp, am_en, am_as, am_pad, am_nth, am_set, am_st1, am_st2, am_kl, am_kill, am_mem, am_fv, am_tk, am_wt, am_bk, Option.toList, List.cons_append, List.nil_append, Nat.reduceAdd, Nat.reduceEqDiff, Nat.reduceLeDiff, reduceIte, Nat.reduceLT, or_self, true_or, or_true, if_true, if_false, and_self, and_true, true_and, not_false_eq_true, not_true_eq_false]
    refine am_go [88, 100] 3 ?_
    simp only [am_wp, am_stp, am_en, am_as, am_pad, am_nth, am_set, am_st1, am_st2, am_kl, am_kill, am_mem, am_fv, am_tk, am_wt, am_bk, Option.toList, List.cons_append, List.nil_append, Nat.reduceAdd, Nat.reduceEqDiff, Nat.reduceLeDiff, reduceIte, Nat.reduceLT, or_self, true_or, or_true, if_true, if_false, and_self, and_true, true_and, not_false_eq_true, not_true_eq_false, fd_Mo_flushNow_83, fd_Mo_flushNow_84, fd_Mo_flushNow_85, pos]
    refine am_go [105] 3 ?_
    simp only [am_wp, am_stp, am_en, am_as, am_pad, am_nth, am_set, am_st1, am_st2, am_kl, am_kill, am_mem, am_fv, am_tk, am_wt, am_bk, Option.toList, List.cons_append, List.nil_append, Nat.reduceAdd, Nat.reduceEqDiff, Nat.reduceLeDiff, reduceIte, Nat.reduceLT, or_self, true_or, or_true, if_true, if_false, and_self, and_true, true_and, not_false_eq_true, not_true_eq_false, fd_Mo_flushNow_100, fd_Mo_flushNow_101, fd_Mo_flushNow_104, K1.1.1, c24]
    refine l2_now_shift K1.1 hl (fun g2 F4 e86 => ?_) Rs.length g1 (Nat.le_refl _) am_fi.refl (sh_n _ _).symm
    have S4 := K1.1.fi F4
    obtain ⟨k72, ⟨r15, k77, n77⟩, ⟨r16, k78, n78⟩, -, -, -, -, -, -, -, ⟨r25, k86, n86⟩, -⟩ := mo_sl_ S4
    have c24' : am_I g2 72 24 = nI Rs.length := by rw [F4.2.2.2.2.2.2.1 72 (by simp)]; exact c24
    have i0 : ((0 : Int32) < 0 ∨ 9 ≤ (0 : Int32).toNatClampNeg) = False := by decide
    have c0 : (0 : Int32).toNatClampNeg = 0 := by decide
    have iS := am_inb (c := s) (N := 100) (by omega) (by omega)
    have qS : (nI s).toNatClampNeg = s := nI_clamp (by omega)
    refine am_go [] 5 ?_
    simp only [am_wp, am_stp, am_en, am_as, am_pad, am_nth, am_set, am_st1, am_st2, am_kl, am_kill, am_mem, am_fv, am_tk, am_wt, am_bk, Option.toList, List.cons_append, List.nil_append, Nat.reduceAdd, Nat.reduceEqDiff, Nat.reduceLeDiff, reduceIte, Nat.reduceLT, or_self, true_or, or_true, if_true, if_false, and_self, and_true, true_and, not_false_eq_true, not_true_eq_false, fd_Mo_flushNow_129, fd_Mo_flushNow_130, fd_Mo_flushNow_133, fd_Mo_flushNow_134, fd_Mo_flushNow_135, k72, r25, k86, n86, i0]
    rw [c0]
    refine am_go [] 11 ?_
    simp only [am_wp, am_stp, am_en, am_as, am_pad, am_nth, am_set, am_st1, am_st2, am_kl, am_kill, am_mem, am_fv, am_tk, am_wt, am_bk, Option.toList, List.cons_append, List.nil_append, Nat.reduceAdd, Nat.reduceEqDiff, Nat.reduceLeDiff, reduceIte, Nat.reduceLT, or_self, true_or, or_true, if_true, if_false, and_self, and_true, true_and, not_false_eq_true, not_true_eq_false, fd_Mo_flushNow_136, fd_Mo_flushNow_137, fd_Mo_flushNow_138, fd_Mo_flushNow_141, fd_Mo_flushNow_142, fd_Mo_flushNow_143, fd_Mo_flushNow_146, fd_Mo_flushNow_147, fd_Mo_flushNow_150, fd_Mo_flushNow_151, fd_Mo_flushNow_152, hx_nx_sI, hx_ce_sI, hx_sl_sI, hx_kd_sI, hx_ln_sI, hx_I_sI, hx_L_sI, hx_R_sI, hx_nx_sL, hx_ce_sL, hx_sl_sL, hx_kd_sL, hx_ln_sL, hx_I_sL, hx_L_sL, hx_R_sL, hx_nx_sR, hx_ce_sR, hx_sl_sR, hx_kd_sR, hx_ln_sR, hx_I_sR, hx_L_sR, hx_R_sR, hx_nx_al, hx_ce_al, hx_sl_al, hx_kd_al, hx_ln_al, hx_I_al, hx_L_al, hx_R_al, hx_nx_row, hx_ce_row, hx_sl_row, hx_kd_row, hx_ln_row, hx_I_row, hx_L_row, hx_R_row, hx_nx_mk, hx_kd_mk, hx_ln_mk, hx_I_mk, hx_L_mk, hx_R_mk, k72, c24', r15, k77, n77, iS, qS, nI_1]
    refine am_go [] 9 ?_
    simp only [am_wp, am_stp, am_en, am_as, am_pad, am_nth, am_set, am_st1, am_st2, am_kl, am_kill, am_mem, am_fv, am_tk, am_wt, am_bk, Option.toList, List.cons_append, List.nil_append, Nat.reduceAdd, Nat.reduceEqDiff, Nat.reduceLeDiff, reduceIte, Nat.reduceLT, or_self, true_or, or_true, if_true, if_false, and_self, and_true, true_and, not_false_eq_true, not_true_eq_false, fd_Mo_flushNow_153, fd_Mo_flushNow_154, fd_Mo_flushNow_155, fd_Mo_flushNow_158, fd_Mo_flushNow_159, fd_Mo_flushNow_160, fd_Mo_flushNow_163, fd_Mo_flushNow_164, fd_Mo_flushNow_165, hx_kd_sI, k72]
    have F5 : am_fi [72, 77, 86] g2 (am_sI (am_sI (am_sI (am_sI (am_sI g2 86 0 (nI s)) 72 24 (nI (Rs.length + 1))) 77 s 1) 72 5 (am_I (am_sI (am_sI (am_sI g2 86 0 (nI s)) 72 24 (nI (Rs.length + 1))) 77 s 1) 72 5 + 1)) 72 11 0) := ((((am_fi.refl.sI (by simp)).sI (by simp)).sI (by simp)).sI (by simp)).sI (by simp)
    have w24 : am_I (am_sI (am_sI (am_sI (am_sI (am_sI g2 86 0 (nI s)) 72 24 (nI (Rs.length + 1))) 77 s 1) 72 5 (am_I (am_sI (am_sI (am_sI g2 86 0 (nI s)) 72 24 (nI (Rs.length + 1))) 77 s 1) 72 5 + 1)) 72 11 0) 72 24 = nI (Rs.length + 1) := by simp only [hx_nx_sI, hx_ce_sI, hx_sl_sI, hx_kd_sI, hx_ln_sI, hx_I_sI, hx_L_sI, hx_R_sI, hx_nx_sL, hx_ce_sL, hx_sl_sL, hx_kd_sL, hx_ln_sL, hx_I_sL, hx_L_sL, hx_R_sL, hx_nx_sR, hx_ce_sR, hx_sl_sR, hx_kd_sR, hx_ln_sR, hx_I_sR, hx_L_sR, hx_R_sR, hx_nx_al, hx_ce_al, hx_sl_al, hx_kd_al, hx_ln_al, hx_I_al, hx_L_al, hx_R_al, hx_nx_row, hx_ce_row, hx_sl_row, hx_kd_row, hx_ln_row, hx_I_row, hx_L_row, hx_R_row, hx_nx_mk, hx_kd_mk, hx_ln_mk, hx_I_mk, hx_L_mk, hx_R_mk, am_wp, am_stp, am_en, am_as, am_pad, am_nth, am_set, am_st1, am_st2, am_kl, am_kill, am_mem, am_fv, am_tk, am_wt, am_bk, Option.toList, List.cons_append, List.nil_append, Nat.reduceAdd, Nat.reduceEqDiff, Nat.reduceLeDiff, reduceIte, Nat.reduceLT, or_self, true_or, or_true, if_true, if_false, and_self, and_true, true_and, not_false_eq_true, not_true_eq_false]
    have w11 : am_I (am_sI (am_sI (am_sI (am_sI (am_sI g2 86 0 (nI s)) 72 24 (nI (Rs.length + 1))) 77 s 1) 72 5 (am_I (am_sI (am_sI (am_sI g2 86 0 (nI s)) 72 24 (nI (Rs.length + 1))) 77 s 1) 72 5 + 1)) 72 11 0) 72 11 = nI 0 := by simp only [hx_nx_sI, hx_ce_sI, hx_sl_sI, hx_kd_sI, hx_ln_sI, hx_I_sI, hx_L_sI, hx_R_sI, hx_nx_sL, hx_ce_sL, hx_sl_sL, hx_kd_sL, hx_ln_sL, hx_I_sL, hx_L_sL, hx_R_sL, hx_nx_sR, hx_ce_sR, hx_sl_sR, hx_kd_sR, hx_ln_sR, hx_I_sR, hx_L_sR, hx_R_sR, hx_nx_al, hx_ce_al, hx_sl_al, hx_kd_al, hx_ln_al, hx_I_al, hx_L_al, hx_R_al, hx_nx_row, hx_ce_row, hx_sl_row, hx_kd_row, hx_ln_row, hx_I_row, hx_L_row, hx_R_row, hx_nx_mk, hx_kd_mk, hx_ln_mk, hx_I_mk, hx_L_mk, hx_R_mk, am_wp, am_stp, am_en, am_as, am_pad, am_nth, am_set, am_st1, am_st2, am_kl, am_kill, am_mem, am_fv, am_tk, am_wt, am_bk, Option.toList, List.cons_append, List.nil_append, Nat.reduceAdd, Nat.reduceEqDiff, Nat.reduceLeDiff, reduceIte, Nat.reduceLT, or_self, true_or, or_true, if_true, if_false, and_self, and_true, true_and, not_false_eq_true, not_true_eq_false]; rfl
    have wj : ∀ j, j ≠ 24 → j ≠ 5 → j ≠ 11 → am_I (am_sI (am_sI (am_sI (am_sI (am_sI g2 86 0 (nI s)) 72 24 (nI (Rs.length + 1))) 77 s 1) 72 5 (am_I (am_sI (am_sI (am_sI g2 86 0 (nI s)) 72 24 (nI (Rs.length + 1))) 77 s 1) 72 5 + 1)) 72 11 0) 72 j = am_I g2 72 j := fun j h1 h2 h3 => by simp only [hx_nx_sI, hx_ce_sI, hx_sl_sI, hx_kd_sI, hx_ln_sI, hx_I_sI, hx_L_sI, hx_R_sI, hx_nx_sL, hx_ce_sL, hx_sl_sL, hx_kd_sL, hx_ln_sL, hx_I_sL, hx_L_sL, hx_R_sL, hx_nx_sR, hx_ce_sR, hx_sl_sR, hx_kd_sR, hx_ln_sR, hx_I_sR, hx_L_sR, hx_R_sR, hx_nx_al, hx_ce_al, hx_sl_al, hx_kd_al, hx_ln_al, hx_I_al, hx_L_al, hx_R_al, hx_nx_row, hx_ce_row, hx_sl_row, hx_kd_row, hx_ln_row, hx_I_row, hx_L_row, hx_R_row, hx_nx_mk, hx_kd_mk, hx_ln_mk, hx_I_mk, hx_L_mk, hx_R_mk, am_wp, am_stp, am_en, am_as, am_pad, am_nth, am_set, am_st1, am_st2, am_kl, am_kill, am_mem, am_fv, am_tk, am_wt, am_bk, Option.toList, List.cons_append, List.nil_append, Nat.reduceAdd, Nat.reduceEqDiff, Nat.reduceLeDiff, reduceIte, Nat.reduceLT, or_self, true_or, or_true, if_true, if_false, and_self, and_true, true_and, not_false_eq_true, not_true_eq_false, h1, h2, h3]
    have w77 : am_I (am_sI (am_sI (am_sI (am_sI (am_sI g2 86 0 (nI s)) 72 24 (nI (Rs.length + 1))) 77 s 1) 72 5 (am_I (am_sI (am_sI (am_sI g2 86 0 (nI s)) 72 24 (nI (Rs.length + 1))) 77 s 1) 72 5 + 1)) 72 11 0) 77 = up_f (am_I g2 77) s 1 := by funext j; unfold up_f; simp only [hx_nx_sI, hx_ce_sI, hx_sl_sI, hx_kd_sI, hx_ln_sI, hx_I_sI, hx_L_sI, hx_R_sI, hx_nx_sL, hx_ce_sL, hx_sl_sL, hx_kd_sL, hx_ln_sL, hx_I_sL, hx_L_sL, hx_R_sL, hx_nx_sR, hx_ce_sR, hx_sl_sR, hx_kd_sR, hx_ln_sR, hx_I_sR, hx_L_sR, hx_R_sR, hx_nx_al, hx_ce_al, hx_sl_al, hx_kd_al, hx_ln_al, hx_I_al, hx_L_al, hx_R_al, hx_nx_row, hx_ce_row, hx_sl_row, hx_kd_row, hx_ln_row, hx_I_row, hx_L_row, hx_R_row, hx_nx_mk, hx_kd_mk, hx_ln_mk, hx_I_mk, hx_L_mk, hx_R_mk, am_wp, am_stp, am_en, am_as, am_pad, am_nth, am_set, am_st1, am_st2, am_kl, am_kill, am_mem, am_fv, am_tk, am_wt, am_bk, Option.toList, List.cons_append, List.nil_append, Nat.reduceAdd, Nat.reduceEqDiff, Nat.reduceLeDiff, reduceIte, Nat.reduceLT, or_self, true_or, or_true, if_true, if_false, and_self, and_true, true_and, not_false_eq_true, not_true_eq_false]
    have w86 : am_I (am_sI (am_sI (am_sI (am_sI (am_sI g2 86 0 (nI s)) 72 24 (nI (Rs.length + 1))) 77 s 1) 72 5 (am_I (am_sI (am_sI (am_sI g2 86 0 (nI s)) 72 24 (nI (Rs.length + 1))) 77 s 1) 72 5 + 1)) 72 11 0) 86 = up_f (am_I g2 86) 0 (nI s) := by funext j; unfold up_f; simp only [hx_nx_sI, hx_ce_sI, hx_sl_sI, hx_kd_sI, hx_ln_sI, hx_I_sI, hx_L_sI, hx_R_sI, hx_nx_sL, hx_ce_sL, hx_sl_sL, hx_kd_sL, hx_ln_sL, hx_I_sL, hx_L_sL, hx_R_sL, hx_nx_sR, hx_ce_sR, hx_sl_sR, hx_kd_sR, hx_ln_sR, hx_I_sR, hx_L_sR, hx_R_sR, hx_nx_al, hx_ce_al, hx_sl_al, hx_kd_al, hx_ln_al, hx_I_al, hx_L_al, hx_R_al, hx_nx_row, hx_ce_row, hx_sl_row, hx_kd_row, hx_ln_row, hx_I_row, hx_L_row, hx_R_row, hx_nx_mk, hx_kd_mk, hx_ln_mk, hx_I_mk, hx_L_mk, hx_R_mk, am_wp, am_stp, am_en, am_as, am_pad, am_nth, am_set, am_st1, am_st2, am_kl, am_kill, am_mem, am_fv, am_tk, am_wt, am_bk, Option.toList, List.cons_append, List.nil_append, Nat.reduceAdd, Nat.reduceEqDiff, Nat.reduceLeDiff, reduceIte, Nat.reduceLT, or_self, true_or, or_true, if_true, if_false, and_self, and_true, true_and, not_false_eq_true, not_true_eq_false]
    generalize am_sI (am_sI (am_sI (am_sI (am_sI g2 86 0 (nI s)) 72 24 (nI (Rs.length + 1))) 77 s 1) 72 5 (am_I (am_sI (am_sI (am_sI g2 86 0 (nI s)) 72 24 (nI (Rs.length + 1))) 77 s 1) 72 5 + 1)) 72 11 0 = g3 at F5 w24 w11 wj w77 w86 ⊢
    have F15 : am_fi [72, 77, 86] g1 g3 := (F4.sub (by simp)).trans F5
    have S5 := K1.1.fi F15
    obtain ⟨k72a, -, ⟨r16a, k78a, n78a⟩, -⟩ := mo_sl_ S5
    have w77' : am_I g3 77 = up_f (am_I g1 77) s 1 := by rw [w77, F4.2.2.2.2.2.2.1 77 (by simp)]
    have w86' : am_I g3 86 = up_f (sh_f (am_I g1 86) 0 Rs.length) 0 (nI s) := by rw [w86, e86]
    have x73 : am_I g3 73 = am_I g1 73 := F15.2.2.2.2.2.2.1 73 (by simp)
    have x79 : am_I g3 79 = am_I g1 79 := F15.2.2.2.2.2.2.1 79 (by simp)
    have x80 : am_I g3 80 = am_I g1 80 := F15.2.2.2.2.2.2.1 80 (by simp)
    have x82 : am_I g3 82 = am_I g1 82 := F15.2.2.2.2.2.2.1 82 (by simp)
    have NN : nm_R P g3 ((s, 0, ps) :: Rs) := by
      obtain ⟨c1, c2, c3, c4, c5, c6⟩ := N1
      refine ⟨fun i r hr => ?_, by rw [w24]; simp, by simp; omega, by simp only [List.map_cons]; exact List.nodup_cons.mpr ⟨hs, c4⟩, ?_, fun t t1 t2 => ?_⟩
      · cases i with
        | zero =>
          have e : (s, 0, ps) = r := by simpa using hr
          subst e
          refine ⟨by rw [w86']; unfold up_f; rw [if_pos rfl], ⟨q3, ?_, by show ps.length ≤ 1024; omega, fun k q hk => ⟨by rw [x82]; exact q7 k q hk, (q8 q (List.mem_of_getElem? hk)).1.mono (fun j _ => by rw [x73])⟩⟩, ?_, Nat.zero_le _, ?_, by show ps.length = npg (ch_E ps); rw [q11]; exact q12, by show so (ch_E ps); rw [q11]; exact hT, by show ∀ e ∈ ch_E ps, eo e; rw [q11]; exact ho⟩
          · show am_I g3 80 s = nI ps.length
            rw [x80, q5]; unfold up_f; rw [if_pos rfl]
          · show am_I g3 79 s = nI 0
            rw [x79, q4]; unfold up_f; rw [if_pos rfl]
          · show am_I g3 77 s = 1
            rw [w77']; unfold up_f; rw [if_pos rfl]
        | succ i =>
          have hr' : Rs[i]? = some r := by simpa using hr
          have hi := (List.getElem?_eq_some_iff.mp hr').1
          obtain ⟨y1, y2⟩ := c1 i r hr'
          have hne' : r.1 ≠ s := fun e => hs (e ▸ List.mem_map_of_mem (List.mem_of_getElem? hr'))
          refine ⟨?_, y2.fr (by rw [x79]) (by rw [x80]) (by rw [w77']; unfold up_f; rw [if_neg hne']) (fun k _ => by rw [x82]) (fun x _ j _ => by rw [x73])⟩
          rw [w86']
          unfold up_f sh_f
          rw [if_neg (by omega), if_pos (by omega), Nat.add_sub_cancel]
          exact y1
      · show (rn_p (s, 0, ps) ++ pgs Rs).Nodup
        exact List.nodup_append.mpr ⟨q9, c5, fun x hx y hy e => hpp x hx (e ▸ hy)⟩
      · simp only [List.map_cons, List.mem_cons, not_or] at t2
        rw [w77']
        unfold up_f
        rw [if_neg t2.1]
        exact c6 t t1 t2.2
    have K5 : rf_K P g3 := K1.mv F15 (by rw [wj 1 (by decide) (by decide) (by decide), F4.2.2.2.2.2.2.1 72 (by simp)]) (by rw [wj 8 (by decide) (by decide) (by decide), F4.2.2.2.2.2.2.1 72 (by simp)]) (by rw [wj 3 (by decide) (by decide) (by decide), F4.2.2.2.2.2.2.1 72 (by simp)])
    refine am_go [] 5 ?_
    simp only [am_wp, am_stp, am_en, am_as, am_pad, am_nth, am_set, am_st1, am_st2, am_kl, am_kill, am_mem, am_fv, am_tk, am_wt, am_bk, Option.toList, List.cons_append, List.nil_append, Nat.reduceAdd, Nat.reduceEqDiff, Nat.reduceLeDiff, reduceIte, Nat.reduceLT, or_self, true_or, or_true, if_true, if_false, and_self, and_true, true_and, not_false_eq_true, not_true_eq_false, fd_Mo_flushNow_168, fd_Mo_flushNow_169, fd_Mo_flushNow_172, fd_Mo_flushNow_173, fd_Mo_flushNow_174, k72a, r16a, k78a, n78a, iS, qS]
    refine am_go [] 5 ?_
    simp only [am_wp, am_stp, am_en, am_as, am_pad, am_nth, am_set, am_st1, am_st2, am_kl, am_kill, am_mem, am_fv, am_tk, am_wt, am_bk, Option.toList, List.cons_append, List.nil_append, Nat.reduceAdd, Nat.reduceEqDiff, Nat.reduceLeDiff, reduceIte, Nat.reduceLT, or_self, true_or, or_true, if_true, if_false, and_self, and_true, true_and, not_false_eq_true, not_true_eq_false, fd_Mo_flushNow_175, fd_Mo_flushNow_176, fd_Mo_flushNow_179, fd_Mo_flushNow_180, fd_Mo_flushNow_181, k72a]
    refine am_call (l2_Mo_writeHead (d := d + 2) S5 NN K5.2.2.1) (fun o g4 z => ?_)
    obtain ⟨rfl, F6, m1, m2⟩ := z
    have one0 : ¬ (1 : Int32) = 0 := by decide
    simp only [am_wp, am_stp, am_en, am_as, am_pad, am_nth, am_set, am_st1, am_st2, am_kl, am_kill, am_mem, am_fv, am_tk, am_wt, am_bk, Option.toList, List.cons_append, List.nil_append, Nat.reduceAdd, Nat.reduceEqDiff, Nat.reduceLeDiff, reduceIte, Nat.reduceLT, or_self, true_or, or_true, if_true, if_false, and_self, and_true, true_and, not_false_eq_true, not_true_eq_false]
    refine am_go [187] 4 ?_
    simp only [am_wp, am_stp, am_en, am_as, am_pad, am_nth, am_set, am_st1, am_st2, am_kl, am_kill, am_mem, am_fv, am_tk, am_wt, am_bk, Option.toList, List.cons_append, List.nil_append, Nat.reduceAdd, Nat.reduceEqDiff, Nat.reduceLeDiff, reduceIte, Nat.reduceLT, or_self, true_or, or_true, if_true, if_false, and_self, and_true, true_and, not_false_eq_true, not_true_eq_false, fd_Mo_flushNow_184, fd_Mo_flushNow_194, fd_Mo_flushNow_195, one0]
    have FZ : am_fi rf_w h1 g4 := ((F12.sub (by unfold rf_w; simp)).trans (q1.sub (by unfold rf_w; simp))).trans ((F15.sub (by unfold rf_w; simp)).trans (F6.sub (by unfold rf_w; simp)))
    refine ⟨⟨_, rfl⟩, FZ, ?_, Or.inl ⟨by omega, s, ps, ⟨K5.mv F6 (m1 1 (by decide) (by decide)) (m1 8 (by decide) (by decide)) (m1 3 (by decide) (by decide)), ⟨S5.fi F6, by rw [m1 11 (by decide) (by decide)]; exact w11, by omega⟩, ?_⟩, q11⟩⟩
    · rw [m1 0 (by decide) (by decide), wj 0 (by decide) (by decide) (by decide), F4.2.2.2.2.2.2.1 72 (by simp), q2 0 (by decide), i72, vj 0 (by decide)]
    · exact NN.fr (m1 24 (by decide) (by decide)) (F6.2.2.2.2.2.2.1 77 (by simp)) (F6.2.2.2.2.2.2.1 79 (by simp)) (F6.2.2.2.2.2.2.1 80 (by simp)) (F6.2.2.2.2.2.2.1 82 (by simp)) (F6.2.2.2.2.2.2.1 86 (by simp)) (fun x hx j hj => m2 x (NN.pg x hx).1 j hj)
  · have neg : (-1 : Int32) < 0 := by decide
    have n12 : ((-1 : Int32) = -2) = False := by decide
    simp only [am_wp, am_stp, am_en, am_as, am_pad, am_nth, am_set, am_st1, am_st2, am_kl, am_kill, am_mem, am_fv, am_tk, am_wt, am_bk, Option.toList, List.cons_append, List.nil_append, Nat.reduceAdd, Nat.reduceEqDiff, Nat.reduceLeDiff, reduceIte, Nat.reduceLT, or_self, true_or, or_true, if_true, if_false, and_self, and_true, true_and, not_false_eq_true, not_true_eq_false]
    refine am_go [94, 100] 8 ?_
    simp only [am_wp, am_stp, am_en, am_as, am_pad, am_nth, am_set, am_st1, am_st2, am_kl, am_kill, am_mem, am_fv, am_tk, am_wt, am_bk, Option.toList, List.cons_append, List.nil_append, Nat.reduceAdd, Nat.reduceEqDiff, Nat.reduceLeDiff, reduceIte, Nat.reduceLT, or_self, true_or, or_true, if_true, if_false, and_self, and_true, true_and, not_false_eq_true, not_true_eq_false, fd_Mo_flushNow_83, fd_Mo_flushNow_84, fd_Mo_flushNow_85, fd_Mo_flushNow_88, fd_Mo_flushNow_89, fd_Mo_flushNow_91, fd_Mo_flushNow_98, fd_Mo_flushNow_99, neg, n12]
    have FZ : am_fi rf_w h1 g1 := (F12.sub (by unfold rf_w; simp)).trans (F3.sub (by unfold rf_w; simp))
    have j72 : am_I g1 72 = am_I g 72 := F3.2.2.2.2.2.2.1 72 (by simp)
    refine ⟨⟨_, rfl⟩, FZ, by rw [j72, i72, vj 0 (by decide)], Or.inr ⟨by omega, Kg.mv F3 (by rw [j72]) (by rw [j72]) (by rw [j72]), Tg.mv F3 (by rw [j72]), Ng.fi F3 (by rw [j72]) (by simp)⟩⟩
