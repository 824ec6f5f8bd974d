/-! THE REFERENCE'S mergeNow: rounds -/
theorem bm_snoc (Ls : List (List ent)) (L : List ent) : bm (Ls ++ [L]) = mg (bm Ls) L := by
  unfold bm
  rw [List.foldl_append]
  rfl
def ens (Rs : List rn) (k : Nat) : List (List ent) := (Rs.take k).map (fun r => ch_E r.2.2)
theorem ens_snoc {Rs : List rn} {k : Nat} {r : rn} (h : Rs[k]? = some r) : ens Rs (k + 1) = ens Rs k ++ [ch_E r.2.2] := by
  unfold ens
  rw [take_snoc h, List.map_append]
  rfl
theorem ens_ab (Rs : List rn) (k : Nat) : ((ab Rs).take k).map (·.2) = ens Rs k := by
  unfold ens ab
  rw [← List.map_take, List.map_map]
  rfl
theorem bm_len : ∀ (Ls : List (List ent)) (A : List ent), (Ls.foldl mg A).length ≤ A.length + (Ls.map List.length).sum
  | [], A => by simp
  | L :: Ls, A => by
    have h1 := bm_len Ls (mg A L)
    have h2 := mg_len _ A L (Nat.le_refl _)
    simp only [List.foldl_cons, List.map_cons, List.sum_cons]
    omega
theorem ens_len (Rs : List rn) (k : Nat) : ((ens Rs k).map List.length).sum ≤ aen (ab Rs) := by
  have h := aen_take (ab Rs) k
  have e : ((ens Rs k).map List.length).sum = aen ((ab Rs).take k) := by
    unfold aen
    rw [← ens_ab, List.map_map]
    rfl
  omega
theorem bm_ens_len (Rs : List rn) (k : Nat) : (bm (ens Rs k)).length ≤ aen (ab Rs) := by
  have h1 := bm_len (ens Rs k) []
  have h2 := ens_len Rs k
  simp only [List.length_nil] at h1
  unfold bm
  omega
theorem ens_ok {P : Nat} {h : am_H} {Rs : List rn} (N : nm_R P h Rs) (k : Nat) : so (bm (ens Rs k)) ∧ ∀ x ∈ bm (ens Rs k), eo x := bm_all (fun L hL => by
  obtain ⟨r, r1, r2⟩ := List.mem_map.mp hL
  have := N.all r (List.mem_of_mem_take r1)
  rw [← r2]
  exact ⟨this.2.2.2.2.2.1, this.2.2.2.2.2.2⟩)
theorem up_lt {L : Nat} : ∀ (ls : List Nat) (t x : Nat), t < up L ls → ls[t]? = some x → x ≤ L
  | [], t, x, h, hx => by simp at hx
  | l :: ls, t, x, h, hx => by
    unfold up at h
    split at h
    · rename_i hl
      cases t with
      | zero => have : l = x := by simpa using hx
                omega
      | succ t => exact up_lt ls t x (by omega) (by simpa using hx)
    · omega
theorem up_at {L : Nat} : ∀ (ls : List Nat) (x : Nat), ls[up L ls]? = some x → ¬ x ≤ L
  | [], x, hx => by simp at hx
  | l :: ls, x, hx => by
    unfold up at hx
    split at hx
    · exact up_at ls x (by simpa using hx)
    · have : l = x := by simpa using hx
      omega
/-- while a merge is looked for -/
def mr_I (P : Nat) (h g : am_H) (n : Nat) (Rs : List rn) (M : List ent) : Prop := rf_S P g n Rs ∧ ky_S g M ∧ am_fi rf_w h g ∧ am_I g 72 0 = am_I h 72 0
theorem l2_mn_take {d P n to : Nat} {x3 : Int32} {w4 w5 w6 w7 w8 : Value} {Rs : List rn} {h : am_H} {Q : am_O → am_H → Prop} (hto : to ≤ 3) (hen : aen (ab Rs) < 30000) (hx : ∀ g, mr_I P h g n Rs (bm (ens Rs (up to (lvs Rs)))) → am_Ex nm_pr (d + 5) mt_Mo_mergeNow (73, [.ref 72, .int (nI (up to (lvs Rs))), .int (nI to), .int x3, w4, w5, w6, w7, w8], [], g) Q) : ∀ (m t : Nat) (g : am_H), m + t = up to (lvs Rs) → mr_I P h g n Rs (bm (ens Rs t)) →
    am_Ex nm_pr (d + 5) mt_Mo_mergeNow (26, [.ref 72, .int (nI t), .int (nI to), .int x3, w4, w5, w6, w7, w8], [], g) Q
  | 0, t, g, hm, I => by
    obtain ⟨⟨hK, T, N⟩, Ky, F, e0⟩ := id I
    obtain ⟨k72, -, -, ⟨r17, k79, n79⟩, -, -, -, -, -, -, ⟨r25, k86, n86⟩, -⟩ := mo_sl_ hK.1
    obtain ⟨c1, c2, c3, c4, c5, c6⟩ := id N
    have ul := up_le to (lvs Rs)
    have hlv : (lvs Rs).length = Rs.length := by unfold lvs; rw [List.length_map]
    have e : t = up to (lvs Rs) := by omega
    subst e
    by_cases hl : up to (lvs Rs) < Rs.length
    · obtain ⟨r, hr⟩ : ∃ r, Rs[up to (lvs Rs)]? = some r := ⟨_, List.getElem?_eq_getElem hl⟩
      obtain ⟨x1, x2⟩ := c1 _ _ hr
      have hs := x2.1.1
      have hl3 := x2.2.2.1
      have hlev : (lvs Rs)[up to (lvs Rs)]? = some r.2.1 := by unfold lvs at *; rw [List.getElem?_map, hr]; rfl
      have hgt := up_at (lvs Rs) r.2.1 hlev
      have l1 : nI (up to (lvs Rs)) < nI Rs.length := nI_lt hl (by omega)
      have i1 := am_inb (c := up to (lvs Rs)) (N := 9) (by omega) (by omega)
      have q1 : (nI (up to (lvs Rs))).toNatClampNeg = up to (lvs Rs) := nI_clamp (by omega)
      have i2 := am_inb (c := r.1) (N := 100) (by omega) (by omega)
      have q2 : (nI r.1).toNatClampNeg = r.1 := nI_clamp (by omega)
      have l2 : nI to < nI r.2.1 := nI_lt (by omega) (by omega)
      refine am_go [34, 73] 4 ?_
      simp only [am_wp, am_stp, am_en, am_as, am_pad, am_nth, am_set, am_st1, am_st2, am_kl, am_kill, am_mem, am_fv, am_tk, am_wt, am_bk, Option.toList, List.cons_append, List.nil_append, Nat.reduceAdd, Nat.reduceEqDiff, Nat.reduceLeDiff, reduceIte, Nat.reduceLT, or_self, true_or, or_true, if_true, if_false, and_self, and_true, true_and, not_false_eq_true, not_true_eq_false, fd_Mo_mergeNow_26, fd_Mo_mergeNow_27, fd_Mo_mergeNow_28, fd_Mo_mergeNow_31, k72, c2, l1]
      refine am_go [49, 73] 9 ?_
      simp only [am_wp, am_stp, am_en, am_as, am_pad, am_nth, am_set, am_st1, am_st2, am_kl, am_kill, am_mem, am_fv, am_tk, am_wt, am_bk, Option.toList, List.cons_append, List.nil_append, Nat.reduceAdd, Nat.reduceEqDiff, Nat.reduceLeDiff, reduceIte, Nat.reduceLT, or_self, true_or, or_true, if_true, if_false, and_self, and_true, true_and, not_false_eq_true, not_true_eq_false, fd_Mo_mergeNow_34, fd_Mo_mergeNow_35, fd_Mo_mergeNow_38, fd_Mo_mergeNow_39, fd_Mo_mergeNow_42, fd_Mo_mergeNow_43, fd_Mo_mergeNow_44, fd_Mo_mergeNow_45, fd_Mo_mergeNow_46, k72, r17, r25, k86, n86, i1, q1, x1, k79, n79, i2, q2, x2.2.1, l2]
      exact hx g I
    · have l1 : ¬ nI (up to (lvs Rs)) < nI Rs.length := nI_nlt (by omega) (by omega)
      refine am_go [34, 73] 4 ?_
      simp only [am_wp, am_stp, am_en, am_as, am_pad, am_nth, am_set, am_st1, am_st2, am_kl, am_kill, am_mem, am_fv, am_tk, am_wt, am_bk, Option.toList, List.cons_append, List.nil_append, Nat.reduceAdd, Nat.reduceEqDiff, Nat.reduceLeDiff, reduceIte, Nat.reduceLT, or_self, true_or, or_true, if_true, if_false, and_self, and_true, true_and, not_false_eq_true, not_true_eq_false, fd_Mo_mergeNow_26, fd_Mo_mergeNow_27, fd_Mo_mergeNow_28, fd_Mo_mergeNow_31, k72, c2, l1]
      exact hx g I
  | m + 1, t, g, hm, I => by
    obtain ⟨⟨hK, T, N⟩, Ky, F, e0⟩ := id I
    obtain ⟨k72, -, -, ⟨r17, k79, n79⟩, -, -, -, -, -, -, ⟨r25, k86, n86⟩, -⟩ := mo_sl_ hK.1
    obtain ⟨c1, c2, c3, c4, c5, c6⟩ := id N
    have ul := up_le to (lvs Rs)
    have hlv : (lvs Rs).length = Rs.length := by unfold lvs; rw [List.length_map]
    have hl : t < Rs.length := by omega
    obtain ⟨r, hr⟩ : ∃ r, Rs[t]? = some r := ⟨_, List.getElem?_eq_getElem hl⟩
    obtain ⟨x1, x2⟩ := c1 _ _ hr
    have hs := x2.1.1
    have hl3 := x2.2.2.1
    have hlev : (lvs Rs)[t]? = some r.2.1 := by unfold lvs; rw [List.getElem?_map, hr]; rfl
    have hle := up_lt (L := to) (lvs Rs) t r.2.1 (by omega) hlev
    have l1 : nI t < nI Rs.length := nI_lt hl (by omega)
    have i1 := am_inb (c := t) (N := 9) (by omega) (by omega)
    have q1 : (nI t).toNatClampNeg = t := nI_clamp (by omega)
    have i2 := am_inb (c := r.1) (N := 100) (by omega) (by omega)
    have q2 : (nI r.1).toNatClampNeg = r.1 := nI_clamp (by omega)
    have l2 : ¬ nI to < nI r.2.1 := nI_nlt (by omega) (by omega)
    refine am_go [34, 73] 4 ?_
    simp only [am_wp, am_stp, am_en, am_as, am_pad, am_nth, am_set, am_st1, am_st2, am_kl, am_kill, am_mem, am_fv, am_tk, am_wt, am_bk, Option.toList, List.cons_append, List.nil_append, Nat.reduceAdd, Nat.reduceEqDiff, Nat.reduceLeDiff, reduceIte, Nat.reduceLT, or_self, true_or, or_true, if_true, if_false, and_self, and_true, true_and, not_false_eq_true, not_true_eq_false, fd_Mo_mergeNow_26, fd_Mo_mergeNow_27, fd_Mo_mergeNow_28, fd_Mo_mergeNow_31, k72, c2, l1]
    refine am_go [49, 73] 9 ?_
    simp only [am_wp, am_stp, am_en, am_as, am_pad, am_nth, am_set, am_st1, am_st2, am_kl, am_kill, am_mem, am_fv, am_tk, am_wt, am_bk, Option.toList, List.cons_append, List.nil_append, Nat.reduceAdd, Nat.reduceEqDiff, Nat.reduceLeDiff, reduceIte, Nat.reduceLT, or_self, true_or, or_true, if_true, if_false, and_self, and_true, true_and, not_false_eq_true, not_true_eq_false, fd_Mo_mergeNow_34, fd_Mo_mergeNow_35, fd_Mo_mergeNow_38, fd_Mo_mergeNow_39, fd_Mo_mergeNow_42, fd_Mo_mergeNow_43, fd_Mo_mergeNow_44, fd_Mo_mergeNow_45, fd_Mo_mergeNow_46, k72, r17, r25, k86, n86, i1, q1, x1, k79, n79, i2, q2, x2.2.1, l2]
    refine am_go [] 6 ?_
    simp only [am_wp, am_stp, am_en, am_as, am_pad, am_nth, am_set, am_st1, am_st2, am_kl, am_kill, am_mem, am_fv, am_tk, am_wt, am_bk, Option.toList, List.cons_append, List.nil_append, Nat.reduceAdd, Nat.reduceEqDiff, Nat.reduceLeDiff, reduceIte, Nat.reduceLT, or_self, true_or, or_true, if_true, if_false, and_self, and_true, true_and, not_false_eq_true, not_true_eq_false, fd_Mo_mergeNow_49, fd_Mo_mergeNow_50, fd_Mo_mergeNow_51, fd_Mo_mergeNow_54, fd_Mo_mergeNow_55, fd_Mo_mergeNow_56, k72, r25, k86, n86, i1, q1, x1]
    have hM := ens_ok N t
    have hG : (mg (bm (ens Rs t)) (ch_E r.2.2)).length < 40000 := by
      rw [← bm_snoc, ← ens_snoc hr]
      have := bm_ens_len Rs (t + 1)
      omega
    refine am_call (l2_below (d := d + 2) hK.2.2.2.2.2 Ky hM.2 x2.1 hG) (fun o g1 z => ?_)
    obtain ⟨rfl, F1, v, Ky1⟩ := z
    have m1 : ((-1 : Int32) = -1) = True := eq_true rfl
    simp only [am_wp, am_stp, am_en, am_as, am_pad, am_nth, am_set, am_st1, am_st2, am_kl, am_kill, am_mem, am_fv, am_tk, am_wt, am_bk, Option.toList, List.cons_append, List.nil_append, Nat.reduceAdd, Nat.reduceEqDiff, Nat.reduceLeDiff, reduceIte, Nat.reduceLT, or_self, true_or, or_true, if_true, if_false, and_self, and_true, true_and, not_false_eq_true, not_true_eq_false]
    refine am_go [63, 67] 2 ?_
    simp only [am_wp, am_stp, am_en, am_as, am_pad, am_nth, am_set, am_st1, am_st2, am_kl, am_kill, am_mem, am_fv, am_tk, am_wt, am_bk, Option.toList, List.cons_append, List.nil_append, Nat.reduceAdd, Nat.reduceEqDiff, Nat.reduceLeDiff, reduceIte, Nat.reduceLT, or_self, true_or, or_true, if_true, if_false, and_self, and_true, true_and, not_false_eq_true, not_true_eq_false, fd_Mo_mergeNow_59, fd_Mo_mergeNow_60, m1]
    refine am_go [26] 2 ?_
    simp only [am_wp, am_stp, am_en, am_as, am_pad, am_nth, am_set, am_st1, am_st2, am_kl, am_kill, am_mem, am_fv, am_tk, am_wt, am_bk, Option.toList, List.cons_append, List.nil_append, Nat.reduceAdd, Nat.reduceEqDiff, Nat.reduceLeDiff, reduceIte, Nat.reduceLT, or_self, true_or, or_true, if_true, if_false, and_self, and_true, true_and, not_false_eq_true, not_true_eq_false, fd_Mo_mergeNow_67, fd_Mo_mergeNow_70, nI_1]
    rw [← bm_snoc, ← ens_snoc hr] at Ky1
    exact l2_mn_take hto hen hx m (t + 1) g1 (by omega) ⟨⟨hK.mv F1 (v 1 (by decide) (by decide) (by decide)) (v 8 (by decide) (by decide) (by decide)) (v 3 (by decide) (by decide) (by decide)), T.mv F1 (v 11 (by decide) (by decide) (by decide)), N.fi F1 (v 24 (by decide) (by decide) (by decide)) (by simp)⟩, Ky1, F.trans (F1.sub (by unfold rf_w; simp)), by rw [v 0 (by decide) (by decide) (by decide)]; exact e0⟩
/-- the whole list again -/
theorem l2_mn_back {d : Nat} {x1 x2 x3 x5 : Int32} {w7 w8 : Value} {M : List ent} {h : am_H} {Q : am_O → am_H → Prop} (hS : mo_Sk h) (hM : M.length ≤ 40000) (T0 : tr_S h 101 102 103 M) (hx : ∀ g w6, am_fi [92, 93, 94] h g → tr_S g 92 93 94 M → am_Ex nm_pr d mt_Mo_mergeNow (197, [.ref 72, .int x1, .int x2, .int x3, .int (nI M.length), .int x5, w6, w7, w8], [], g) Q) : ∀ (m i : Nat) (g : am_H), m + i = M.length → am_fi [92, 93, 94] h g → tr_S g 92 93 94 (M.take i) →
    am_Ex nm_pr d mt_Mo_mergeNow (142, [.ref 72, .int x1, .int x2, .int x3, .int (nI M.length), .int x5, .int (nI i), w7, w8], [], g) Q
  | 0, i, g, hm, F, T => by
    have e : i = M.length := by omega
    subst e
    have l1 : ¬ nI M.length < nI M.length := nI_nlt (Nat.le_refl _) (by omega)
    rw [List.take_length] at T
    refine am_go [149, 197] 3 ?_
    simp only [am_wp, am_stp, am_en, am_as, am_pad, am_nth, am_set, am_st1, am_st2, am_kl, am_kill, am_mem, am_fv, am_tk, am_wt, am_bk, Option.toList, List.cons_append, List.nil_append, Nat.reduceAdd, Nat.reduceEqDiff, Nat.reduceLeDiff, reduceIte, Nat.reduceLT, or_self, true_or, or_true, if_true, if_false, and_self, and_true, true_and, not_false_eq_true, not_true_eq_false, fd_Mo_mergeNow_142, fd_Mo_mergeNow_144, fd_Mo_mergeNow_146, l1]
    exact hx g _ F T
  | m + 1, i, g, hm, F, T => by
    have G := hS.fi F
    obtain ⟨k72, r32, r33, r34, k92, n92, k93, n93, k94, n94⟩ := mo_ky G
    obtain ⟨-, -, -, ⟨r42, k101, n101⟩, ⟨r43, k102, n102⟩, ⟨r44, k103, n103⟩⟩ := mo_ol G
    have hi : i < M.length := by omega
    have hget := List.getElem?_eq_getElem hi
    obtain ⟨t1, t2, t3⟩ := (T0.fi F (by simp)) i _ hget
    have l1 : nI i < nI M.length := nI_lt hi (by omega)
    have i1 := am_inb (c := i) (N := 45000) (by omega) (by omega)
    have q1 : (nI i).toNatClampNeg = i := nI_clamp (by omega)
    refine am_go [149, 197] 3 ?_
    simp only [am_wp, am_stp, am_en, am_as, am_pad, am_nth, am_set, am_st1, am_st2, am_kl, am_kill, am_mem, am_fv, am_tk, am_wt, am_bk, Option.toList, List.cons_append, List.nil_append, Nat.reduceAdd, Nat.reduceEqDiff, Nat.reduceLeDiff, reduceIte, Nat.reduceLT, or_self, true_or, or_true, if_true, if_false, and_self, and_true, true_and, not_false_eq_true, not_true_eq_false, fd_Mo_mergeNow_142, fd_Mo_mergeNow_144, fd_Mo_mergeNow_146, l1]
    refine am_go [] 8 ?_
    simp only [am_wp, am_stp, am_en, am_as, am_pad, am_nth, am_set, am_st1, am_st2, am_kl, am_kill, am_mem, am_fv, am_tk, am_wt, am_bk, Option.toList, List.cons_append, List.nil_append, Nat.reduceAdd, Nat.reduceEqDiff, Nat.reduceLeDiff, reduceIte, Nat.reduceLT, or_self, true_or, or_true, if_true, if_false, and_self, and_true, true_and, not_false_eq_true, not_true_eq_false, fd_Mo_mergeNow_149, fd_Mo_mergeNow_150, fd_Mo_mergeNow_153, fd_Mo_mergeNow_155, fd_Mo_mergeNow_156, fd_Mo_mergeNow_159, fd_Mo_mergeNow_161, fd_Mo_mergeNow_162, k72, r32, r42, k101, n101, i1, q1, t1, k92, n92]
    refine am_go [] 8 ?_
    simp only [am_wp, am_stp, am_en, am_as, am_pad, am_nth, am_set, am_st1, am_st2, am_kl, am_kill, am_mem, am_fv, am_tk, am_wt, am_bk, Option.toList, List.cons_append, List.nil_append, Nat.reduceAdd, Nat.reduceEqDiff, Nat.reduceLeDiff, reduceIte, Nat.reduceLT, or_self, true_or, or_true, if_true, if_false, and_self, and_true, true_and, not_false_eq_true, not_true_eq_false, fd_Mo_mergeNow_163, fd_Mo_mergeNow_164, fd_Mo_mergeNow_167, fd_Mo_mergeNow_169, fd_Mo_mergeNow_170, fd_Mo_mergeNow_173, fd_Mo_mergeNow_175, fd_Mo_mergeNow_176, hx_nx_sI, hx_ce_sI, hx_sl_sI, hx_kd_sI, hx_ln_sI, hx_I_sI, hx_L_sI, hx_R_sI, hx_nx_sL, hx_ce_sL, hx_sl_sL, hx_kd_sL, hx_ln_sL, hx_I_sL, hx_L_sL, hx_R_sL, hx_nx_sR, hx_ce_sR, hx_sl_sR, hx_kd_sR, hx_ln_sR, hx_I_sR, hx_L_sR, hx_R_sR, hx_nx_al, hx_ce_al, hx_sl_al, hx_kd_al, hx_ln_al, hx_I_al, hx_L_al, hx_R_al, hx_nx_row, hx_ce_row, hx_sl_row, hx_kd_row, hx_ln_row, hx_I_row, hx_L_row, hx_R_row, hx_nx_mk, hx_kd_mk, hx_ln_mk, hx_I_mk, hx_L_mk, hx_R_mk, k72, r33, r43, k102, n102, i1, q1, t2, k93, n93]
    refine am_go [142] 10 ?_
    simp only [am_wp, am_stp, am_en, am_as, am_pad, am_nth, am_set, am_st1, am_st2, am_kl, am_kill, am_mem, am_fv, am_tk, am_wt, am_bk, Option.toList, List.cons_append, List.nil_append, Nat.reduceAdd, Nat.reduceEqDiff, Nat.reduceLeDiff, reduceIte, Nat.reduceLT, or_self, true_or, or_true, if_true, if_false, and_self, and_true, true_and, not_false_eq_true, not_true_eq_false, fd_Mo_mergeNow_177, fd_Mo_mergeNow_178, fd_Mo_mergeNow_181, fd_Mo_mergeNow_183, fd_Mo_mergeNow_184, fd_Mo_mergeNow_187, fd_Mo_mergeNow_189, fd_Mo_mergeNow_190, fd_Mo_mergeNow_191, fd_Mo_mergeNow_194, hx_nx_sI, hx_ce_sI, hx_sl_sI, hx_kd_sI, hx_ln_sI, hx_I_sI, hx_L_sI, hx_R_sI, hx_nx_sL, hx_ce_sL, hx_sl_sL, hx_kd_sL, hx_ln_sL, hx_I_sL, hx_L_sL, hx_R_sL, hx_nx_sR, hx_ce_sR, hx_sl_sR, hx_kd_sR, hx_ln_sR, hx_I_sR, hx_L_sR, hx_R_sR, hx_nx_al, hx_ce_al, hx_sl_al, hx_kd_al, hx_ln_al, hx_I_al, hx_L_al, hx_R_al, hx_nx_row, hx_ce_row, hx_sl_row, hx_kd_row, hx_ln_row, hx_I_row, hx_L_row, hx_R_row, hx_nx_mk, hx_kd_mk, hx_ln_mk, hx_I_mk, hx_L_mk, hx_R_mk, k72, r34, r44, k103, n103, i1, q1, t3, k94, n94, nI_1]
    have hlt : (M.take i).length = i := by rw [List.length_take]; omega
    refine l2_mn_back hS hM T0 hx m (i + 1) _ (by omega) (((F.sL (by simp)).sI (by simp)).sL (by simp)) ?_
    rw [take_snoc hget]
    refine T.snoc (fun j hj => ?_) ?_ ?_ ?_
    · rw [hlt] at hj
      refine ⟨?_, ?_, ?_⟩
      · simp only [hx_nx_sI, hx_ce_sI, hx_sl_sI, hx_kd_sI, hx_ln_sI, hx_I_sI, hx_L_sI, hx_R_sI, hx_nx_sL, hx_ce_sL, hx_sl_sL, hx_kd_sL, hx_ln_sL, hx_I_sL, hx_L_sL, hx_R_sL, hx_nx_sR, hx_ce_sR, hx_sl_sR, hx_kd_sR, hx_ln_sR, hx_I_sR, hx_L_sR, hx_R_sR, hx_nx_al, hx_ce_al, hx_sl_al, hx_kd_al, hx_ln_al, hx_I_al, hx_L_al, hx_R_al, hx_nx_row, hx_ce_row, hx_sl_row, hx_kd_row, hx_ln_row, hx_I_row, hx_L_row, hx_R_row, hx_nx_mk, hx_kd_mk, hx_ln_mk, hx_I_mk, hx_L_mk, hx_R_mk, am_wp, am_stp, am_en, am_as, am_pad, am_nth, am_set, am_st1, am_st2, am_kl, am_kill, am_mem, am_fv, am_tk, am_wt, am_bk, Option.toList, List.cons_append, List.nil_append, Nat.reduceAdd, Nat.reduceEqDiff, Nat.reduceLeDiff, reduceIte, Nat.reduceLT, or_self, true_or, or_true, if_true, if_false, and_self, and_true, true_and, not_false_eq_true, not_true_eq_false]; rw [if_neg (by omega)]
      · simp only [hx_nx_sI, hx_ce_sI, hx_sl_sI, hx_kd_sI, hx_ln_sI, hx_I_sI, hx_L_sI, hx_R_sI, hx_nx_sL, hx_ce_sL, hx_sl_sL, hx_kd_sL, hx_ln_sL, hx_I_sL, hx_L_sL, hx_R_sL, hx_nx_sR, hx_ce_sR, hx_sl_sR, hx_kd_sR, hx_ln_sR, hx_I_sR, hx_L_sR, hx_R_sR, hx_nx_al, hx_ce_al, hx_sl_al, hx_kd_al, hx_ln_al, hx_I_al, hx_L_al, hx_R_al, hx_nx_row, hx_ce_row, hx_sl_row, hx_kd_row, hx_ln_row, hx_I_row, hx_L_row, hx_R_row, hx_nx_mk, hx_kd_mk, hx_ln_mk, hx_I_mk, hx_L_mk, hx_R_mk, am_wp, am_stp, am_en, am_as, am_pad, am_nth, am_set, am_st1, am_st2, am_kl, am_kill, am_mem, am_fv, am_tk, am_wt, am_bk, Option.toList, List.cons_append, List.nil_append, Nat.reduceAdd, Nat.reduceEqDiff, Nat.reduceLeDiff, reduceIte, Nat.reduceLT, or_self, true_or, or_true, if_true, if_false, and_self, and_true, true_and, not_false_eq_true, not_true_eq_false]; rw [if_neg (by omega)]
      · simp only [hx_nx_sI, hx_ce_sI, hx_sl_sI, hx_kd_sI, hx_ln_sI, hx_I_sI, hx_L_sI, hx_R_sI, hx_nx_sL, hx_ce_sL, hx_sl_sL, hx_kd_sL, hx_ln_sL, hx_I_sL, hx_L_sL, hx_R_sL, hx_nx_sR, hx_ce_sR, hx_sl_sR, hx_kd_sR, hx_ln_sR, hx_I_sR, hx_L_sR, hx_R_sR, hx_nx_al, hx_ce_al, hx_sl_al, hx_kd_al, hx_ln_al, hx_I_al, hx_L_al, hx_R_al, hx_nx_row, hx_ce_row, hx_sl_row, hx_kd_row, hx_ln_row, hx_I_row, hx_L_row, hx_R_row, hx_nx_mk, hx_kd_mk, hx_ln_mk, hx_I_mk, hx_L_mk, hx_R_mk, am_wp, am_stp, am_en, am_as, am_pad, am_nth, am_set, am_st1, am_st2, am_kl, am_kill, am_mem, am_fv, am_tk, am_wt, am_bk, Option.toList, List.cons_append, List.nil_append, Nat.reduceAdd, Nat.reduceEqDiff, Nat.reduceLeDiff, reduceIte, Nat.reduceLT, or_self, true_or, or_true, if_true, if_false, and_self, and_true, true_and, not_false_eq_true, not_true_eq_false]; rw [if_neg (by omega)]
    · rw [hlt]; simp only [hx_nx_sI, hx_ce_sI, hx_sl_sI, hx_kd_sI, hx_ln_sI, hx_I_sI, hx_L_sI, hx_R_sI, hx_nx_sL, hx_ce_sL, hx_sl_sL, hx_kd_sL, hx_ln_sL, hx_I_sL, hx_L_sL, hx_R_sL, hx_nx_sR, hx_ce_sR, hx_sl_sR, hx_kd_sR, hx_ln_sR, hx_I_sR, hx_L_sR, hx_R_sR, hx_nx_al, hx_ce_al, hx_sl_al, hx_kd_al, hx_ln_al, hx_I_al, hx_L_al, hx_R_al, hx_nx_row, hx_ce_row, hx_sl_row, hx_kd_row, hx_ln_row, hx_I_row, hx_L_row, hx_R_row, hx_nx_mk, hx_kd_mk, hx_ln_mk, hx_I_mk, hx_L_mk, hx_R_mk, am_wp, am_stp, am_en, am_as, am_pad, am_nth, am_set, am_st1, am_st2, am_kl, am_kill, am_mem, am_fv, am_tk, am_wt, am_bk, Option.toList, List.cons_append, List.nil_append, Nat.reduceAdd, Nat.reduceEqDiff, Nat.reduceLeDiff, reduceIte, Nat.reduceLT, or_self, true_or, or_true, if_true, if_false, and_self, and_true, true_and, not_false_eq_true, not_true_eq_false]
    · rw [hlt]; simp only [hx_nx_sI, hx_ce_sI, hx_sl_sI, hx_kd_sI, hx_ln_sI, hx_I_sI, hx_L_sI, hx_R_sI, hx_nx_sL, hx_ce_sL, hx_sl_sL, hx_kd_sL, hx_ln_sL, hx_I_sL, hx_L_sL, hx_R_sL, hx_nx_sR, hx_ce_sR, hx_sl_sR, hx_kd_sR, hx_ln_sR, hx_I_sR, hx_L_sR, hx_R_sR, hx_nx_al, hx_ce_al, hx_sl_al, hx_kd_al, hx_ln_al, hx_I_al, hx_L_al, hx_R_al, hx_nx_row, hx_ce_row, hx_sl_row, hx_kd_row, hx_ln_row, hx_I_row, hx_L_row, hx_R_row, hx_nx_mk, hx_kd_mk, hx_ln_mk, hx_I_mk, hx_L_mk, hx_R_mk, am_wp, am_stp, am_en, am_as, am_pad, am_nth, am_set, am_st1, am_st2, am_kl, am_kill, am_mem, am_fv, am_tk, am_wt, am_bk, Option.toList, List.cons_append, List.nil_append, Nat.reduceAdd, Nat.reduceEqDiff, Nat.reduceLeDiff, reduceIte, Nat.reduceLT, or_self, true_or, or_true, if_true, if_false, and_self, and_true, true_and, not_false_eq_true, not_true_eq_false]
    · rw [hlt]; simp only [hx_nx_sI, hx_ce_sI, hx_sl_sI, hx_kd_sI, hx_ln_sI, hx_I_sI, hx_L_sI, hx_R_sI, hx_nx_sL, hx_ce_sL, hx_sl_sL, hx_kd_sL, hx_ln_sL, hx_I_sL, hx_L_sL, hx_R_sL, hx_nx_sR, hx_ce_sR, hx_sl_sR, hx_kd_sR, hx_ln_sR, hx_I_sR, hx_L_sR, hx_R_sR, hx_nx_al, hx_ce_al, hx_sl_al, hx_kd_al, hx_ln_al, hx_I_al, hx_L_al, hx_R_al, hx_nx_row, hx_ce_row, hx_sl_row, hx_kd_row, hx_ln_row, hx_I_row, hx_L_row, hx_R_row, hx_nx_mk, hx_kd_mk, hx_ln_mk, hx_I_mk, hx_L_mk, hx_R_mk, am_wp, am_stp, am_en, am_as, am_pad, am_nth, am_set, am_st1, am_st2, am_kl, am_kill, am_mem, am_fv, am_tk, am_wt, am_bk, Option.toList, List.cons_append, List.nil_append, Nat.reduceAdd, Nat.reduceEqDiff, Nat.reduceLeDiff, reduceIte, Nat.reduceLT, or_self, true_or, or_true, if_true, if_false, and_self, and_true, true_and, not_false_eq_true, not_true_eq_false]
theorem aou_ens (Rs : List rn) (k : Nat) : aou (ab Rs) k = if decide (k = Rs.length) = true then rp (bm (ens Rs k)) else bm (ens Rs k) := by
  unfold aou ou
  rw [ens_ab]
  simp [ab]
/-- one round: done, or on to the next level -/
theorem l2_mn_round {d P n to t : Nat} {w4 w5 w6 w7 w8 : Value} {Rs : List rn} {h g : am_H} {Q : am_O → am_H → Prop} (h1 : 1 ≤ to) (hto : to ≤ 3) (hen : aen (ab Rs) < 30000) (ht : t ≤ up to (lvs Rs)) (I : mr_I P h g n Rs (bm (ens Rs t)))
    (hx1 : (to = 3 ∨ npg (aou (ab Rs) (up to (lvs Rs))) ≤ mostp to) → ∀ g x4 x5 w6 w7 w8, mr_I P h g n Rs (aou (ab Rs) (up to (lvs Rs))) → am_Ex nm_pr (d + 5) mt_Mo_mergeNow (200, [.ref 72, .int (nI (up to (lvs Rs))), .int (nI to), .int 1, .int x4, .int x5, w6, w7, w8], [], g) Q)
    (hx2 : to < 3 → mostp to < npg (aou (ab Rs) (up to (lvs Rs))) → ∀ g x4 x5 w6 w7 w8, mr_I P h g n Rs (bm (ens Rs (up to (lvs Rs)))) → am_Ex nm_pr (d + 5) mt_Mo_mergeNow (26, [.ref 72, .int (nI (up to (lvs Rs))), .int (nI (to + 1)), .int 0, .int x4, .int x5, w6, w7, w8], [], g) Q) :
    am_Ex nm_pr (d + 5) mt_Mo_mergeNow (26, [.ref 72, .int (nI t), .int (nI to), .int 0, w4, w5, w6, w7, w8], [], g) Q := by
  refine l2_mn_take hto hen (fun g1 I1 => ?_) (up to (lvs Rs) - t) t g (by omega) I
  obtain ⟨⟨hK, T, N⟩, Ky, F, e0⟩ := id I1
  have k72 := hK.1.1
  have c2 := N.2.1
  have c3 := N.2.2.1
  have ul := up_le to (lvs Rs)
  have hlv : (lvs Rs).length = Rs.length := by unfold lvs; rw [List.length_map]
  have hml := bm_ens_len Rs (up to (lvs Rs))
  have hae := aou_ens Rs (up to (lvs Rs))
  have hal : (aou (ab Rs) (up to (lvs Rs))).length < 30000 := by
    rw [hae]
    have := rp_len (bm (ens Rs (up to (lvs Rs))))
    split <;> omega
  generalize hk : up to (lvs Rs) = k at *
  have rest : am_Ex nm_pr (d + 5) mt_Mo_mergeNow (87, [.ref 72, .int (nI k), .int (nI to), .int 0, w4, w5, w6, w7, w8], [.int (if decide (k = Rs.length) = true then 1 else 0), .ref 72], g1) Q := by
    refine am_go [] 1 ?_
    simp only [am_wp, am_stp, am_en, am_as, am_pad, am_nth, am_set, am_st1, am_st2, am_kl, am_kill, am_mem, am_fv, am_tk, am_wt, am_bk, Option.toList, List.cons_append, List.nil_append, Nat.reduceAdd, Nat.reduceEqDiff, Nat.reduceLeDiff, reduceIte, Nat.reduceLT, or_self, true_or, or_true, if_true, if_false, and_self, and_true, true_and, not_false_eq_true, not_true_eq_false, fd_Mo_mergeNow_87, k72]
    refine am_call (l2_ripe (d := d + 4) (b := decide (k = Rs.length)) Ky (by omega)) (fun o g2 z => ?_)
    obtain ⟨rfl, F2, v, Ky2, T2⟩ := z
    rw [← hae] at Ky2
    have K2 : rf_K P g2 := hK.mv F2 (v 1 (by decide)) (v 8 (by decide)) (v 3 (by decide))
    have R2 : rf_S P g2 n Rs := ⟨K2, T.mv F2 (v 11 (by decide)), N.fi F2 (v 24 (by decide)) (by simp)⟩
    have I2 : mr_I P h g2 n Rs (aou (ab Rs) k) := ⟨R2, Ky2, F.trans (F2.sub (by unfold rf_w; simp)), by rw [v 0 (by decide)]; exact e0⟩
    simp only [am_wp, am_stp, am_en, am_as, am_pad, am_nth, am_set, am_st1, am_st2, am_kl, am_kill, am_mem, am_fv, am_tk, am_wt, am_bk, Option.toList, List.cons_append, List.nil_append, Nat.reduceAdd, Nat.reduceEqDiff, Nat.reduceLeDiff, reduceIte, Nat.reduceLT, or_self, true_or, or_true, if_true, if_false, and_self, and_true, true_and, not_false_eq_true, not_true_eq_false]
    refine am_go [] 3 ?_
    simp only [am_wp, am_stp, am_en, am_as, am_pad, am_nth, am_set, am_st1, am_st2, am_kl, am_kill, am_mem, am_fv, am_tk, am_wt, am_bk, Option.toList, List.cons_append, List.nil_append, Nat.reduceAdd, Nat.reduceEqDiff, Nat.reduceLeDiff, reduceIte, Nat.reduceLT, or_self, true_or, or_true, if_true, if_false, and_self, and_true, true_and, not_false_eq_true, not_true_eq_false, fd_Mo_mergeNow_90, fd_Mo_mergeNow_92, fd_Mo_mergeNow_93, K2.1.1]
    refine am_call (l2_pagesFor (d := d + 1) Ky2) (fun o g3 z => ?_)
    obtain ⟨rfl, rfl⟩ := z
    have hnl := npg_le (L := aou (ab Rs) k)
    simp only [am_wp, am_stp, am_en, am_as, am_pad, am_nth, am_set, am_st1, am_st2, am_kl, am_kill, am_mem, am_fv, am_tk, am_wt, am_bk, Option.toList, List.cons_append, List.nil_append, Nat.reduceAdd, Nat.reduceEqDiff, Nat.reduceLeDiff, reduceIte, Nat.reduceLT, or_self, true_or, or_true, if_true, if_false, and_self, and_true, true_and, not_false_eq_true, not_true_eq_false]
    refine am_go [98] 1 ?_
    simp only [am_wp, am_stp, am_en, am_as, am_pad, am_nth, am_set, am_st1, am_st2, am_kl, am_kill, am_mem, am_fv, am_tk, am_wt, am_bk, Option.toList, List.cons_append, List.nil_append, Nat.reduceAdd, Nat.reduceEqDiff, Nat.reduceLeDiff, reduceIte, Nat.reduceLT, or_self, true_or, or_true, if_true, if_false, and_self, and_true, true_and, not_false_eq_true, not_true_eq_false, fd_Mo_mergeNow_96]
    -- done
    have fin1 : (to = 3 ∨ npg (aou (ab Rs) k) ≤ mostp to) → am_Ex nm_pr (d + 5) mt_Mo_mergeNow (120, [.ref 72, .int (nI k), .int (nI to), .int 0, .int (nI (bm (ens Rs k)).length), .int (nI (npg (aou (ab Rs) k))), w6, w7, w8], [], g3) Q := by
      intro hc
      have one0 : ¬ (1 : Int32) = 0 := by decide
      refine am_go [200, 130] 8 ?_
      simp only [am_wp, am_stp, am_en, am_as, am_pad, am_nth, am_set, am_st1, am_st2, am_kl, am_kill, am_mem, am_fv, am_tk, am_wt, am_bk, Option.toList, List.cons_append, List.nil_append, Nat.reduceAdd, Nat.reduceEqDiff, Nat.reduceLeDiff, reduceIte, Nat.reduceLT, or_self, true_or, or_true, if_true, if_false, and_self, and_true, true_and, not_false_eq_true, not_true_eq_false, fd_Mo_mergeNow_120, fd_Mo_mergeNow_121, fd_Mo_mergeNow_125, fd_Mo_mergeNow_126, fd_Mo_mergeNow_127, fd_Mo_mergeNow_197, fd_Mo_mergeNow_22, fd_Mo_mergeNow_23, one0]
      exact hx1 hc g3 _ _ _ _ _ I2
    -- not done
    have fin2 : to < 3 → mostp to < npg (aou (ab Rs) k) → am_Ex nm_pr (d + 5) mt_Mo_mergeNow (124, [.ref 72, .int (nI k), .int (nI to), .int 0, .int (nI (bm (ens Rs k)).length), .int (nI (npg (aou (ab Rs) k))), w6, w7, w8], [], g3) Q := by
      intro hc1 hc2
      refine am_go [197, 142] 10 ?_
      simp only [am_wp, am_stp, am_en, am_as, am_pad, am_nth, am_set, am_st1, am_st2, am_kl, am_kill, am_mem, am_fv, am_tk, am_wt, am_bk, Option.toList, List.cons_append, List.nil_append, Nat.reduceAdd, Nat.reduceEqDiff, Nat.reduceLeDiff, reduceIte, Nat.reduceLT, or_self, true_or, or_true, if_true, if_false, and_self, and_true, true_and, not_false_eq_true, not_true_eq_false, fd_Mo_mergeNow_124, fd_Mo_mergeNow_125, fd_Mo_mergeNow_126, fd_Mo_mergeNow_127, fd_Mo_mergeNow_130, fd_Mo_mergeNow_133, fd_Mo_mergeNow_134, fd_Mo_mergeNow_136, fd_Mo_mergeNow_139, fd_Mo_mergeNow_140, nI_1, K2.1.1]
      have F4 : am_fi [72] g3 (am_sI g3 72 31 (nI (bm (ens Rs k)).length)) := am_fi.refl.sI (by simp)
      have u31 : am_I (am_sI g3 72 31 (nI (bm (ens Rs k)).length)) 72 31 = nI (bm (ens Rs k)).length := by simp only [hx_nx_sI, hx_ce_sI, hx_sl_sI, hx_kd_sI, hx_ln_sI, hx_I_sI, hx_L_sI, hx_R_sI, hx_nx_sL, hx_ce_sL, hx_sl_sL, hx_kd_sL, hx_ln_sL, hx_I_sL, hx_L_sL, hx_R_sL, hx_nx_sR, hx_ce_sR, hx_sl_sR, hx_kd_sR, hx_ln_sR, hx_I_sR, hx_L_sR, hx_R_sR, hx_nx_al, hx_ce_al, hx_sl_al, hx_kd_al, hx_ln_al, hx_I_al, hx_L_al, hx_R_al, hx_nx_row, hx_ce_row, hx_sl_row, hx_kd_row, hx_ln_row, hx_I_row, hx_L_row, hx_R_row, hx_nx_mk, hx_kd_mk, hx_ln_mk, hx_I_mk, hx_L_mk, hx_R_mk, am_wp, am_stp, am_en, am_as, am_pad, am_nth, am_set, am_st1, am_st2, am_kl, am_kill, am_mem, am_fv, am_tk, am_wt, am_bk, Option.toList, List.cons_append, List.nil_append, Nat.reduceAdd, Nat.reduceEqDiff, Nat.reduceLeDiff, reduceIte, Nat.reduceLT, or_self, true_or, or_true, if_true, if_false, and_self, and_true, true_and, not_false_eq_true, not_true_eq_false]
      have uj : ∀ j, j ≠ 31 → am_I (am_sI g3 72 31 (nI (bm (ens Rs k)).length)) 72 j = am_I g3 72 j := fun j hj => by simp only [hx_nx_sI, hx_ce_sI, hx_sl_sI, hx_kd_sI, hx_ln_sI, hx_I_sI, hx_L_sI, hx_R_sI, hx_nx_sL, hx_ce_sL, hx_sl_sL, hx_kd_sL, hx_ln_sL, hx_I_sL, hx_L_sL, hx_R_sL, hx_nx_sR, hx_ce_sR, hx_sl_sR, hx_kd_sR, hx_ln_sR, hx_I_sR, hx_L_sR, hx_R_sR, hx_nx_al, hx_ce_al, hx_sl_al, hx_kd_al, hx_ln_al, hx_I_al, hx_L_al, hx_R_al, hx_nx_row, hx_ce_row, hx_sl_row, hx_kd_row, hx_ln_row, hx_I_row, hx_L_row, hx_R_row, hx_nx_mk, hx_kd_mk, hx_ln_mk, hx_I_mk, hx_L_mk, hx_R_mk, am_wp, am_stp, am_en, am_as, am_pad, am_nth, am_set, am_st1, am_st2, am_kl, am_kill, am_mem, am_fv, am_tk, am_wt, am_bk, Option.toList, List.cons_append, List.nil_append, Nat.reduceAdd, Nat.reduceEqDiff, Nat.reduceLeDiff, reduceIte, Nat.reduceLT, or_self, true_or, or_true, if_true, if_false, and_self, and_true, true_and, not_false_eq_true, not_true_eq_false, hj]
      generalize am_sI g3 72 31 (nI (bm (ens Rs k)).length) = g4 at F4 u31 uj ⊢
      refine l2_mn_back (K2.1.fi F4) (by omega) (T2.fi F4 (by simp)) (fun g5 v6 F5 T5 => ?_) (bm (ens Rs k)).length 0 g4 (by omega) am_fi.refl (fun i e he => by simp at he)
      have F45 : am_fi [72, 92, 93, 94] g3 g5 := (F4.sub (by simp)).trans (F5.sub (by simp))
      have j72 : am_I g5 72 = am_I g4 72 := F5.2.2.2.2.2.2.1 72 (by simp)
      refine am_go [26] 3 ?_
      simp only [am_wp, am_stp, am_en, am_as, am_pad, am_nth, am_set, am_st1, am_st2, am_kl, am_kill, am_mem, am_fv, am_tk, am_wt, am_bk, Option.toList, List.cons_append, List.nil_append, Nat.reduceAdd, Nat.reduceEqDiff, Nat.reduceLeDiff, reduceIte, Nat.reduceLT, or_self, true_or, or_true, if_true, if_false, and_self, and_true, true_and, not_false_eq_true, not_true_eq_false, fd_Mo_mergeNow_197, fd_Mo_mergeNow_22, fd_Mo_mergeNow_23]
      refine hx2 hc1 hc2 g5 _ _ _ _ _ ⟨⟨K2.mv F45 (by rw [j72, uj 1 (by decide)]) (by rw [j72, uj 8 (by decide)]) (by rw [j72, uj 3 (by decide)]), R2.2.1.mv F45 (by rw [j72, uj 11 (by decide)]), R2.2.2.fi F45 (by rw [j72, uj 24 (by decide)]) (by simp)⟩, ⟨K2.1.fi F45, by rw [j72]; exact u31, by omega, T5⟩, I2.2.2.1.trans (F45.sub (by unfold rf_w; simp)), by rw [j72, uj 0 (by decide)]; exact I2.2.2.2⟩
    have hto3 : to = 1 ∨ to = 2 ∨ to = 3 := by omega
    rcases hto3 with e | e | e
    · subst e
      have m1 : (nI 1 = 3) = False := by decide
      have m2 : (nI 1 = 1) = True := eq_true rfl
      refine am_go [120, 103] 3 ?_
      simp only [am_wp, am_stp, am_en, am_as, am_pad, am_nth, am_set, am_st1, am_st2, am_kl, am_kill, am_mem, am_fv, am_tk, am_wt, am_bk, Option.toList, List.cons_append, List.nil_append, Nat.reduceAdd, Nat.reduceEqDiff, Nat.reduceLeDiff, reduceIte, Nat.reduceLT, or_self, true_or, or_true, if_true, if_false, and_self, and_true, true_and, not_false_eq_true, not_true_eq_false, fd_Mo_mergeNow_98, fd_Mo_mergeNow_99, fd_Mo_mergeNow_100, m1]
      refine am_go [115, 120, 124] 7 ?_
      simp only [am_wp, am_stp, am_en, am_as, am_pad, am_nth, am_set, am_st1, am_st2, am_kl, am_kill, am_mem, am_fv, am_tk, am_wt, am_bk, Option.toList, List.cons_append, List.nil_append, Nat.reduceAdd, Nat.reduceEqDiff, Nat.reduceLeDiff, reduceIte, Nat.reduceLT, or_self, true_or, or_true, if_true, if_false, and_self, and_true, true_and, not_false_eq_true, not_true_eq_false, fd_Mo_mergeNow_103, fd_Mo_mergeNow_105, fd_Mo_mergeNow_106, fd_Mo_mergeNow_107, fd_Mo_mergeNow_110, fd_Mo_mergeNow_112, fd_Mo_mergeNow_117, m2]
      by_cases c : npg (aou (ab Rs) k) ≤ 8
      · have l : ¬ (8 : Int32) < nI (npg (aou (ab Rs) k)) := nI_nlt (a := 8) c (by decide)
        simp only [l, am_wp, am_stp, am_en, am_as, am_pad, am_nth, am_set, am_st1, am_st2, am_kl, am_kill, am_mem, am_fv, am_tk, am_wt, am_bk, Option.toList, List.cons_append, List.nil_append, Nat.reduceAdd, Nat.reduceEqDiff, Nat.reduceLeDiff, reduceIte, Nat.reduceLT, or_self, true_or, or_true, if_true, if_false, and_self, and_true, true_and, not_false_eq_true, not_true_eq_false]
        exact fin1 (Or.inr c)
      · have l : (8 : Int32) < nI (npg (aou (ab Rs) k)) := nI_lt (a := 8) (by omega) (by omega)
        simp only [l, am_wp, am_stp, am_en, am_as, am_pad, am_nth, am_set, am_st1, am_st2, am_kl, am_kill, am_mem, am_fv, am_tk, am_wt, am_bk, Option.toList, List.cons_append, List.nil_append, Nat.reduceAdd, Nat.reduceEqDiff, Nat.reduceLeDiff, reduceIte, Nat.reduceLT, or_self, true_or, or_true, if_true, if_false, and_self, and_true, true_and, not_false_eq_true, not_true_eq_false]
        exact fin2 (by omega) (by show 8 < _; omega)
    · subst e
      have m1 : (nI 2 = 3) = False := by decide
      have m2 : (nI 2 = 1) = False := by decide
      refine am_go [120, 103] 3 ?_
      simp only [am_wp, am_stp, am_en, am_as, am_pad, am_nth, am_set, am_st1, am_st2, am_kl, am_kill, am_mem, am_fv, am_tk, am_wt, am_bk, Option.toList, List.cons_append, List.nil_append, Nat.reduceAdd, Nat.reduceEqDiff, Nat.reduceLeDiff, reduceIte, Nat.reduceLT, or_self, true_or, or_true, if_true, if_false, and_self, and_true, true_and, not_false_eq_true, not_true_eq_false, fd_Mo_mergeNow_98, fd_Mo_mergeNow_99, fd_Mo_mergeNow_100, m1]
      refine am_go [110, 120, 124] 6 ?_
      simp only [am_wp, am_stp, am_en, am_as, am_pad, am_nth, am_set, am_st1, am_st2, am_kl, am_kill, am_mem, am_fv, am_tk, am_wt, am_bk, Option.toList, List.cons_append, List.nil_append, Nat.reduceAdd, Nat.reduceEqDiff, Nat.reduceLeDiff, reduceIte, Nat.reduceLT, or_self, true_or, or_true, if_true, if_false, and_self, and_true, true_and, not_false_eq_true, not_true_eq_false, fd_Mo_mergeNow_103, fd_Mo_mergeNow_105, fd_Mo_mergeNow_106, fd_Mo_mergeNow_107, fd_Mo_mergeNow_115, fd_Mo_mergeNow_117, m2]
      by_cases c : npg (aou (ab Rs) k) ≤ 24
      · have l : ¬ (24 : Int32) < nI (npg (aou (ab Rs) k)) := nI_nlt (a := 24) c (by decide)
        simp only [l, am_wp, am_stp, am_en, am_as, am_pad, am_nth, am_set, am_st1, am_st2, am_kl, am_kill, am_mem, am_fv, am_tk, am_wt, am_bk, Option.toList, List.cons_append, List.nil_append, Nat.reduceAdd, Nat.reduceEqDiff, Nat.reduceLeDiff, reduceIte, Nat.reduceLT, or_self, true_or, or_true, if_true, if_false, and_self, and_true, true_and, not_false_eq_true, not_true_eq_false]
        exact fin1 (Or.inr c)
      · have l : (24 : Int32) < nI (npg (aou (ab Rs) k)) := nI_lt (a := 24) (by omega) (by omega)
        simp only [l, am_wp, am_stp, am_en, am_as, am_pad, am_nth, am_set, am_st1, am_st2, am_kl, am_kill, am_mem, am_fv, am_tk, am_wt, am_bk, Option.toList, List.cons_append, List.nil_append, Nat.reduceAdd, Nat.reduceEqDiff, Nat.reduceLeDiff, reduceIte, Nat.reduceLT, or_self, true_or, or_true, if_true, if_false, and_self, and_true, true_and, not_false_eq_true, not_true_eq_false]
        exact fin2 (by omega) (by show 24 < _; omega)
    · subst e
      have m1 : (nI 3 = 3) = True := eq_true rfl
      refine am_go [120, 103] 3 ?_
      simp only [am_wp, am_stp, am_en, am_as, am_pad, am_nth, am_set, am_st1, am_st2, am_kl, am_kill, am_mem, am_fv, am_tk, am_wt, am_bk, Option.toList, List.cons_append, List.nil_append, Nat.reduceAdd, Nat.reduceEqDiff, Nat.reduceLeDiff, reduceIte, Nat.reduceLT, or_self, true_or, or_true, if_true, if_false, and_self, and_true, true_and, not_false_eq_true, not_true_eq_false, fd_Mo_mergeNow_98, fd_Mo_mergeNow_99, fd_Mo_mergeNow_100, m1]
      exact fin1 (Or.inl rfl)
  refine am_go [82, 86] 5 ?_
  simp only [am_wp, am_stp, am_en, am_as, am_pad, am_nth, am_set, am_st1, am_st2, am_kl, am_kill, am_mem, am_fv, am_tk, am_wt, am_bk, Option.toList, List.cons_append, List.nil_append, Nat.reduceAdd, Nat.reduceEqDiff, Nat.reduceLeDiff, reduceIte, Nat.reduceLT, or_self, true_or, or_true, if_true, if_false, and_self, and_true, true_and, not_false_eq_true, not_true_eq_false, fd_Mo_mergeNow_73, fd_Mo_mergeNow_74, fd_Mo_mergeNow_75, fd_Mo_mergeNow_76, fd_Mo_mergeNow_79, k72, c2]
  by_cases e : k = Rs.length
  · have e2 : (nI k = nI Rs.length) = True := eq_true (by rw [e])
    have ed : decide (k = Rs.length) = true := by simp [e]
    rw [ed] at rest
    simp only [e2, am_wp, am_stp, am_en, am_as, am_pad, am_nth, am_set, am_st1, am_st2, am_kl, am_kill, am_mem, am_fv, am_tk, am_wt, am_bk, Option.toList, List.cons_append, List.nil_append, Nat.reduceAdd, Nat.reduceEqDiff, Nat.reduceLeDiff, reduceIte, Nat.reduceLT, or_self, true_or, or_true, if_true, if_false, and_self, and_true, true_and, not_false_eq_true, not_true_eq_false] at rest ⊢
    refine am_go [87] 2 ?_
    simp only [am_wp, am_stp, am_en, am_as, am_pad, am_nth, am_set, am_st1, am_st2, am_kl, am_kill, am_mem, am_fv, am_tk, am_wt, am_bk, Option.toList, List.cons_append, List.nil_append, Nat.reduceAdd, Nat.reduceEqDiff, Nat.reduceLeDiff, reduceIte, Nat.reduceLT, or_self, true_or, or_true, if_true, if_false, and_self, and_true, true_and, not_false_eq_true, not_true_eq_false, fd_Mo_mergeNow_82, fd_Mo_mergeNow_83]
    exact rest
  · have e2 : (nI k = nI Rs.length) = False := eq_false (fun q => e ((nI_eq (by omega) (by omega)).mp q))
    have ed : decide (k = Rs.length) = false := by simp [e]
    rw [ed] at rest
    simp only [e2, am_wp, am_stp, am_en, am_as, am_pad, am_nth, am_set, am_st1, am_st2, am_kl, am_kill, am_mem, am_fv, am_tk, am_wt, am_bk, Option.toList, List.cons_append, List.nil_append, Nat.reduceAdd, Nat.reduceEqDiff, Nat.reduceLeDiff, reduceIte, Nat.reduceLT, or_self, true_or, or_true, if_true, if_false, and_self, and_true, true_and, not_false_eq_true, not_true_eq_false, Bool.false_eq_true] at rest ⊢
    refine am_go [87] 1 ?_
    simp only [am_wp, am_stp, am_en, am_as, am_pad, am_nth, am_set, am_st1, am_st2, am_kl, am_kill, am_mem, am_fv, am_tk, am_wt, am_bk, Option.toList, List.cons_append, List.nil_append, Nat.reduceAdd, Nat.reduceEqDiff, Nat.reduceLeDiff, reduceIte, Nat.reduceLT, or_self, true_or, or_true, if_true, if_false, and_self, and_true, true_and, not_false_eq_true, not_true_eq_false, fd_Mo_mergeNow_86]
    exact rest
