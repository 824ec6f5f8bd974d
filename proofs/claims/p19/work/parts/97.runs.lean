/-! THE RUNS OF NOW -/
/-- address, level, pages with their entries -/
abbrev rn : Type := Nat × Nat × List (Nat × List ent)
def rn_S (P : Nat) (h : am_H) (r : rn) : Prop := rd_S P h r.1 r.2.2 ∧ am_I h r.1 1 = nI r.2.1 ∧ r.2.1 ≤ 3 ∧ am_I h r.1 8 = 1 ∧ (∀ q ∈ r.2.2, am_I h 20 q.1 = 1) ∧ r.2.2.length = npg (ch_E r.2.2) ∧ so (ch_E r.2.2) ∧ ∀ e ∈ ch_E r.2.2, eo e
def rn_p (r : rn) : List Nat := r.2.2.map (·.1)
def pgs (Rs : List rn) : List Nat := Rs.flatMap rn_p
def nw_R (P : Nat) (h : am_H) (Rs : List rn) : Prop := (∀ i r, Rs[i]? = some r → am_R h 9 i = r.1 ∧ (109 ≤ r.1 ∧ r.1 < am_nx h) ∧ rn_S P h r) ∧ am_I h 8 1 = nI Rs.length ∧ Rs.length ≤ 9 ∧ (Rs.map (·.1)).Nodup ∧ (pgs Rs).Nodup
/-- k pages are in use -/
def sp_F (P : Nat) (h : am_H) (k : Nat) : Prop := am_I h 21 4 = nI (fz (am_I h 22) P) ∧ fz (am_I h 22) P + k = P - 2
theorem rn_S.held {P : Nat} {h : am_H} {r : rn} (c : rn_S P h r) : ∀ q ∈ rn_p r, 2 ≤ q ∧ q < P ∧ am_I h 22 q = 1 := fun q hq => by
  obtain ⟨x, x1, x2⟩ := List.mem_map.mp hq
  subst x2
  exact c.1.2.2.2.1.held x x1
theorem rn_S.fr {P : Nat} {h h' : am_H} {r : rn} {l : List Nat} (c : rn_S P h r) (e1 : am_kd h' r.1 = am_kd h r.1) (e2 : am_I h' r.1 = am_I h r.1) (f : fr_P h h' l) (hl : ∀ q ∈ rn_p r, q ∉ l) : rn_S P h' r := by
  obtain ⟨⟨c1, c2, c3, c4, q, rest, c5, c6, c7⟩, d1, d2, d3, d4, d5, d6, d7⟩ := c
  have n : ∀ x ∈ r.2.2, x.1 ∉ l := fun x hx => hl x.1 (List.mem_map_of_mem hx)
  refine ⟨⟨by rw [e1]; exact c1, by rw [e2]; exact c2, c3, c4.mono (fun x hx j hj => (f x.1 (n x hx)).2.2.2.2 j hj) (fun x hx => (f x.1 (n x hx)).2.2.1) (fun x hx => (f x.1 (n x hx)).2.1), q, rest, c5, by rw [e2]; exact c6, fun x hx => ?_⟩, by rw [e2]; exact d1, d2, by rw [e2]; exact d3, fun x hx => by rw [(f x.1 (n x hx)).1]; exact d4 x hx, d5, d6, d7⟩
  rw [(f x.1 (n x (by rw [c5]; simp [hx]))).2.2.2.1]
  exact c7 x hx
theorem nw_R.fx {P : Nat} {S : List Nat} {Rs : List rn} {h h' : am_H} (c : nw_R P h Rs) (f : am_fx S h h') (hS : ∀ q ∈ S, q < 109 ∧ q ≠ 8 ∧ q ≠ 9 ∧ q ≠ 19 ∧ q ≠ 20 ∧ q ≠ 22 ∧ q ≠ 23 ∧ q ≠ 24) : nw_R P h' Rs := by
  obtain ⟨c1, c2, c3, c4, c5⟩ := c
  have n : ∀ x, (109 ≤ x ∨ x = 8 ∨ x = 9 ∨ x = 19 ∨ x = 20 ∨ x = 22 ∨ x = 23 ∨ x = 24) → x ∉ S := fun x hx hm => by have := hS x hm; omega
  refine ⟨fun i r hr => ?_, by rw [f.2.2.2.2.2.1 8 (n 8 (by decide))]; exact c2, c3, c4, c5⟩
  obtain ⟨x1, x2, x3⟩ := c1 i r hr
  refine ⟨by rw [f.2.2.2.2.2.2.2 9 (n 9 (by decide))]; exact x1, by rw [f.1]; exact x2, x3.fr (l := []) (by rw [f.2.2.2.1]) (f.2.2.2.2.2.1 r.1 (n r.1 (by omega))) (fr_P.of (f.2.2.2.2.2.1 20 (n 20 (by decide))) (f.2.2.2.2.2.1 22 (n 22 (by decide))) (f.2.2.2.2.2.1 23 (n 23 (by decide))) (f.2.2.2.2.2.2.1 24 (n 24 (by decide))) (f.2.2.2.2.2.1 19 (n 19 (by decide)))) (by simp)⟩
theorem nw_R.fi {P : Nat} {S : List Nat} {Rs : List rn} {h h' : am_H} (c : nw_R P h Rs) (f : am_fi S h h') (hS : ∀ q ∈ S, q < 109 ∧ q ≠ 8 ∧ q ≠ 9 ∧ q ≠ 19 ∧ q ≠ 20 ∧ q ≠ 22 ∧ q ≠ 23 ∧ q ≠ 24) : nw_R P h' Rs := c.fx f.fx hS
theorem sp_F.fx {P k : Nat} {S : List Nat} {h h' : am_H} (c : sp_F P h k) (f : am_fx S h h') (hS : 21 ∉ S ∧ 22 ∉ S) : sp_F P h' k := by
  unfold sp_F at *
  rw [f.2.2.2.2.2.1 21 hS.1, f.2.2.2.2.2.1 22 hS.2]
  exact c
theorem sp_F.fi {P k : Nat} {S : List Nat} {h h' : am_H} (c : sp_F P h k) (f : am_fi S h h') (hS : 21 ∉ S ∧ 22 ∉ S) : sp_F P h' k := c.fx f.fx hS
/-- how many of the first levels are L at most -/
def up (L : Nat) : List Nat → Nat
  | [] => 0
  | l :: ls => if l ≤ L then up L ls + 1 else 0
theorem up_le (L : Nat) : ∀ ls, up L ls ≤ ls.length
  | [] => Nat.le_refl _
  | l :: ls => by
    have := up_le L ls
    unfold up
    split
    · simp only [List.length_cons]; omega
    · omega
def lvs (Rs : List rn) : List Nat := Rs.map (fun r => r.2.1)
theorem l2_countUpTo_loop {d P L : Nat} {Rs : List rn} {h : am_H} (k8 : am_kd h 8 = 6) (r8 : am_R h 8 0 = 9) (k9 : am_kd h 9 = 200) (n9 : am_ln h 9 = 9) (hL : L ≤ 3) (N : nw_R P h Rs) : ∀ (rest pre : List rn), pre ++ rest = Rs →
    am_Ex nm_pr d mt_RunList_countUpTo (2, [.ref 8, .int (nI L), .int (nI pre.length)], [], h) (fun o h' => o = .inl (some (.int (nI (pre.length + up L (lvs rest))))) ∧ h' = h)
  | [], pre, hp => by
    obtain ⟨c1, c2, c3, c4, c5⟩ := id N
    have e : pre = Rs := by simpa using hp
    subst e
    have l1 : ¬ nI pre.length < nI pre.length := nI_nlt (Nat.le_refl _) (by omega)
    refine am_go [10] 7 ?_
    simp only [am_wp, am_stp, am_en, am_as, am_pad, am_nth, am_set, am_st1, am_st2, am_kl, am_kill, am_mem, am_fv, am_tk, am_wt, am_bk, Option.toList, List.cons_append, List.nil_append, Nat.reduceAdd, Nat.reduceEqDiff, Nat.reduceLeDiff, reduceIte, Nat.reduceLT, or_self, true_or, or_true, if_true, if_false, and_self, and_true, true_and, not_false_eq_true, not_true_eq_false, fd_RunList_countUpTo_2, fd_RunList_countUpTo_3, fd_RunList_countUpTo_4, fd_RunList_countUpTo_7, fd_RunList_countUpTo_35, fd_RunList_countUpTo_36, k8, c2, l1]
    simp [lvs, up]
  | r :: rest, pre, hp => by
    obtain ⟨c1, c2, c3, c4, c5⟩ := id N
    have hlen : pre.length < Rs.length := by rw [← hp]; simp
    have hget : Rs[pre.length]? = some r := by rw [← hp]; simp
    obtain ⟨x1, x2, x3⟩ := c1 _ _ hget
    have l1 : nI pre.length < nI Rs.length := nI_lt hlen (by omega)
    have l9 : nI pre.length < 9 := nI_lt (b := 9) (by omega) (by decide)
    have n1 : (200 ≤ 200 ∧ 200 < 204) := by decide
    have i1 := am_inb (c := pre.length) (N := 9) (by omega) (by omega)
    have q1 : (nI pre.length).toNatClampNeg = pre.length := nI_clamp (by omega)
    have kr : am_kd h r.1 = 5 := x3.1.1
    have ir : am_I h r.1 1 = nI r.2.1 := x3.2.1
    have hr3 := x3.2.2.1
    refine am_go [10, 35] 4 ?_
    simp only [am_wp, am_stp, am_en, am_as, am_pad, am_nth, am_set, am_st1, am_st2, am_kl, am_kill, am_mem, am_fv, am_tk, am_wt, am_bk, Option.toList, List.cons_append, List.nil_append, Nat.reduceAdd, Nat.reduceEqDiff, Nat.reduceLeDiff, reduceIte, Nat.reduceLT, or_self, true_or, or_true, if_true, if_false, and_self, and_true, true_and, not_false_eq_true, not_true_eq_false, fd_RunList_countUpTo_2, fd_RunList_countUpTo_3, fd_RunList_countUpTo_4, fd_RunList_countUpTo_7, k8, c2, l1]
    refine am_go [16, 35] 3 ?_
    simp only [am_wp, am_stp, am_en, am_as, am_pad, am_nth, am_set, am_st1, am_st2, am_kl, am_kill, am_mem, am_fv, am_tk, am_wt, am_bk, Option.toList, List.cons_append, List.nil_append, Nat.reduceAdd, Nat.reduceEqDiff, Nat.reduceLeDiff, reduceIte, Nat.reduceLT, or_self, true_or, or_true, if_true, if_false, and_self, and_true, true_and, not_false_eq_true, not_true_eq_false, fd_RunList_countUpTo_10, fd_RunList_countUpTo_11, fd_RunList_countUpTo_13, l9]
    refine am_go [29, 35] 7 ?_
    simp only [am_wp, am_stp, am_en, am_as, am_pad, am_nth, am_set, am_st1, am_st2, am_kl, am_kill, am_mem, am_fv, am_tk, am_wt, am_bk, Option.toList, List.cons_append, List.nil_append, Nat.reduceAdd, Nat.reduceEqDiff, Nat.reduceLeDiff, reduceIte, Nat.reduceLT, or_self, true_or, or_true, if_true, if_false, and_self, and_true, true_and, not_false_eq_true, not_true_eq_false, fd_RunList_countUpTo_16, fd_RunList_countUpTo_17, fd_RunList_countUpTo_20, fd_RunList_countUpTo_21, fd_RunList_countUpTo_22, fd_RunList_countUpTo_25, fd_RunList_countUpTo_26, k8, r8, k9, n9, n1, i1, q1, x1, kr, ir]
    by_cases e : r.2.1 ≤ L
    · have l2 : ¬ nI L < nI r.2.1 := nI_nlt e (by omega)
      simp only [l2, am_wp, am_stp, am_en, am_as, am_pad, am_nth, am_set, am_st1, am_st2, am_kl, am_kill, am_mem, am_fv, am_tk, am_wt, am_bk, Option.toList, List.cons_append, List.nil_append, Nat.reduceAdd, Nat.reduceEqDiff, Nat.reduceLeDiff, reduceIte, Nat.reduceLT, or_self, true_or, or_true, if_true, if_false, and_self, and_true, true_and, not_false_eq_true, not_true_eq_false]
      refine am_go [2] 2 ?_
      simp only [am_wp, am_stp, am_en, am_as, am_pad, am_nth, am_set, am_st1, am_st2, am_kl, am_kill, am_mem, am_fv, am_tk, am_wt, am_bk, Option.toList, List.cons_append, List.nil_append, Nat.reduceAdd, Nat.reduceEqDiff, Nat.reduceLeDiff, reduceIte, Nat.reduceLT, or_self, true_or, or_true, if_true, if_false, and_self, and_true, true_and, not_false_eq_true, not_true_eq_false, fd_RunList_countUpTo_29, fd_RunList_countUpTo_32, nI_1]
      have := l2_countUpTo_loop (d := d) k8 r8 k9 n9 hL N rest (pre ++ [r]) (by rw [← hp]; simp)
      have e1 : (pre ++ [r]).length = pre.length + 1 := by simp
      rw [e1] at this
      have e2 : up L (lvs (r :: rest)) = up L (lvs rest) + 1 := by
        show (if r.2.1 ≤ L then up L (lvs rest) + 1 else 0) = _
        rw [if_pos e]
      rw [e2, show pre.length + (up L (lvs rest) + 1) = pre.length + 1 + up L (lvs rest) by omega]
      exact this
    · have l2 : nI L < nI r.2.1 := nI_lt (by omega) (by omega)
      simp only [l2, am_wp, am_stp, am_en, am_as, am_pad, am_nth, am_set, am_st1, am_st2, am_kl, am_kill, am_mem, am_fv, am_tk, am_wt, am_bk, Option.toList, List.cons_append, List.nil_append, Nat.reduceAdd, Nat.reduceEqDiff, Nat.reduceLeDiff, reduceIte, Nat.reduceLT, or_self, true_or, or_true, if_true, if_false, and_self, and_true, true_and, not_false_eq_true, not_true_eq_false]
      refine am_go [] 2 ?_
      simp only [am_wp, am_stp, am_en, am_as, am_pad, am_nth, am_set, am_st1, am_st2, am_kl, am_kill, am_mem, am_fv, am_tk, am_wt, am_bk, Option.toList, List.cons_append, List.nil_append, Nat.reduceAdd, Nat.reduceEqDiff, Nat.reduceLeDiff, reduceIte, Nat.reduceLT, or_self, true_or, or_true, if_true, if_false, and_self, and_true, true_and, not_false_eq_true, not_true_eq_false, fd_RunList_countUpTo_35, fd_RunList_countUpTo_36]
      have e2 : up L (lvs (r :: rest)) = 0 := by
        show (if r.2.1 ≤ L then up L (lvs rest) + 1 else 0) = _
        rw [if_neg e]
      rw [e2]
      exact rfl
theorem l2_countUpTo {d P L : Nat} {Rs : List rn} {h : am_H} (hK : sk_K P h) (hL : L ≤ 3) (N : nw_R P h Rs) : am_Rt nm_pr (d + 1) mi_RunList_countUpTo [.ref 8, .int (nI L)] h (fun o h' => o = .inl (some (.int (nI (up L (lvs Rs))))) ∧ h' = h) := by
  obtain ⟨-, -, -, -, -, ⟨k8, r8, k9, n9⟩, -, -⟩ := hK
  refine am_in' mt_RunList_countUpTo 3 rfl rfl rfl ?_
  refine am_go [2] 2 ?_
  simp only [am_wp, am_stp, am_en, am_as, am_pad, am_nth, am_set, am_st1, am_st2, am_kl, am_kill, am_mem, am_fv, am_tk, am_wt, am_bk, Option.toList, List.cons_append, List.nil_append, Nat.reduceAdd, Nat.reduceEqDiff, Nat.reduceLeDiff, reduceIte, Nat.reduceLT, or_self, true_or, or_true, if_true, if_false, and_self, and_true, true_and, not_false_eq_true, not_true_eq_false, fd_RunList_countUpTo_0, fd_RunList_countUpTo_1]
  have := l2_countUpTo_loop (d := d) k8 r8 k9 n9 hL N Rs [] (by simp)
  rw [show ([] : List rn).length + up L (lvs Rs) = up L (lvs Rs) by simp] at this
  exact this
/-! ALL PAGES ARE READ -/
theorem l2_readsRight {d P p : Nat} {h : am_H} (hP : cl_Pg P h) (hp : p < P) (h1 : am_I h 20 p = 1) : am_Rt nm_pr (d + 3) mi_Pages_readsRight [.ref 18, .int (nI p)] h (fun o h' => o = .inl (some (.int 1)) ∧ h' = am_sI h 18 3 (am_I h 18 3 + 1)) := by
  have k18 := hP.1
  refine am_in' (d := d + 2) mt_Pages_readsRight 2 rfl rfl rfl ?_
  refine am_go [] 9 ?_
  simp only [am_wp, am_stp, am_en, am_as, am_pad, am_nth, am_set, am_st1, am_st2, am_kl, am_kill, am_mem, am_fv, am_tk, am_wt, am_bk, Option.toList, List.cons_append, List.nil_append, Nat.reduceAdd, Nat.reduceEqDiff, Nat.reduceLeDiff, reduceIte, Nat.reduceLT, or_self, true_or, or_true, if_true, if_false, and_self, and_true, true_and, not_false_eq_true, not_true_eq_false, fd_Pages_readsRight_0, fd_Pages_readsRight_1, fd_Pages_readsRight_2, fd_Pages_readsRight_5, fd_Pages_readsRight_6, fd_Pages_readsRight_7, fd_Pages_readsRight_10, fd_Pages_readsRight_11, fd_Pages_readsRight_12, hx_nx_sI, hx_ce_sI, hx_sl_sI, hx_kd_sI, hx_ln_sI, hx_I_sI, hx_L_sI, hx_R_sI, hx_nx_sL, hx_ce_sL, hx_sl_sL, hx_kd_sL, hx_ln_sL, hx_I_sL, hx_L_sL, hx_R_sL, hx_nx_sR, hx_ce_sR, hx_sl_sR, hx_kd_sR, hx_ln_sR, hx_I_sR, hx_L_sR, hx_R_sR, hx_nx_al, hx_ce_al, hx_sl_al, hx_kd_al, hx_ln_al, hx_I_al, hx_L_al, hx_R_al, hx_nx_row, hx_ce_row, hx_sl_row, hx_kd_row, hx_ln_row, hx_I_row, hx_L_row, hx_R_row, hx_nx_mk, hx_kd_mk, hx_ln_mk, hx_I_mk, hx_L_mk, hx_R_mk, k18]
  have P1 : cl_Pg P (am_sI h 18 3 (am_I h 18 3 + 1)) := hP.sI (Or.inr (by decide))
  have v : am_I (am_sI h 18 3 (am_I h 18 3 + 1)) 20 p = 1 := by simp only [hx_nx_sI, hx_ce_sI, hx_sl_sI, hx_kd_sI, hx_ln_sI, hx_I_sI, hx_L_sI, hx_R_sI, hx_nx_sL, hx_ce_sL, hx_sl_sL, hx_kd_sL, hx_ln_sL, hx_I_sL, hx_L_sL, hx_R_sL, hx_nx_sR, hx_ce_sR, hx_sl_sR, hx_kd_sR, hx_ln_sR, hx_I_sR, hx_L_sR, hx_R_sR, hx_nx_al, hx_ce_al, hx_sl_al, hx_kd_al, hx_ln_al, hx_I_al, hx_L_al, hx_R_al, hx_nx_row, hx_ce_row, hx_sl_row, hx_kd_row, hx_ln_row, hx_I_row, hx_L_row, hx_R_row, hx_nx_mk, hx_kd_mk, hx_ln_mk, hx_I_mk, hx_L_mk, hx_R_mk, am_wp, am_stp, am_en, am_as, am_pad, am_nth, am_set, am_st1, am_st2, am_kl, am_kill, am_mem, am_fv, am_tk, am_wt, am_bk, Option.toList, List.cons_append, List.nil_append, Nat.reduceAdd, Nat.reduceEqDiff, Nat.reduceLeDiff, reduceIte, Nat.reduceLT, or_self, true_or, or_true, if_true, if_false, and_self, and_true, true_and, not_false_eq_true, not_true_eq_false]; exact h1
  refine am_call (l2_isRight (d := d) P1 hp (Or.inr v)) (fun o h2 q => ?_)
  obtain ⟨rfl, rfl⟩ := q
  rw [v]
  have o1 : (1 : Int32) = 0 ∨ (1 : Int32) = 1 := by decide
  simp only [am_wp, am_stp, am_en, am_as, am_pad, am_nth, am_set, am_st1, am_st2, am_kl, am_kill, am_mem, am_fv, am_tk, am_wt, am_bk, Option.toList, List.cons_append, List.nil_append, Nat.reduceAdd, Nat.reduceEqDiff, Nat.reduceLeDiff, reduceIte, Nat.reduceLT, or_self, true_or, or_true, if_true, if_false, and_self, and_true, true_and, not_false_eq_true, not_true_eq_false]
  refine am_go [] 1 ?_
  simp only [am_wp, am_stp, am_en, am_as, am_pad, am_nth, am_set, am_st1, am_st2, am_kl, am_kill, am_mem, am_fv, am_tk, am_wt, am_bk, Option.toList, List.cons_append, List.nil_append, Nat.reduceAdd, Nat.reduceEqDiff, Nat.reduceLeDiff, reduceIte, Nat.reduceLT, or_self, true_or, or_true, if_true, if_false, and_self, and_true, true_and, not_false_eq_true, not_true_eq_false, fd_Pages_readsRight_15, o1]
/-- pages were counted as read, no more -/
def rd_Q (h h' : am_H) : Prop := am_fi [18] h h' ∧ ∀ j, j ≠ 3 → am_I h' 18 j = am_I h 18 j
theorem rd_Q.refl {h : am_H} : rd_Q h h := ⟨am_fi.refl, fun _ _ => rfl⟩
theorem rd_Q.sk {P : Nat} {h h' : am_H} (q : rd_Q h h') (c : sk_K P h) : sk_K P h' := c.mv q.1 (q.2 0 (by decide)) (q.2 5 (by decide)) (congrFun (q.1.2.2.2.2.2.2.1 21 (by simp)) 0) (congrFun (q.1.2.2.2.2.2.2.1 2 (by simp)) 15)
theorem l2_read_pages {d P a i e n : Nat} {h : am_H} {x0 : Value} {Q : am_O → am_H → Prop} (hK : sk_K P h) (ka : am_kd h a = 5) (ha : a ≠ 18) (i4 : am_I h a 4 = nI n) (hn : n < 2000) (hx : ∀ g w, rd_Q h g → am_Ex nm_pr (d + 3) mt_SR_readRuns (76, [.ref 2, .ref 8, x0, .int (nI e), .int (nI i), .ref a, .int w, .int (nI n)], [], g) Q) : ∀ (l : List Nat) (j : Nat) (w : Int32) (g : am_H), l.length + j = n → pc_L P h l → (∀ p ∈ l, am_I h 20 p = 1) → (match l with
    | [] => True
    | p :: _ => w = nI p) → rd_Q h g →
    am_Ex nm_pr (d + 3) mt_SR_readRuns (35, [.ref 2, .ref 8, x0, .int (nI e), .int (nI i), .ref a, .int w, .int (nI j)], [], g) Q
  | [], j, w, g, hl, hc, h1, hw, q => by
    have kg : am_kd g a = 5 := by rw [q.1.2.2.2.1]; exact ka
    have ig : am_I g a 4 = nI n := by rw [q.1.2.2.2.2.2.2.1 a (by simp; exact ha)]; exact i4
    have e : j = n := by simpa using hl
    subst e
    have l1 : ¬ nI j < nI j := nI_nlt (Nat.le_refl _) (by omega)
    refine am_go [45, 76] 4 ?_
    simp only [am_wp, am_stp, am_en, am_as, am_pad, am_nth, am_set, am_st1, am_st2, am_kl, am_kill, am_mem, am_fv, am_tk, am_wt, am_bk, Option.toList, List.cons_append, List.nil_append, Nat.reduceAdd, Nat.reduceEqDiff, Nat.reduceLeDiff, reduceIte, Nat.reduceLT, or_self, true_or, or_true, if_true, if_false, and_self, and_true, true_and, not_false_eq_true, not_true_eq_false, fd_SR_readRuns_35, fd_SR_readRuns_37, fd_SR_readRuns_39, fd_SR_readRuns_42, kg, ig, l1]
    exact hx g w q
  | p :: r, j, w, g, hl, hc, h1, hw, q => by
    have kg : am_kd g a = 5 := by rw [q.1.2.2.2.1]; exact ka
    have ig : am_I g a 4 = nI n := by rw [q.1.2.2.2.2.2.2.1 a (by simp; exact ha)]; exact i4
    obtain ⟨⟨hp2, hpP⟩, hc2, hc3⟩ := id hc
    have ew : w = nI p := hw
    subst ew
    simp only [List.length_cons] at hl
    have l1 : nI j < nI n := nI_lt (by omega) (by omega)
    have one0 : ¬ (1 : Int32) = 0 := by decide
    obtain ⟨⟨k2, r0, r1, rr2, r3, r5, r8⟩, S0, P0, Sp0, B0, N0, i185, i215⟩ := q.sk hK
    have v1 : am_I g 20 p = 1 := by rw [q.1.2.2.2.2.2.2.1 20 (by simp)]; exact h1 p (by simp)
    refine am_go [45, 76] 4 ?_
    simp only [am_wp, am_stp, am_en, am_as, am_pad, am_nth, am_set, am_st1, am_st2, am_kl, am_kill, am_mem, am_fv, am_tk, am_wt, am_bk, Option.toList, List.cons_append, List.nil_append, Nat.reduceAdd, Nat.reduceEqDiff, Nat.reduceLeDiff, reduceIte, Nat.reduceLT, or_self, true_or, or_true, if_true, if_false, and_self, and_true, true_and, not_false_eq_true, not_true_eq_false, fd_SR_readRuns_35, fd_SR_readRuns_37, fd_SR_readRuns_39, fd_SR_readRuns_42, kg, ig, l1]
    refine am_go [] 4 ?_
    simp only [am_wp, am_stp, am_en, am_as, am_pad, am_nth, am_set, am_st1, am_st2, am_kl, am_kill, am_mem, am_fv, am_tk, am_wt, am_bk, Option.toList, List.cons_append, List.nil_append, Nat.reduceAdd, Nat.reduceEqDiff, Nat.reduceLeDiff, reduceIte, Nat.reduceLT, or_self, true_or, or_true, if_true, if_false, and_self, and_true, true_and, not_false_eq_true, not_true_eq_false, fd_SR_readRuns_45, fd_SR_readRuns_46, fd_SR_readRuns_49, fd_SR_readRuns_51, k2, r0, P0.1]
    refine am_call (l2_readsRight (d := d) P0 hpP v1) (fun o g1 z => ?_)
    obtain ⟨rfl, e1⟩ := z
    have q1 : rd_Q h g1 := by
      rw [e1]
      refine ⟨q.1.sI (by simp), fun x hx => ?_⟩
      simp only [hx_nx_sI, hx_ce_sI, hx_sl_sI, hx_kd_sI, hx_ln_sI, hx_I_sI, hx_L_sI, hx_R_sI, hx_nx_sL, hx_ce_sL, hx_sl_sL, hx_kd_sL, hx_ln_sL, hx_I_sL, hx_L_sL, hx_R_sL, hx_nx_sR, hx_ce_sR, hx_sl_sR, hx_kd_sR, hx_ln_sR, hx_I_sR, hx_L_sR, hx_R_sR, hx_nx_al, hx_ce_al, hx_sl_al, hx_kd_al, hx_ln_al, hx_I_al, hx_L_al, hx_R_al, hx_nx_row, hx_ce_row, hx_sl_row, hx_kd_row, hx_ln_row, hx_I_row, hx_L_row, hx_R_row, hx_nx_mk, hx_kd_mk, hx_ln_mk, hx_I_mk, hx_L_mk, hx_R_mk, am_wp, am_stp, am_en, am_as, am_pad, am_nth, am_set, am_st1, am_st2, am_kl, am_kill, am_mem, am_fv, am_tk, am_wt, am_bk, Option.toList, List.cons_append, List.nil_append, Nat.reduceAdd, Nat.reduceEqDiff, Nat.reduceLeDiff, reduceIte, Nat.reduceLT, or_self, true_or, or_true, if_true, if_false, and_self, and_true, true_and, not_false_eq_true, not_true_eq_false, hx]
      exact q.2 x hx
    clear e1
    obtain ⟨⟨k2', r0', r1', rr2', r3', r5', r8'⟩, S1, P1, Sp1, B1, N1, i185', i215'⟩ := q1.sk hK
    simp only [am_wp, am_stp, am_en, am_as, am_pad, am_nth, am_set, am_st1, am_st2, am_kl, am_kill, am_mem, am_fv, am_tk, am_wt, am_bk, Option.toList, List.cons_append, List.nil_append, Nat.reduceAdd, Nat.reduceEqDiff, Nat.reduceLeDiff, reduceIte, Nat.reduceLT, or_self, true_or, or_true, if_true, if_false, and_self, and_true, true_and, not_false_eq_true, not_true_eq_false]
    refine am_go [57, 59] 1 ?_
    simp only [am_wp, am_stp, am_en, am_as, am_pad, am_nth, am_set, am_st1, am_st2, am_kl, am_kill, am_mem, am_fv, am_tk, am_wt, am_bk, Option.toList, List.cons_append, List.nil_append, Nat.reduceAdd, Nat.reduceEqDiff, Nat.reduceLeDiff, reduceIte, Nat.reduceLT, or_self, true_or, or_true, if_true, if_false, and_self, and_true, true_and, not_false_eq_true, not_true_eq_false, fd_SR_readRuns_54, one0]
    refine am_go [] 4 ?_
    simp only [am_wp, am_stp, am_en, am_as, am_pad, am_nth, am_set, am_st1, am_st2, am_kl, am_kill, am_mem, am_fv, am_tk, am_wt, am_bk, Option.toList, List.cons_append, List.nil_append, Nat.reduceAdd, Nat.reduceEqDiff, Nat.reduceLeDiff, reduceIte, Nat.reduceLT, or_self, true_or, or_true, if_true, if_false, and_self, and_true, true_and, not_false_eq_true, not_true_eq_false, fd_SR_readRuns_59, fd_SR_readRuns_60, fd_SR_readRuns_63, fd_SR_readRuns_65, k2', r1', Sp1.1]
    refine am_call (l2_Sp_after (d := d + 1) Sp1 hp2 hpP) (fun o g2 z => ?_)
    obtain ⟨rfl, rfl⟩ := z
    simp only [am_wp, am_stp, am_en, am_as, am_pad, am_nth, am_set, am_st1, am_st2, am_kl, am_kill, am_mem, am_fv, am_tk, am_wt, am_bk, Option.toList, List.cons_append, List.nil_append, Nat.reduceAdd, Nat.reduceEqDiff, Nat.reduceLeDiff, reduceIte, Nat.reduceLT, or_self, true_or, or_true, if_true, if_false, and_self, and_true, true_and, not_false_eq_true, not_true_eq_false]
    refine am_go [35] 3 ?_
    simp only [am_wp, am_stp, am_en, am_as, am_pad, am_nth, am_set, am_st1, am_st2, am_kl, am_kill, am_mem, am_fv, am_tk, am_wt, am_bk, Option.toList, List.cons_append, List.nil_append, Nat.reduceAdd, Nat.reduceEqDiff, Nat.reduceLeDiff, reduceIte, Nat.reduceLT, or_self, true_or, or_true, if_true, if_false, and_self, and_true, true_and, not_false_eq_true, not_true_eq_false, fd_SR_readRuns_68, fd_SR_readRuns_70, fd_SR_readRuns_73, nI_1]
    refine l2_read_pages hK ka ha i4 hn hx r (j + 1) _ g2 (by omega) hc3 (fun x hx => h1 x (by simp [hx])) ?_ q1
    cases r with
    | nil => trivial
    | cons y r =>
      show am_I g2 23 p = nI y
      rw [q1.1.2.2.2.2.2.2.1 23 (by simp)]
      exact hc2
theorem l2_readRuns_loop {d P e : Nat} {x0 : Value} {Rs : List rn} {h : am_H} (hK : sk_K P h) (N : nw_R P h Rs) (he : e ≤ Rs.length) : ∀ (m i : Nat) (w1 w2 w3 : Value) (g : am_H), m + i = e → rd_Q h g →
    am_Ex nm_pr (d + 3) mt_SR_readRuns (3, [.ref 2, .ref 8, x0, .int (nI e), .int (nI i), w1, w2, w3], [], g) (fun o h' => o = .inl (some (.int 1)) ∧ rd_Q h h')
  | 0, i, w1, w2, w3, g, hm, q => by
    have ei : i = e := by omega
    subst ei
    have c3 := N.2.2.1
    have l1 : ¬ nI i < nI i := nI_nlt (Nat.le_refl _) (by omega)
    have o1 : (1 : Int32) = 0 ∨ (1 : Int32) = 1 := by decide
    refine am_go [9] 6 ?_
    simp only [am_wp, am_stp, am_en, am_as, am_pad, am_nth, am_set, am_st1, am_st2, am_kl, am_kill, am_mem, am_fv, am_tk, am_wt, am_bk, Option.toList, List.cons_append, List.nil_append, Nat.reduceAdd, Nat.reduceEqDiff, Nat.reduceLeDiff, reduceIte, Nat.reduceLT, or_self, true_or, or_true, if_true, if_false, and_self, and_true, true_and, not_false_eq_true, not_true_eq_false, fd_SR_readRuns_3, fd_SR_readRuns_5, fd_SR_readRuns_6, fd_SR_readRuns_82, fd_SR_readRuns_83, l1, o1]
    exact q
  | m + 1, i, w1, w2, w3, g, hm, q => by
    obtain ⟨c1, c2, c3, c4, c5⟩ := id N
    obtain ⟨r, hr⟩ : ∃ r, Rs[i]? = some r := ⟨Rs[i]'(by omega), List.getElem?_eq_getElem (by omega)⟩
    obtain ⟨x1, x2, x3⟩ := c1 i r hr
    obtain ⟨⟨y1, y2, y3, y4, p0, rest, y5, y6, y7⟩, d1, d2, d3, d4, d5, d6, d7⟩ := id x3
    obtain ⟨⟨k2, r0, r1, rr2, r3, r5, r8⟩, S0, P0, Sp0, B0, ⟨k8, r8', k9, n9⟩, i185, i215⟩ := q.sk hK
    have l1 : nI i < nI e := nI_lt (by omega) (by omega)
    have l9 : nI i < 9 := nI_lt (b := 9) (by omega) (by decide)
    have n1 : (200 ≤ 200 ∧ 200 < 204) := by decide
    have i1 := am_inb (c := i) (N := 9) (by omega) (by omega)
    have q1 : (nI i).toNatClampNeg = i := nI_clamp (by omega)
    have g9 : am_R g 9 i = r.1 := by rw [q.1.2.2.2.2.2.1]; exact x1
    have gk : am_kd g r.1 = 5 := by rw [q.1.2.2.2.1]; exact y1
    have gi : am_I g r.1 = am_I h r.1 := q.1.2.2.2.2.2.2.1 r.1 (by simp; omega)
    refine am_go [9, 82] 3 ?_
    simp only [am_wp, am_stp, am_en, am_as, am_pad, am_nth, am_set, am_st1, am_st2, am_kl, am_kill, am_mem, am_fv, am_tk, am_wt, am_bk, Option.toList, List.cons_append, List.nil_append, Nat.reduceAdd, Nat.reduceEqDiff, Nat.reduceLeDiff, reduceIte, Nat.reduceLT, or_self, true_or, or_true, if_true, if_false, and_self, and_true, true_and, not_false_eq_true, not_true_eq_false, fd_SR_readRuns_3, fd_SR_readRuns_5, fd_SR_readRuns_6, l1]
    refine am_go [16, 82] 3 ?_
    simp only [am_wp, am_stp, am_en, am_as, am_pad, am_nth, am_set, am_st1, am_st2, am_kl, am_kill, am_mem, am_fv, am_tk, am_wt, am_bk, Option.toList, List.cons_append, List.nil_append, Nat.reduceAdd, Nat.reduceEqDiff, Nat.reduceLeDiff, reduceIte, Nat.reduceLT, or_self, true_or, or_true, if_true, if_false, and_self, and_true, true_and, not_false_eq_true, not_true_eq_false, fd_SR_readRuns_9, fd_SR_readRuns_11, fd_SR_readRuns_13, l9]
    refine am_go [] 5 ?_
    simp only [am_wp, am_stp, am_en, am_as, am_pad, am_nth, am_set, am_st1, am_st2, am_kl, am_kill, am_mem, am_fv, am_tk, am_wt, am_bk, Option.toList, List.cons_append, List.nil_append, Nat.reduceAdd, Nat.reduceEqDiff, Nat.reduceLeDiff, reduceIte, Nat.reduceLT, or_self, true_or, or_true, if_true, if_false, and_self, and_true, true_and, not_false_eq_true, not_true_eq_false, fd_SR_readRuns_16, fd_SR_readRuns_17, fd_SR_readRuns_20, fd_SR_readRuns_22, fd_SR_readRuns_23, k8, r8', k9, n9, n1, i1, q1, g9]
    refine am_go [35] 5 ?_
    simp only [am_wp, am_stp, am_en, am_as, am_pad, am_nth, am_set, am_st1, am_st2, am_kl, am_kill, am_mem, am_fv, am_tk, am_wt, am_bk, Option.toList, List.cons_append, List.nil_append, Nat.reduceAdd, Nat.reduceEqDiff, Nat.reduceLeDiff, reduceIte, Nat.reduceLT, or_self, true_or, or_true, if_true, if_false, and_self, and_true, true_and, not_false_eq_true, not_true_eq_false, fd_SR_readRuns_25, fd_SR_readRuns_27, fd_SR_readRuns_30, fd_SR_readRuns_32, fd_SR_readRuns_33, gk, gi]
    refine l2_read_pages (d := d) hK y1 (by omega) (n := r.2.2.length) y2 y3 (fun g' w q' => ?_) (rn_p r) 0 _ g (by simp [rn_p]) y4.pc (fun p hp => ?_) ?_ q
    · refine am_go [3] 2 ?_
      simp only [am_wp, am_stp, am_en, am_as, am_pad, am_nth, am_set, am_st1, am_st2, am_kl, am_kill, am_mem, am_fv, am_tk, am_wt, am_bk, Option.toList, List.cons_append, List.nil_append, Nat.reduceAdd, Nat.reduceEqDiff, Nat.reduceLeDiff, reduceIte, Nat.reduceLT, or_self, true_or, or_true, if_true, if_false, and_self, and_true, true_and, not_false_eq_true, not_true_eq_false, fd_SR_readRuns_76, fd_SR_readRuns_79, nI_1]
      exact l2_readRuns_loop hK N he m (i + 1) _ _ _ g' (by omega) q'
    · obtain ⟨x, z1, z2⟩ := List.mem_map.mp hp
      subst z2
      exact d4 x z1
    · unfold rn_p
      rw [y5]
      exact y6
theorem l2_readRuns {d P s e : Nat} {Rs : List rn} {h : am_H} (hK : sk_K P h) (N : nw_R P h Rs) (hs : s ≤ e) (he : e ≤ Rs.length) : am_Rt nm_pr (d + 4) mi_SR_readRuns [.ref 2, .ref 8, .int (nI s), .int (nI e)] h (fun o h' => o = .inl (some (.int 1)) ∧ rd_Q h h') := by
  refine am_in' (d := d + 3) mt_SR_readRuns 8 rfl rfl rfl ?_
  refine am_go [3] 2 ?_
  simp only [am_wp, am_stp, am_en, am_as, am_pad, am_nth, am_set, am_st1, am_st2, am_kl, am_kill, am_mem, am_fv, am_tk, am_wt, am_bk, Option.toList, List.cons_append, List.nil_append, Nat.reduceAdd, Nat.reduceEqDiff, Nat.reduceLeDiff, reduceIte, Nat.reduceLT, or_self, true_or, or_true, if_true, if_false, and_self, and_true, true_and, not_false_eq_true, not_true_eq_false, fd_SR_readRuns_0, fd_SR_readRuns_1]
  exact l2_readRuns_loop hK N he (e - s) s _ _ _ h (by omega) rd_Q.refl
/-! RUNS ARE BLENDED -/
/-- the inputs of runs, from stream k on -/
def bi : Nat → List rn → List (Nat × List ent)
  | _, [] => []
  | k, r :: Rs => (30 + k, ch_E r.2.2) :: bi (k + 1) Rs
theorem bi_snoc (r : rn) : ∀ (Rs : List rn) (k : Nat), bi k (Rs ++ [r]) = bi k Rs ++ [(30 + (k + Rs.length), ch_E r.2.2)]
  | [], k => by simp [bi]
  | x :: Rs, k => by
    simp only [List.cons_append, bi, bi_snoc r Rs (k + 1), List.length_cons]
    congr 3
    congr 1
    omega
theorem bi_len : ∀ (Rs : List rn) (k : Nat), (bi k Rs).length = Rs.length
  | [], k => rfl
  | x :: Rs, k => by simp [bi, bi_len Rs (k + 1)]
theorem bi_adr : ∀ (Rs : List rn) (k x : Nat), x ∈ (bi k Rs).map (·.1) → 30 + k ≤ x ∧ x < 30 + k + Rs.length
  | [], k, x, h => by simp [bi] at h
  | r :: Rs, k, x, h => by
    simp only [bi, List.map_cons, List.mem_cons] at h
    simp only [List.length_cons]
    rcases h with e | e
    · omega
    · have := bi_adr Rs (k + 1) x e
      omega
theorem bi_snd : ∀ (Rs : List rn) (k : Nat), (bi k Rs).map (·.2) = Rs.map (fun r => ch_E r.2.2)
  | [], k => rfl
  | r :: Rs, k => by simp [bi, bi_snd Rs (k + 1)]
theorem l2_addRun {d P a c : Nat} {ins ps : List (Nat × List ent)} {h : am_H} (hP : cl_Pg P h) (hSp : cl_Sp P h) (hB : bl_S P h ins) (h6 : am_I h 25 6 = nI c) (hc : c < 9) (hl : ins.length < 10) (hn : 30 + c ∉ ins.map (·.1)) (hR : rd_S P h a ps) (ha : 72 ≤ a) : am_Rt nm_pr (d + 4) mi_Blend_addRun [.ref 25, .ref a, .long (-9223372036854775808)] h (fun o h' => o = .inl none ∧ am_fx [25, 28, 30 + c] h h' ∧ bl_S P h' (ins ++ [(30 + c, ch_E ps)]) ∧ am_I h' 25 6 = nI (c + 1) ∧ am_I h' 25 7 = am_I h 25 7) := by
  obtain ⟨k25, r0, k26, r2, r3, r4, k28, n28, k27, n27, r27, kts, krs⟩ := id hB.1
  have l9 : nI c < 9 := nI_lt (b := 9) hc (by decide)
  have n1 : (200 ≤ 202 ∧ 202 < 204) := by decide
  have i1 := am_inb (c := c) (N := 9) hc (by omega)
  have q1 : (nI c).toNatClampNeg = c := nI_clamp (by omega)
  have rc := r27 c hc
  refine am_in' (d := d + 3) mt_Blend_addRun 5 rfl rfl rfl ?_
  refine am_go [9, 48] 4 ?_
  simp only [am_wp, am_stp, am_en, am_as, am_pad, am_nth, am_set, am_st1, am_st2, am_kl, am_kill, am_mem, am_fv, am_tk, am_wt, am_bk, Option.toList, List.cons_append, List.nil_append, Nat.reduceAdd, Nat.reduceEqDiff, Nat.reduceLeDiff, reduceIte, Nat.reduceLT, or_self, true_or, or_true, if_true, if_false, and_self, and_true, true_and, not_false_eq_true, not_true_eq_false, fd_Blend_addRun_0, fd_Blend_addRun_1, fd_Blend_addRun_4, fd_Blend_addRun_6, k25, h6, l9]
  refine am_go [] 6 ?_
  simp only [am_wp, am_stp, am_en, am_as, am_pad, am_nth, am_set, am_st1, am_st2, am_kl, am_kill, am_mem, am_fv, am_tk, am_wt, am_bk, Option.toList, List.cons_append, List.nil_append, Nat.reduceAdd, Nat.reduceEqDiff, Nat.reduceLeDiff, reduceIte, Nat.reduceLT, or_self, true_or, or_true, if_true, if_false, and_self, and_true, true_and, not_false_eq_true, not_true_eq_false, fd_Blend_addRun_9, fd_Blend_addRun_10, fd_Blend_addRun_13, fd_Blend_addRun_14, fd_Blend_addRun_17, fd_Blend_addRun_18, k25, h6, r3, k27, n27, n1, i1, q1, rc]
  have k7 : am_kd h (30 + c) = 7 := (krs c hc).1
  refine am_go [] 10 ?_
  simp only [am_wp, am_stp, am_en, am_as, am_pad, am_nth, am_set, am_st1, am_st2, am_kl, am_kill, am_mem, am_fv, am_tk, am_wt, am_bk, Option.toList, List.cons_append, List.nil_append, Nat.reduceAdd, Nat.reduceEqDiff, Nat.reduceLeDiff, reduceIte, Nat.reduceLT, or_self, true_or, or_true, if_true, if_false, and_self, and_true, true_and, not_false_eq_true, not_true_eq_false, fd_Blend_addRun_20, fd_Blend_addRun_21, fd_Blend_addRun_22, fd_Blend_addRun_25, fd_Blend_addRun_26, fd_Blend_addRun_27, fd_Blend_addRun_30, fd_Blend_addRun_32, fd_Blend_addRun_33, fd_Blend_addRun_34, hx_nx_sI, hx_ce_sI, hx_sl_sI, hx_kd_sI, hx_ln_sI, hx_I_sI, hx_L_sI, hx_R_sI, hx_nx_sL, hx_ce_sL, hx_sl_sL, hx_kd_sL, hx_ln_sL, hx_I_sL, hx_L_sL, hx_R_sL, hx_nx_sR, hx_ce_sR, hx_sl_sR, hx_kd_sR, hx_ln_sR, hx_I_sR, hx_L_sR, hx_R_sR, hx_nx_al, hx_ce_al, hx_sl_al, hx_kd_al, hx_ln_al, hx_I_al, hx_L_al, hx_R_al, hx_nx_row, hx_ce_row, hx_sl_row, hx_kd_row, hx_ln_row, hx_I_row, hx_L_row, hx_R_row, hx_nx_mk, hx_kd_mk, hx_ln_mk, hx_I_mk, hx_L_mk, hx_R_mk, k25, h6, nI_1, k7]
  have F1 : am_fi [25] h (am_sI h 25 6 (nI (c + 1))) := am_fi.refl.sI (by simp)
  have v6 : am_I (am_sI h 25 6 (nI (c + 1))) 25 6 = nI (c + 1) := by simp only [hx_nx_sI, hx_ce_sI, hx_sl_sI, hx_kd_sI, hx_ln_sI, hx_I_sI, hx_L_sI, hx_R_sI, hx_nx_sL, hx_ce_sL, hx_sl_sL, hx_kd_sL, hx_ln_sL, hx_I_sL, hx_L_sL, hx_R_sL, hx_nx_sR, hx_ce_sR, hx_sl_sR, hx_kd_sR, hx_ln_sR, hx_I_sR, hx_L_sR, hx_R_sR, hx_nx_al, hx_ce_al, hx_sl_al, hx_kd_al, hx_ln_al, hx_I_al, hx_L_al, hx_R_al, hx_nx_row, hx_ce_row, hx_sl_row, hx_kd_row, hx_ln_row, hx_I_row, hx_L_row, hx_R_row, hx_nx_mk, hx_kd_mk, hx_ln_mk, hx_I_mk, hx_L_mk, hx_R_mk, am_wp, am_stp, am_en, am_as, am_pad, am_nth, am_set, am_st1, am_st2, am_kl, am_kill, am_mem, am_fv, am_tk, am_wt, am_bk, Option.toList, List.cons_append, List.nil_append, Nat.reduceAdd, Nat.reduceEqDiff, Nat.reduceLeDiff, reduceIte, Nat.reduceLT, or_self, true_or, or_true, if_true, if_false, and_self, and_true, true_and, not_false_eq_true, not_true_eq_false]
  have v5 : am_I (am_sI h 25 6 (nI (c + 1))) 25 5 = am_I h 25 5 := by simp only [hx_nx_sI, hx_ce_sI, hx_sl_sI, hx_kd_sI, hx_ln_sI, hx_I_sI, hx_L_sI, hx_R_sI, hx_nx_sL, hx_ce_sL, hx_sl_sL, hx_kd_sL, hx_ln_sL, hx_I_sL, hx_L_sL, hx_R_sL, hx_nx_sR, hx_ce_sR, hx_sl_sR, hx_kd_sR, hx_ln_sR, hx_I_sR, hx_L_sR, hx_R_sR, hx_nx_al, hx_ce_al, hx_sl_al, hx_kd_al, hx_ln_al, hx_I_al, hx_L_al, hx_R_al, hx_nx_row, hx_ce_row, hx_sl_row, hx_kd_row, hx_ln_row, hx_I_row, hx_L_row, hx_R_row, hx_nx_mk, hx_kd_mk, hx_ln_mk, hx_I_mk, hx_L_mk, hx_R_mk, am_wp, am_stp, am_en, am_as, am_pad, am_nth, am_set, am_st1, am_st2, am_kl, am_kill, am_mem, am_fv, am_tk, am_wt, am_bk, Option.toList, List.cons_append, List.nil_append, Nat.reduceAdd, Nat.reduceEqDiff, Nat.reduceLeDiff, reduceIte, Nat.reduceLT, or_self, true_or, or_true, if_true, if_false, and_self, and_true, true_and, not_false_eq_true, not_true_eq_false]
  have v7 : am_I (am_sI h 25 6 (nI (c + 1))) 25 7 = am_I h 25 7 := by simp only [hx_nx_sI, hx_ce_sI, hx_sl_sI, hx_kd_sI, hx_ln_sI, hx_I_sI, hx_L_sI, hx_R_sI, hx_nx_sL, hx_ce_sL, hx_sl_sL, hx_kd_sL, hx_ln_sL, hx_I_sL, hx_L_sL, hx_R_sL, hx_nx_sR, hx_ce_sR, hx_sl_sR, hx_kd_sR, hx_ln_sR, hx_I_sR, hx_L_sR, hx_R_sR, hx_nx_al, hx_ce_al, hx_sl_al, hx_kd_al, hx_ln_al, hx_I_al, hx_L_al, hx_R_al, hx_nx_row, hx_ce_row, hx_sl_row, hx_kd_row, hx_ln_row, hx_I_row, hx_L_row, hx_R_row, hx_nx_mk, hx_kd_mk, hx_ln_mk, hx_I_mk, hx_L_mk, hx_R_mk, am_wp, am_stp, am_en, am_as, am_pad, am_nth, am_set, am_st1, am_st2, am_kl, am_kill, am_mem, am_fv, am_tk, am_wt, am_bk, Option.toList, List.cons_append, List.nil_append, Nat.reduceAdd, Nat.reduceEqDiff, Nat.reduceLeDiff, reduceIte, Nat.reduceLT, or_self, true_or, or_true, if_true, if_false, and_self, and_true, true_and, not_false_eq_true, not_true_eq_false]
  generalize am_sI h 25 6 (nI (c + 1)) = h1 at F1 v6 v5 v7 ⊢
  have B1 : bl_S P h1 ins := hB.wp F1 v5 (by simp) (fun q _ => ⟨fun j _ => congrFun (F1.2.2.2.2.2.2.1 19 (by simp)) _, congrFun (F1.2.2.2.2.2.2.1 22 (by simp)) _, congrFun (F1.2.2.2.2.2.2.1 23 (by simp)) _⟩)
  have P1 := hP.fi F1 (by simp)
  have Sp1 := hSp.fi F1 (by simp)
  have R1 := hR.fx F1.fx (by simp; omega)
  have krs1 : rs_K h1 (30 + c) := (krs c hc).fi F1
  refine am_call (l2_RS_start (d := d) Sp1 krs1 R1 (by omega)) (fun o h2 z => ?_)
  obtain ⟨rfl, F2, S2⟩ := z
  have kd2 : am_kd h2 (30 + c) = 7 := S2.1.1
  simp only [am_wp, am_stp, am_en, am_as, am_pad, am_nth, am_set, am_st1, am_st2, am_kl, am_kill, am_mem, am_fv, am_tk, am_wt, am_bk, Option.toList, List.cons_append, List.nil_append, Nat.reduceAdd, Nat.reduceEqDiff, Nat.reduceLeDiff, reduceIte, Nat.reduceLT, or_self, true_or, or_true, if_true, if_false, and_self, and_true, true_and, not_false_eq_true, not_true_eq_false]
  refine am_go [] 2 ?_
  simp only [am_wp, am_stp, am_en, am_as, am_pad, am_nth, am_set, am_st1, am_st2, am_kl, am_kill, am_mem, am_fv, am_tk, am_wt, am_bk, Option.toList, List.cons_append, List.nil_append, Nat.reduceAdd, Nat.reduceEqDiff, Nat.reduceLeDiff, reduceIte, Nat.reduceLT, or_self, true_or, or_true, if_true, if_false, and_self, and_true, true_and, not_false_eq_true, not_true_eq_false, fd_Blend_addRun_37, fd_Blend_addRun_39, kd2]
  refine am_call (l2_RS_step (d := d) (P1.fi F2 (by simp; omega)) (Sp1.fi F2 (by simp; omega)) (by omega) S2) (fun o h3 z => ?_)
  obtain ⟨rfl, F3, S3⟩ := z
  have F23 := F2.trans F3
  have S3' : rs_S P h3 (30 + c) (ch_E ps) := by simpa using S3
  have B3 : bl_S P h3 ins := by
    obtain ⟨b1, b2, b3, b4, b5⟩ := B1
    refine ⟨b1.fi F23, by rw [F23.2.2.2.2.2.2.1 25 (by simp; omega)]; exact b2, b3, b4, fun s x hx => ?_⟩
    obtain ⟨y1, y2⟩ := b5 s x hx
    have hne : x.1 ≠ 30 + c := fun e => hn (e ▸ List.mem_map_of_mem (List.mem_of_getElem? hx))
    exact ⟨by rw [F23.2.2.2.2.2.1]; exact y1, y2.fi F23.fx (by simp; exact hne) (by simp; omega)⟩
  simp only [am_wp, am_stp, am_en, am_as, am_pad, am_nth, am_set, am_st1, am_st2, am_kl, am_kill, am_mem, am_fv, am_tk, am_wt, am_bk, Option.toList, List.cons_append, List.nil_append, Nat.reduceAdd, Nat.reduceEqDiff, Nat.reduceLeDiff, reduceIte, Nat.reduceLT, or_self, true_or, or_true, if_true, if_false, and_self, and_true, true_and, not_false_eq_true, not_true_eq_false]
  refine am_go [] 3 ?_
  simp only [am_wp, am_stp, am_en, am_as, am_pad, am_nth, am_set, am_st1, am_st2, am_kl, am_kill, am_mem, am_fv, am_tk, am_wt, am_bk, Option.toList, List.cons_append, List.nil_append, Nat.reduceAdd, Nat.reduceEqDiff, Nat.reduceLeDiff, reduceIte, Nat.reduceLT, or_self, true_or, or_true, if_true, if_false, and_self, and_true, true_and, not_false_eq_true, not_true_eq_false, fd_Blend_addRun_42, fd_Blend_addRun_43, fd_Blend_addRun_45, B3.1.1]
  refine am_call (l2_addInput (d := d + 2) B3 hl ⟨by omega, Or.inl S3'⟩ hn) (fun o h4 z => ?_)
  obtain ⟨rfl, F4, B4, j6, j7⟩ := z
  simp only [am_wp, am_stp, am_en, am_as, am_pad, am_nth, am_set, am_st1, am_st2, am_kl, am_kill, am_mem, am_fv, am_tk, am_wt, am_bk, Option.toList, List.cons_append, List.nil_append, Nat.reduceAdd, Nat.reduceEqDiff, Nat.reduceLeDiff, reduceIte, Nat.reduceLT, or_self, true_or, or_true, if_true, if_false, and_self, and_true, true_and, not_false_eq_true, not_true_eq_false]
  refine am_go [] 1 ?_
  simp only [am_wp, am_stp, am_en, am_as, am_pad, am_nth, am_set, am_st1, am_st2, am_kl, am_kill, am_mem, am_fv, am_tk, am_wt, am_bk, Option.toList, List.cons_append, List.nil_append, Nat.reduceAdd, Nat.reduceEqDiff, Nat.reduceLeDiff, reduceIte, Nat.reduceLT, or_self, true_or, or_true, if_true, if_false, and_self, and_true, true_and, not_false_eq_true, not_true_eq_false, fd_Blend_addRun_48]
  have x25 : am_I h3 25 = am_I h1 25 := F23.2.2.2.2.2.2.1 25 (by simp; omega)
  exact ⟨((F1.fx.sub (by simp)).trans (F23.fx.sub (by simp))).trans (F4.sub (by simp)), B4, by rw [j6, x25]; exact v6, by rw [j7, x25]; exact v7⟩
def br_w : List Nat := [25, 28, 29, 30, 31, 32, 33, 34, 35, 36, 37, 38]
theorem l2_blendRuns_loop {d P k : Nat} {Rs : List rn} {h : am_H} {Q : am_O → am_H → Prop} (hK : sk_K P h) (N : nw_R P h Rs) (hk : k ≤ Rs.length) (hx : ∀ g, am_fx br_w h g → sk_K P g → bl_S P g (bi 0 (Rs.take k)) → am_I g 25 7 = am_I h 25 7 → Q (.inl none) g) : ∀ (m i : Nat) (g : am_H), m + i = k → am_fx br_w h g → sk_K P g → bl_S P g (bi 0 (Rs.take i)) → am_I g 25 6 = nI i → am_I g 25 7 = am_I h 25 7 →
    am_Ex nm_pr (d + 4) mt_SR_blendRuns (25, [.ref 2, .int (nI k), .int (nI i)], [], g) Q
  | 0, i, g, hm, F, K, B, i6, i7 => by
    have ei : i = k := by omega
    subst ei
    have c3 := N.2.2.1
    have l1 : ¬ nI i < nI i := nI_nlt (Nat.le_refl _) (by omega)
    refine am_go [30] 5 ?_
    simp only [am_wp, am_stp, am_en, am_as, am_pad, am_nth, am_set, am_st1, am_st2, am_kl, am_kill, am_mem, am_fv, am_tk, am_wt, am_bk, Option.toList, List.cons_append, List.nil_append, Nat.reduceAdd, Nat.reduceEqDiff, Nat.reduceLeDiff, reduceIte, Nat.reduceLT, or_self, true_or, or_true, if_true, if_false, and_self, and_true, true_and, not_false_eq_true, not_true_eq_false, fd_SR_blendRuns_25, fd_SR_blendRuns_26, fd_SR_blendRuns_27, fd_SR_blendRuns_61, l1]
    exact hx g F K B i7
  | m + 1, i, g, hm, F, K, B, i6, i7 => by
    have N' : nw_R P g Rs := N.fx F (by unfold br_w; simp)
    obtain ⟨c1, c2, c3, c4, c5⟩ := id N'
    obtain ⟨r, hr⟩ : ∃ r, Rs[i]? = some r := ⟨Rs[i]'(by omega), List.getElem?_eq_getElem (by omega)⟩
    obtain ⟨x1, x2, x3⟩ := c1 i r hr
    obtain ⟨⟨k2, r0, r1, rr2, r3, r5, r8⟩, S0, P0, Sp0, B0, ⟨k8, r8', k9, n9⟩, i185, i215⟩ := id K
    have l1 : nI i < nI k := nI_lt (by omega) (by omega)
    have l9 : nI i < 9 := nI_lt (b := 9) (by omega) (by decide)
    have n1 : (200 ≤ 200 ∧ 200 < 204) := by decide
    have i1 := am_inb (c := i) (N := 9) (by omega) (by omega)
    have q1 : (nI i).toNatClampNeg = i := nI_clamp (by omega)
    have hlen : (Rs.take i).length = i := by rw [List.length_take]; omega
    refine am_go [30, 61] 3 ?_
    simp only [am_wp, am_stp, am_en, am_as, am_pad, am_nth, am_set, am_st1, am_st2, am_kl, am_kill, am_mem, am_fv, am_tk, am_wt, am_bk, Option.toList, List.cons_append, List.nil_append, Nat.reduceAdd, Nat.reduceEqDiff, Nat.reduceLeDiff, reduceIte, Nat.reduceLT, or_self, true_or, or_true, if_true, if_false, and_self, and_true, true_and, not_false_eq_true, not_true_eq_false, fd_SR_blendRuns_25, fd_SR_blendRuns_26, fd_SR_blendRuns_27, l1]
    refine am_go [36, 61] 3 ?_
    simp only [am_wp, am_stp, am_en, am_as, am_pad, am_nth, am_set, am_st1, am_st2, am_kl, am_kill, am_mem, am_fv, am_tk, am_wt, am_bk, Option.toList, List.cons_append, List.nil_append, Nat.reduceAdd, Nat.reduceEqDiff, Nat.reduceLeDiff, reduceIte, Nat.reduceLT, or_self, true_or, or_true, if_true, if_false, and_self, and_true, true_and, not_false_eq_true, not_true_eq_false, fd_SR_blendRuns_30, fd_SR_blendRuns_31, fd_SR_blendRuns_33, l9]
    refine am_go [] 9 ?_
    simp only [am_wp, am_stp, am_en, am_as, am_pad, am_nth, am_set, am_st1, am_st2, am_kl, am_kill, am_mem, am_fv, am_tk, am_wt, am_bk, Option.toList, List.cons_append, List.nil_append, Nat.reduceAdd, Nat.reduceEqDiff, Nat.reduceLeDiff, reduceIte, Nat.reduceLT, or_self, true_or, or_true, if_true, if_false, and_self, and_true, true_and, not_false_eq_true, not_true_eq_false, fd_SR_blendRuns_36, fd_SR_blendRuns_37, fd_SR_blendRuns_40, fd_SR_blendRuns_41, fd_SR_blendRuns_44, fd_SR_blendRuns_47, fd_SR_blendRuns_48, fd_SR_blendRuns_49, fd_SR_blendRuns_52, k2, r5, r3, k8, r8', k9, n9, n1, i1, q1, x1, B0.1]
    refine am_call (l2_addRun (d := d) P0 Sp0 B i6 (by omega) (by rw [bi_len, hlen]; omega) (fun hmem => by have := bi_adr _ _ _ hmem; rw [hlen] at this; omega) x3.1 (by omega)) (fun o g1 z => ?_)
    obtain ⟨rfl, F1, B1, j6, j7⟩ := z
    simp only [am_wp, am_stp, am_en, am_as, am_pad, am_nth, am_set, am_st1, am_st2, am_kl, am_kill, am_mem, am_fv, am_tk, am_wt, am_bk, Option.toList, List.cons_append, List.nil_append, Nat.reduceAdd, Nat.reduceEqDiff, Nat.reduceLeDiff, reduceIte, Nat.reduceLT, or_self, true_or, or_true, if_true, if_false, and_self, and_true, true_and, not_false_eq_true, not_true_eq_false]
    refine am_go [25] 2 ?_
    simp only [am_wp, am_stp, am_en, am_as, am_pad, am_nth, am_set, am_st1, am_st2, am_kl, am_kill, am_mem, am_fv, am_tk, am_wt, am_bk, Option.toList, List.cons_append, List.nil_append, Nat.reduceAdd, Nat.reduceEqDiff, Nat.reduceLeDiff, reduceIte, Nat.reduceLT, or_self, true_or, or_true, if_true, if_false, and_self, and_true, true_and, not_false_eq_true, not_true_eq_false, fd_SR_blendRuns_55, fd_SR_blendRuns_58, nI_1]
    have eb : bi 0 (Rs.take (i + 1)) = bi 0 (Rs.take i) ++ [(30 + i, ch_E r.2.2)] := by
      rw [List.take_add_one, hr]
      show bi 0 (Rs.take i ++ [r]) = _
      rw [bi_snoc, hlen, Nat.zero_add]
    have F1' : am_fx br_w g g1 := F1.sub (by
      intro q hq
      have : q = 25 ∨ q = 28 ∨ q = 30 + i := by simpa using hq
      have h2 : q = 25 ∨ q = 28 ∨ q = 30 ∨ q = 31 ∨ q = 32 ∨ q = 33 ∨ q = 34 ∨ q = 35 ∨ q = 36 ∨ q = 37 ∨ q = 38 := by omega
      unfold br_w
      simp
      omega)
    exact l2_blendRuns_loop hK N hk hx m (i + 1) g1 (by omega) (F.trans F1') (K.fx F1' B1.1 (by unfold br_w; simp)) (by rw [eb]; exact B1) j6 (by rw [j7]; exact i7)
theorem l2_blendRuns {d P k : Nat} {Rs : List rn} {h : am_H} (hK : sk_K P h) (N : nw_R P h Rs) (hk : k ≤ Rs.length) : am_Rt nm_pr (d + 5) mi_SR_blendRuns [.ref 2, .int (nI k)] h (fun o h' => o = .inl none ∧ am_fx br_w h h' ∧ sk_K P h' ∧ bl_S P h' (bi 0 (Rs.take k)) ∧ am_I h' 25 7 = (if decide (k = Rs.length) = true then 1 else 0)) := by
  obtain ⟨⟨k2, r0, r1, rr2, r3, r5, r8⟩, S0, P0, Sp0, B0, ⟨k8, r8', k9, n9⟩, i185, i215⟩ := id hK
  obtain ⟨c1, c2, c3, c4, c5⟩ := id N
  refine am_in' (d := d + 4) mt_SR_blendRuns 3 rfl rfl rfl ?_
  have rest : ∀ b : Int32, (b = 0 ∨ b = 1) → b = (if decide (k = Rs.length) = true then 1 else 0) → am_Ex nm_pr (d + 4) mt_SR_blendRuns (20, [.ref 2, .int (nI k), .retAddr 0], [.int b, .ref 25], h) (fun o h' => o = .inl none ∧ am_fx br_w h h' ∧ sk_K P h' ∧ bl_S P h' (bi 0 (Rs.take k)) ∧ am_I h' 25 7 = (if decide (k = Rs.length) = true then 1 else 0)) := by
    intro b hb eb
    refine am_go [] 1 ?_
    simp only [am_wp, am_stp, am_en, am_as, am_pad, am_nth, am_set, am_st1, am_st2, am_kl, am_kill, am_mem, am_fv, am_tk, am_wt, am_bk, Option.toList, List.cons_append, List.nil_append, Nat.reduceAdd, Nat.reduceEqDiff, Nat.reduceLeDiff, reduceIte, Nat.reduceLT, or_self, true_or, or_true, if_true, if_false, and_self, and_true, true_and, not_false_eq_true, not_true_eq_false, fd_SR_blendRuns_20, B0.1]
    refine am_call (l2_Bl_begin (d := d + 3) B0.1 hb) (fun o g z => ?_)
    obtain ⟨rfl, F, j5, j6, j7⟩ := z
    simp only [am_wp, am_stp, am_en, am_as, am_pad, am_nth, am_set, am_st1, am_st2, am_kl, am_kill, am_mem, am_fv, am_tk, am_wt, am_bk, Option.toList, List.cons_append, List.nil_append, Nat.reduceAdd, Nat.reduceEqDiff, Nat.reduceLeDiff, reduceIte, Nat.reduceLT, or_self, true_or, or_true, if_true, if_false, and_self, and_true, true_and, not_false_eq_true, not_true_eq_false]
    refine am_go [25] 2 ?_
    simp only [am_wp, am_stp, am_en, am_as, am_pad, am_nth, am_set, am_st1, am_st2, am_kl, am_kill, am_mem, am_fv, am_tk, am_wt, am_bk, Option.toList, List.cons_append, List.nil_append, Nat.reduceAdd, Nat.reduceEqDiff, Nat.reduceLeDiff, reduceIte, Nat.reduceLT, or_self, true_or, or_true, if_true, if_false, and_self, and_true, true_and, not_false_eq_true, not_true_eq_false, fd_SR_blendRuns_23, fd_SR_blendRuns_24]
    have Kg : sk_K P g := hK.fi F (by simp)
    have Ng : nw_R P g Rs := N.fi F (by simp)
    refine l2_blendRuns_loop Kg Ng hk (fun g' F' K' B' i7 => ⟨rfl, (F.fx.sub (by unfold br_w; simp)).trans F', K', B', by rw [i7, j7]; exact eb⟩) k 0 g (by omega) am_fx.refl Kg (bl_S.nil (B0.fi F) j5) j6 rfl
  refine am_go [15, 19] 7 ?_
  simp only [am_wp, am_stp, am_en, am_as, am_pad, am_nth, am_set, am_st1, am_st2, am_kl, am_kill, am_mem, am_fv, am_tk, am_wt, am_bk, Option.toList, List.cons_append, List.nil_append, Nat.reduceAdd, Nat.reduceEqDiff, Nat.reduceLeDiff, reduceIte, Nat.reduceLT, or_self, true_or, or_true, if_true, if_false, and_self, and_true, true_and, not_false_eq_true, not_true_eq_false, fd_SR_blendRuns_0, fd_SR_blendRuns_1, fd_SR_blendRuns_4, fd_SR_blendRuns_5, fd_SR_blendRuns_6, fd_SR_blendRuns_9, fd_SR_blendRuns_12, k2, r5, r3, k8, c2]
  by_cases e : k = Rs.length
  · have e2 : (nI k = nI Rs.length) = True := eq_true (by rw [e])
    simp only [e2, am_wp, am_stp, am_en, am_as, am_pad, am_nth, am_set, am_st1, am_st2, am_kl, am_kill, am_mem, am_fv, am_tk, am_wt, am_bk, Option.toList, List.cons_append, List.nil_append, Nat.reduceAdd, Nat.reduceEqDiff, Nat.reduceLeDiff, reduceIte, Nat.reduceLT, or_self, true_or, or_true, if_true, if_false, and_self, and_true, true_and, not_false_eq_true, not_true_eq_false]
    refine am_go [20] 2 ?_
    simp only [am_wp, am_stp, am_en, am_as, am_pad, am_nth, am_set, am_st1, am_st2, am_kl, am_kill, am_mem, am_fv, am_tk, am_wt, am_bk, Option.toList, List.cons_append, List.nil_append, Nat.reduceAdd, Nat.reduceEqDiff, Nat.reduceLeDiff, reduceIte, Nat.reduceLT, or_self, true_or, or_true, if_true, if_false, and_self, and_true, true_and, not_false_eq_true, not_true_eq_false, fd_SR_blendRuns_15, fd_SR_blendRuns_16]
    exact rest 1 (Or.inr rfl) (by simp [e])
  · have e2 : (nI k = nI Rs.length) = False := eq_false (fun q => e ((nI_eq (by omega) (by omega)).mp q))
    simp only [e2, am_wp, am_stp, am_en, am_as, am_pad, am_nth, am_set, am_st1, am_st2, am_kl, am_kill, am_mem, am_fv, am_tk, am_wt, am_bk, Option.toList, List.cons_append, List.nil_append, Nat.reduceAdd, Nat.reduceEqDiff, Nat.reduceLeDiff, reduceIte, Nat.reduceLT, or_self, true_or, or_true, if_true, if_false, and_self, and_true, true_and, not_false_eq_true, not_true_eq_false]
    refine am_go [20] 1 ?_
    simp only [am_wp, am_stp, am_en, am_as, am_pad, am_nth, am_set, am_st1, am_st2, am_kl, am_kill, am_mem, am_fv, am_tk, am_wt, am_bk, Option.toList, List.cons_append, List.nil_append, Nat.reduceAdd, Nat.reduceEqDiff, Nat.reduceLeDiff, reduceIte, Nat.reduceLT, or_self, true_or, or_true, if_true, if_false, and_self, and_true, true_and, not_false_eq_true, not_true_eq_false, fd_SR_blendRuns_19]
    exact rest 0 (Or.inl rfl) (by simp [e])
