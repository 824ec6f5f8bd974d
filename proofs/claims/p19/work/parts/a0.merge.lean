/-! WHAT RUNS COME TO, without their places -/
abbrev ar : Type := Nat × List ent
def ab (Rs : List rn) : List ar := Rs.map (fun r => (r.2.1, ch_E r.2.2))
def alv (As : List ar) : List Nat := As.map (·.1)
theorem alv_ab (Rs : List rn) : alv (ab Rs) = lvs Rs := by simp [alv, ab, lvs]
/-- what the first k come to -/
def aou (As : List ar) (k : Nat) : List ent := ou (decide (k = As.length)) ((As.take k).map (·.2))
/-- pages in use -/
def apg (As : List ar) : Nat := (As.map (fun a => npg a.2)).sum
/-- the level of a merge -/
def alevel (As : List ar) : Nat := if npg (aou As (up 1 (alv As))) ≤ 8 then 1 else if npg (aou As (up 2 (alv As))) ≤ 24 then 2 else 3
def amerge1 (P : Nat) (As : List ar) (lv : Nat) : List ar := if npg (aou As (up lv (alv As))) + apg As ≤ P - 2 then (if npg (aou As (up lv (alv As))) = 0 then As.drop (up lv (alv As)) else (lv, aou As (up lv (alv As))) :: As.drop (up lv (alv As))) else As
def amerge (P : Nat) (As : List ar) : List ar := amerge1 P As (alevel As)
theorem npg_0 {L : List ent} : npg L = 0 ↔ L = [] := by
  constructor
  · intro h
    cases L with
    | nil => rfl
    | cons e L =>
      unfold npg at h
      rw [np_121] at h
      omega
  · intro h; subst h; rfl
theorem apg_ab {P : Nat} {h : am_H} {Rs : List rn} (N : ∀ r ∈ Rs, rn_S P h r) : apg (ab Rs) = (pgs Rs).length := by
  induction Rs with
  | nil => rfl
  | cons r Rs ih =>
    have := ih (fun x hx => N x (by simp [hx]))
    have h1 := (N r (by simp)).2.2.2.2.2.1
    simp only [apg, ab, List.map_cons, List.sum_cons, pgs, List.flatMap_cons, List.length_append, rn_p, List.length_map] at this ⊢
    rw [← h1]
    have e : (Rs.flatMap rn_p).length = (pgs Rs).length := rfl
    simp only [pgs, rn_p] at *
    omega
theorem nw_R.all {P : Nat} {h : am_H} {Rs : List rn} (N : nw_R P h Rs) : ∀ r ∈ Rs, rn_S P h r := fun r hr => by
  obtain ⟨i, hi⟩ := List.getElem?_of_mem hr
  exact (N.1 i r hi).2.2
/-! RUNS ARE LET GO -/
theorem fz_rel {P : Nat} {f : Nat → Int32} : ∀ (l : List Nat), l.Nodup → (∀ p ∈ l, 2 ≤ p ∧ p < P ∧ f p = 1) → fz (fun q => if q ∈ l then 0 else f q) P = fz f P + l.length
  | [], _, _ => by simp
  | p :: l, hn, h => by
    have ih := fz_rel (P := P) (f := f) l (List.nodup_cons.mp hn).2 (fun x hx => h x (by simp [hx]))
    have hp := h p (by simp)
    have hpl := (List.nodup_cons.mp hn).1
    have e : (fun q => if q ∈ p :: l then 0 else f q) = up_f (fun q => if q ∈ l then 0 else f q) p 0 := by
      funext q
      unfold up_f
      by_cases e : q = p
      · simp [e]
      · simp [e]
    have z := fz_up (f := fun q => if q ∈ l then 0 else f q) (p := p) (v := 0) P hp.1 hp.2.1
    have z1 : (if p ∈ l then (0 : Int32) else f p) = 1 := by rw [if_neg hpl]; exact hp.2.2
    rw [z1, if_neg (by decide), if_pos rfl] at z
    rw [e]
    simp only [List.length_cons]
    omega
theorem sk_K.ls {P : Nat} {S : List Nat} {h h' : am_H} (c : sk_K P h) (f : am_fx S h h') (e8 : am_R h' 8 = am_R h 8) (hS : ∀ q ∈ S, q = 8 ∨ q = 9 ∨ 109 ≤ q) : sk_K P h' := by
  obtain ⟨c1, c2, c3, c4, c5, c6, c7, c8⟩ := c
  have bk : bl_K h' := c5.fx f (fun q hq => by have := hS q hq; omega)
  have n : ∀ x, x ≠ 8 → x ≠ 9 → x < 109 → x ∉ S := fun x h1 h2 h3 hm => by have := hS x hm; omega
  obtain ⟨f1, f2, f3, f4, f5, f6, f7, f8⟩ := f
  refine ⟨by rw [f4, f8 2 (n 2 (by decide) (by decide) (by decide))]; exact c1, ?_, ?_, ?_, bk, by rw [f4, f5, e8]; exact c6, by rw [f6 18 (n 18 (by decide) (by decide) (by decide))]; exact c7, by rw [f6 2 (n 2 (by decide) (by decide) (by decide))]; exact c8⟩
  · unfold cl_Sh at *
    rw [f4, f5, f8 14 (n 14 (by decide) (by decide) (by decide))]
    exact c2
  · unfold cl_Pg at *
    rw [f4, f5, f8 18 (n 18 (by decide) (by decide) (by decide)), f6 18 (n 18 (by decide) (by decide) (by decide))]
    exact c3
  · unfold cl_Sp at *
    rw [f4, f5, f8 21 (n 21 (by decide) (by decide) (by decide)), f6 21 (n 21 (by decide) (by decide) (by decide))]
    exact c4
/-- the list holds Rs, of which the first i are let go -/
def nw_D (P : Nat) (h : am_H) (Rs : List rn) (i : Nat) : Prop := (∀ j r, Rs[j]? = some r → am_R h 9 j = r.1 ∧ (109 ≤ r.1 ∧ r.1 < am_nx h) ∧ am_kd h r.1 = 5 ∧ (i ≤ j → rn_S P h r)) ∧ am_I h 8 1 = nI Rs.length ∧ Rs.length ≤ 9 ∧ (Rs.map (·.1)).Nodup ∧ (pgs Rs).Nodup
theorem nw_R.D {P : Nat} {h : am_H} {Rs : List rn} (N : nw_R P h Rs) : nw_D P h Rs 0 := by
  obtain ⟨c1, c2, c3, c4, c5⟩ := N
  refine ⟨fun j r hr => ?_, c2, c3, c4, c5⟩
  obtain ⟨x1, x2, x3⟩ := c1 j r hr
  exact ⟨x1, x2, x3.1.1, fun _ => x3⟩
theorem pgs_get {Rs : List rn} {i j : Nat} {r x : rn} (hn : (pgs Rs).Nodup) (hr : Rs[i]? = some r) (hx : Rs[j]? = some x) (hij : i < j) : ∀ p ∈ rn_p x, p ∉ rn_p r := by
  induction Rs generalizing i j with
  | nil => simp at hr
  | cons y Rs ih =>
    have hn' : (rn_p y ++ pgs Rs).Nodup := hn
    obtain ⟨n1, n2, n3⟩ := List.nodup_append.mp hn'
    obtain ⟨j', rfl⟩ : ∃ k, j = k + 1 := ⟨j - 1, by omega⟩
    have hx' : Rs[j']? = some x := by simpa using hx
    cases i with
    | zero =>
      have e : y = r := by simpa using hr
      subst e
      intro p hp hq
      exact n3 p hq p (List.mem_flatMap.mpr ⟨x, List.mem_of_getElem? hx', hp⟩) rfl
    | succ i =>
      have hr' : Rs[i]? = some r := by simpa using hr
      exact ih n2 hr' hx' (by omega)
theorem adr_get {Rs : List rn} {i j : Nat} {r x : rn} (hn : (Rs.map (·.1)).Nodup) (hr : Rs[i]? = some r) (hx : Rs[j]? = some x) (hij : i ≠ j) : x.1 ≠ r.1 := fun e => by
  have h1 : (Rs.map (·.1))[i]? = some r.1 := by rw [List.getElem?_map, hr]; rfl
  have h2 : (Rs.map (·.1))[j]? = some r.1 := by rw [List.getElem?_map, hx]; simp [e]
  have hi := (List.getElem?_eq_some_iff.mp h1).1
  exact hij ((List.getElem?_inj hi hn).mp (h1.trans h2.symm))
theorem rn_0.fr {P : Nat} {h h' : am_H} {r : rn} {l : List Nat} (c : rn_0 P h r) (e1 : am_kd h' r.1 = am_kd h r.1) (e2 : am_I h' r.1 = am_I h r.1) (f : fr_P h h' l) (hl : ∀ q ∈ rn_p r, q ∉ l) : rn_0 P h' r := by
  obtain ⟨⟨c1, c2, c3, c4, q, rest, c5, c6, c7⟩, d1, d2, d3, d4, d5, d6, d7⟩ := c
  have n : ∀ x ∈ r.2.2, x.1 ∉ l := fun x hx => hl x.1 (List.mem_map_of_mem hx)
  refine ⟨⟨by rw [e1]; exact c1, by rw [e2]; exact c2, c3, c4.mono (fun x hx j hj => (f x.1 (n x hx)).2.2.2.2 j hj) (fun x hx => (f x.1 (n x hx)).2.2.1) (fun x hx => (f x.1 (n x hx)).2.1), q, rest, c5, by rw [e2]; exact c6, fun x hx => ?_⟩, by rw [e2]; exact d1, d2, by rw [e2]; exact d3, fun x hx => by rw [(f x.1 (n x hx)).1]; exact d4 x hx, d5, d6, d7⟩
  rw [(f x.1 (n x (by rw [c5]; simp [hx]))).2.2.2.1]
  exact c7 x hx
/-- one run is let go -/
def lg_Q (h h' : am_H) (a fr : Nat) (l : List Nat) : Prop := am_fi [21, 22, a] h h' ∧ am_I h' 21 0 = am_I h 21 0 ∧ am_I h' 21 4 = nI (fr + l.length) ∧ am_I h' 22 = fun q => if q ∈ l then 0 else am_I h 22 q
theorem l2_letGo {d P fr : Nat} {r : rn} {h : am_H} (hK : sk_K P h) (hr : rn_S P h r) (ha : 109 ≤ r.1) (hnd : (rn_p r).Nodup) (hf : fr < 1500) (j4 : am_I h 21 4 = nI fr) : am_Rt nm_pr (d + 3) mi_SR_letGo [.ref 2, .ref r.1] h (fun o h' => o = .inl none ∧ lg_Q h h' r.1 fr (rn_p r)) := by
  obtain ⟨⟨k2, r0, r1, rr2, r3, r5, r8⟩, S0, P0, Sp0, B0, N0, i185, i215⟩ := id hK
  obtain ⟨⟨c1, c2, c3, c4, q, rest, c5, c6, c7⟩, d1, d2, d3, d4, d5, d6, d7⟩ := id hr
  have e10 : (1 : Int32) - 1 = 0 := by decide
  refine am_in' (d := d + 2) mt_SR_letGo 2 rfl rfl rfl ?_
  refine am_go [] 6 ?_
  simp only [am_wp, am_stp, am_en, am_as, am_pad, am_nth, am_set, am_st1, am_st2, am_kl, am_kill, am_mem, am_fv, am_tk, am_wt, am_bk, Option.toList, List.cons_append, List.nil_append, Nat.reduceAdd, Nat.reduceEqDiff, Nat.reduceLeDiff, reduceIte, Nat.reduceLT, or_self, true_or, or_true, if_true, if_false, and_self, and_true, true_and, not_false_eq_true, not_true_eq_false, fd_SR_letGo_0, fd_SR_letGo_1, fd_SR_letGo_2, fd_SR_letGo_5, fd_SR_letGo_6, fd_SR_letGo_7, c1, d3, e10]
  have F1 : am_fi [r.1] h (am_sI h r.1 8 0) := am_fi.refl.sI (by simp)
  have v8 : am_I (am_sI h r.1 8 0) r.1 8 = 0 := by simp only [hx_nx_sI, hx_ce_sI, hx_sl_sI, hx_kd_sI, hx_ln_sI, hx_I_sI, hx_L_sI, hx_R_sI, hx_nx_sL, hx_ce_sL, hx_sl_sL, hx_kd_sL, hx_ln_sL, hx_I_sL, hx_L_sL, hx_R_sL, hx_nx_sR, hx_ce_sR, hx_sl_sR, hx_kd_sR, hx_ln_sR, hx_I_sR, hx_L_sR, hx_R_sR, hx_nx_al, hx_ce_al, hx_sl_al, hx_kd_al, hx_ln_al, hx_I_al, hx_L_al, hx_R_al, hx_nx_row, hx_ce_row, hx_sl_row, hx_kd_row, hx_ln_row, hx_I_row, hx_L_row, hx_R_row, hx_nx_mk, hx_kd_mk, hx_ln_mk, hx_I_mk, hx_L_mk, hx_R_mk, am_wp, am_stp, am_en, am_as, am_pad, am_nth, am_set, am_st1, am_st2, am_kl, am_kill, am_mem, am_fv, am_tk, am_wt, am_bk, Option.toList, List.cons_append, List.nil_append, Nat.reduceAdd, Nat.reduceEqDiff, Nat.reduceLeDiff, reduceIte, Nat.reduceLT, or_self, true_or, or_true, if_true, if_false, and_self, and_true, true_and, not_false_eq_true, not_true_eq_false]
  have vj : ∀ j, j ≠ 8 → am_I (am_sI h r.1 8 0) r.1 j = am_I h r.1 j := fun j hj => by simp only [hx_nx_sI, hx_ce_sI, hx_sl_sI, hx_kd_sI, hx_ln_sI, hx_I_sI, hx_L_sI, hx_R_sI, hx_nx_sL, hx_ce_sL, hx_sl_sL, hx_kd_sL, hx_ln_sL, hx_I_sL, hx_L_sL, hx_R_sL, hx_nx_sR, hx_ce_sR, hx_sl_sR, hx_kd_sR, hx_ln_sR, hx_I_sR, hx_L_sR, hx_R_sR, hx_nx_al, hx_ce_al, hx_sl_al, hx_kd_al, hx_ln_al, hx_I_al, hx_L_al, hx_R_al, hx_nx_row, hx_ce_row, hx_sl_row, hx_kd_row, hx_ln_row, hx_I_row, hx_L_row, hx_R_row, hx_nx_mk, hx_kd_mk, hx_ln_mk, hx_I_mk, hx_L_mk, hx_R_mk, am_wp, am_stp, am_en, am_as, am_pad, am_nth, am_set, am_st1, am_st2, am_kl, am_kill, am_mem, am_fv, am_tk, am_wt, am_bk, Option.toList, List.cons_append, List.nil_append, Nat.reduceAdd, Nat.reduceEqDiff, Nat.reduceLeDiff, reduceIte, Nat.reduceLT, or_self, true_or, or_true, if_true, if_false, and_self, and_true, true_and, not_false_eq_true, not_true_eq_false, hj]
  generalize am_sI h r.1 8 0 = g at F1 v8 vj ⊢
  have K1 : sk_K P g := hK.fi F1 (by simp; omega)
  obtain ⟨⟨k2a, r0a, r1a, rr2a, r3a, r5a, r8a⟩, S1, P1, Sp1, B1, N1, i185a, i215a⟩ := id K1
  have kg : am_kd g r.1 = 5 := by rw [F1.2.2.2.1]; exact c1
  refine am_go [17, 25] 3 ?_
  simp only [am_wp, am_stp, am_en, am_as, am_pad, am_nth, am_set, am_st1, am_st2, am_kl, am_kill, am_mem, am_fv, am_tk, am_wt, am_bk, Option.toList, List.cons_append, List.nil_append, Nat.reduceAdd, Nat.reduceEqDiff, Nat.reduceLeDiff, reduceIte, Nat.reduceLT, or_self, true_or, or_true, if_true, if_false, and_self, and_true, true_and, not_false_eq_true, not_true_eq_false, fd_SR_letGo_10, fd_SR_letGo_11, fd_SR_letGo_14, kg, v8]
  refine am_go [] 4 ?_
  simp only [am_wp, am_stp, am_en, am_as, am_pad, am_nth, am_set, am_st1, am_st2, am_kl, am_kill, am_mem, am_fv, am_tk, am_wt, am_bk, Option.toList, List.cons_append, List.nil_append, Nat.reduceAdd, Nat.reduceEqDiff, Nat.reduceLeDiff, reduceIte, Nat.reduceLT, or_self, true_or, or_true, if_true, if_false, and_self, and_true, true_and, not_false_eq_true, not_true_eq_false, fd_SR_letGo_17, fd_SR_letGo_18, fd_SR_letGo_21, fd_SR_letGo_22, k2a, r1a, Sp1.1]
  have I : ∀ x, x < 109 → am_I g x = am_I h x := fun x hx => F1.2.2.2.2.2.2.1 x (by simp; omega)
  have P1024 := P0.2.2.2.2.2.2.2.2.2
  have hlen : (rn_p r).length = r.2.2.length := by unfold rn_p; rw [List.length_map]
  have hlt : (rn_p r).length < 1500 := by
    have hz := fz_rel (P := P) (f := am_I h 22) (rn_p r) hnd (fun p hp => hr.held p hp)
    have := fz_le (fun q => if q ∈ rn_p r then 0 else am_I h 22 q) P
    omega
  refine am_call (l2_giveBack (d := d) (a := r.1) (fr := fr) (l := rn_p r) Sp1 kg (by rw [vj 4 (by decide), hlen]; exact c2) hlt hf (by omega) (c4.pc.eq (I 23 (by decide))) hnd (fun p hp => by rw [I 22 (by decide)]; exact (hr.held p hp).2.2) (fun p hp => by
    rw [vj 3 (by decide)]
    unfold rn_p at hp
    rw [c5] at hp
    have : q.1 = p := by simpa using hp
    rw [← this]
    exact c6) (by rw [I 21 (by decide)]; exact j4)) (fun o g2 z => ?_)
  obtain ⟨rfl, F2, w0, w4, w22⟩ := z
  simp only [am_wp, am_stp, am_en, am_as, am_pad, am_nth, am_set, am_st1, am_st2, am_kl, am_kill, am_mem, am_fv, am_tk, am_wt, am_bk, Option.toList, List.cons_append, List.nil_append, Nat.reduceAdd, Nat.reduceEqDiff, Nat.reduceLeDiff, reduceIte, Nat.reduceLT, or_self, true_or, or_true, if_true, if_false, and_self, and_true, true_and, not_false_eq_true, not_true_eq_false]
  refine am_go [] 1 ?_
  simp only [am_wp, am_stp, am_en, am_as, am_pad, am_nth, am_set, am_st1, am_st2, am_kl, am_kill, am_mem, am_fv, am_tk, am_wt, am_bk, Option.toList, List.cons_append, List.nil_append, Nat.reduceAdd, Nat.reduceEqDiff, Nat.reduceLeDiff, reduceIte, Nat.reduceLT, or_self, true_or, or_true, if_true, if_false, and_self, and_true, true_and, not_false_eq_true, not_true_eq_false, fd_SR_letGo_25]
  refine ⟨(F1.sub (by simp)).trans (F2.sub (by simp)), by rw [w0, I 21 (by decide)], w4, ?_⟩
  rw [w22, I 22 (by decide)]
/-- what holds while runs are let go -/
def lg_I (P n : Nat) (h g : am_H) (Rs mk : List rn) (i np' : Nat) : Prop := sk_K P g ∧ tb_S g n ∧ nw_D P g Rs i ∧ (∀ r ∈ mk, rn_0 P g r ∧ (109 ≤ r.1 ∧ r.1 < am_nx g) ∧ r.1 ∉ Rs.map (·.1) ∧ ∀ p ∈ rn_p r, p ∉ pgs Rs) ∧ (am_I g 21 4 = nI (fz (am_I g 22) P) ∧ fz (am_I g 22) P + (pgs (Rs.drop i)).length + np' = P - 2) ∧ am_nx g = am_nx h ∧ lf 0 h g ∧ tb_E h g
theorem lg_I.step {P n i np' : Nat} {h g g' : am_H} {Rs mk : List rn} {r : rn} (I : lg_I P n h g Rs mk i np') (hr : Rs[i]? = some r) (q : lg_Q g g' r.1 (fz (am_I g 22) P) (rn_p r)) : lg_I P n h g' Rs mk (i + 1) np' := by
  obtain ⟨hK, T, ⟨c1, c2, c3, c4, c5⟩, M, ⟨s1, s2⟩, nx, L, E⟩ := I
  obtain ⟨F, q0, q4, q22⟩ := q
  obtain ⟨x1, x2, x3, x4⟩ := c1 i r hr
  have x4 := x4 (Nat.le_refl _)
  have hmem := List.mem_of_getElem? hr
  have fr : fr_P g g' (rn_p r) := fun p hp => by
    refine ⟨congrFun (F.2.2.2.2.2.2.1 20 (by simp; omega)) p, ?_, congrFun (F.2.2.2.2.2.2.1 23 (by simp; omega)) p, congrFun (F.2.2.2.2.2.2.2 24 (by simp; omega)) p, fun j _ => congrFun (F.2.2.2.2.2.2.1 19 (by simp; omega)) _⟩
    rw [q22]
    dsimp only
    rw [if_neg hp]
  have hnd : (rn_p r).Nodup := by
    have : ∀ (Rs : List rn), (pgs Rs).Nodup → r ∈ Rs → (rn_p r).Nodup := by
      intro Rs
      induction Rs with
      | nil => intro _ h; simp at h
      | cons y Rs ih =>
        intro h1 h2
        have h1' : (rn_p y ++ pgs Rs).Nodup := h1
        obtain ⟨n1, n2, n3⟩ := List.nodup_append.mp h1'
        rcases List.mem_cons.mp h2 with e | e
        · subst e; exact n1
        · exact ih n2 e
    exact this Rs c5 hmem
  have hz := fz_rel (P := P) (f := am_I g 22) (rn_p r) hnd (fun p hp => x4.held p hp)
  have hdrop : Rs.drop i = r :: Rs.drop (i + 1) := by
    have hi := (List.getElem?_eq_some_iff.mp hr)
    rw [List.drop_eq_getElem_cons hi.1, hi.2]
  have hpl : (pgs (Rs.drop i)).length = (rn_p r).length + (pgs (Rs.drop (i + 1))).length := by
    rw [hdrop]
    simp [pgs]
  refine ⟨hK.mv F (congrFun (F.2.2.2.2.2.2.1 18 (by simp; omega)) 0) (congrFun (F.2.2.2.2.2.2.1 18 (by simp; omega)) 5) q0 (congrFun (F.2.2.2.2.2.2.1 2 (by simp; omega)) 15), T.fi F (by simp; omega), ⟨fun j x hx => ?_, by rw [F.2.2.2.2.2.2.1 8 (by simp; omega)]; exact c2, c3, c4, c5⟩, fun x hx => ?_, ⟨by rw [q4, q22, hz], by rw [q22, hz]; omega⟩, F.1.trans nx, ?_, ?_⟩
  · obtain ⟨y1, y2, y3, y4⟩ := c1 j x hx
    refine ⟨by rw [F.2.2.2.2.2.1]; exact y1, by rw [F.1]; exact y2, by rw [F.2.2.2.1]; exact y3, fun hj => (y4 (by omega)).fr (by rw [F.2.2.2.1]) (F.2.2.2.2.2.2.1 x.1 ?_) fr (pgs_get c5 hr hx (by omega))⟩
    have := adr_get c4 hr hx (by omega)
    simp
    omega
  · obtain ⟨m1, m2, m3, m4⟩ := M x hx
    have hxr : x.1 ≠ r.1 := fun e => m3 (e ▸ List.mem_map_of_mem hmem)
    exact ⟨m1.fr (by rw [F.2.2.2.1]) (F.2.2.2.2.2.2.1 x.1 (by simp; omega)) fr (fun p hp hq => m4 p hp (List.mem_flatMap.mpr ⟨r, hmem, hq⟩)), by rw [F.1]; exact m2, m3, m4⟩
  · have := L.trans (lf.fi F (by simp; omega))
    simpa using this
  · exact E.trans (tb_E.fx F.fx (by simp; omega))
theorem l2_let_loop {d P n k np' : Nat} {a1 a3 a4 : Int32} {a5 : Nat} {Rs mk : List rn} {h : am_H} {Q : am_O → am_H → Prop} (hk : k ≤ Rs.length) (hx : ∀ g, lg_I P n h g Rs mk k np' → am_Ex nm_pr (d + 3) mt_SR_writeMerged (82, [.ref 2, .int a1, .int (nI k), .int a3, .int a4, .ref a5, .int (nI k)], [], g) Q) : ∀ (m i : Nat) (g : am_H), m + i = k → lg_I P n h g Rs mk i np' →
    am_Ex nm_pr (d + 3) mt_SR_writeMerged (49, [.ref 2, .int a1, .int (nI k), .int a3, .int a4, .ref a5, .int (nI i)], [], g) Q
  | 0, i, g, hm, I => by
    have e : i = k := by omega
    subst e
    have c3 := I.2.2.1.2.2.1
    have l1 : ¬ nI i < nI i := nI_nlt (Nat.le_refl _) (by omega)
    refine am_go [55, 82] 3 ?_
    simp only [am_wp, am_stp, am_en, am_as, am_pad, am_nth, am_set, am_st1, am_st2, am_kl, am_kill, am_mem, am_fv, am_tk, am_wt, am_bk, Option.toList, List.cons_append, List.nil_append, Nat.reduceAdd, Nat.reduceEqDiff, Nat.reduceLeDiff, reduceIte, Nat.reduceLT, or_self, true_or, or_true, if_true, if_false, and_self, and_true, true_and, not_false_eq_true, not_true_eq_false, fd_SR_writeMerged_49, fd_SR_writeMerged_51, fd_SR_writeMerged_52, l1]
    exact hx g I
  | m + 1, i, g, hm, I => by
    obtain ⟨hK, T, ⟨c1, c2, c3, c4, c5⟩, M, ⟨s1, s2⟩, nx, L, E⟩ := id I
    obtain ⟨r, hr⟩ : ∃ r, Rs[i]? = some r := ⟨Rs[i]'(by omega), List.getElem?_eq_getElem (by omega)⟩
    obtain ⟨x1, x2, x3, x4⟩ := c1 i r hr
    obtain ⟨⟨k2, r0, r1, rr2, r3, r5, r8⟩, S0, P0, Sp0, B0, ⟨k8, r8', k9, n9⟩, i185, i215⟩ := id hK
    have P1024 := P0.2.2.2.2.2.2.2.2.2
    have l1 : nI i < nI k := nI_lt (by omega) (by omega)
    have l9 : nI i < 9 := nI_lt (b := 9) (by omega) (by decide)
    have n1 : (200 ≤ 200 ∧ 200 < 204) := by decide
    have i1 := am_inb (c := i) (N := 9) (by omega) (by omega)
    have q1 : (nI i).toNatClampNeg = i := nI_clamp (by omega)
    have hnd : (rn_p r).Nodup := by
      have : (pgs (Rs.drop i)).Nodup := by
        have e : pgs Rs = pgs (Rs.take i) ++ pgs (Rs.drop i) := by
          unfold pgs
          rw [← List.flatMap_append, List.take_append_drop]
        rw [e] at c5
        exact (List.nodup_append.mp c5).2.1
      have hi := (List.getElem?_eq_some_iff.mp hr)
      rw [List.drop_eq_getElem_cons hi.1, hi.2] at this
      have h2 : (rn_p r ++ pgs (Rs.drop (i + 1))).Nodup := this
      exact (List.nodup_append.mp h2).1
    refine am_go [55, 82] 3 ?_
    simp only [am_wp, am_stp, am_en, am_as, am_pad, am_nth, am_set, am_st1, am_st2, am_kl, am_kill, am_mem, am_fv, am_tk, am_wt, am_bk, Option.toList, List.cons_append, List.nil_append, Nat.reduceAdd, Nat.reduceEqDiff, Nat.reduceLeDiff, reduceIte, Nat.reduceLT, or_self, true_or, or_true, if_true, if_false, and_self, and_true, true_and, not_false_eq_true, not_true_eq_false, fd_SR_writeMerged_49, fd_SR_writeMerged_51, fd_SR_writeMerged_52, l1]
    refine am_go [62, 82] 3 ?_
    simp only [am_wp, am_stp, am_en, am_as, am_pad, am_nth, am_set, am_st1, am_st2, am_kl, am_kill, am_mem, am_fv, am_tk, am_wt, am_bk, Option.toList, List.cons_append, List.nil_append, Nat.reduceAdd, Nat.reduceEqDiff, Nat.reduceLeDiff, reduceIte, Nat.reduceLT, or_self, true_or, or_true, if_true, if_false, and_self, and_true, true_and, not_false_eq_true, not_true_eq_false, fd_SR_writeMerged_55, fd_SR_writeMerged_57, fd_SR_writeMerged_59, l9]
    refine am_go [] 7 ?_
    simp only [am_wp, am_stp, am_en, am_as, am_pad, am_nth, am_set, am_st1, am_st2, am_kl, am_kill, am_mem, am_fv, am_tk, am_wt, am_bk, Option.toList, List.cons_append, List.nil_append, Nat.reduceAdd, Nat.reduceEqDiff, Nat.reduceLeDiff, reduceIte, Nat.reduceLT, or_self, true_or, or_true, if_true, if_false, and_self, and_true, true_and, not_false_eq_true, not_true_eq_false, fd_SR_writeMerged_62, fd_SR_writeMerged_63, fd_SR_writeMerged_64, fd_SR_writeMerged_67, fd_SR_writeMerged_70, fd_SR_writeMerged_72, fd_SR_writeMerged_73, k2, r3, k8, r8', k9, n9, n1, i1, q1, x1]
    refine am_call (l2_letGo (d := d) hK (x4 (Nat.le_refl _)) x2.1 hnd (by omega) s1) (fun o g1 z => ?_)
    obtain ⟨rfl, q⟩ := z
    simp only [am_wp, am_stp, am_en, am_as, am_pad, am_nth, am_set, am_st1, am_st2, am_kl, am_kill, am_mem, am_fv, am_tk, am_wt, am_bk, Option.toList, List.cons_append, List.nil_append, Nat.reduceAdd, Nat.reduceEqDiff, Nat.reduceLeDiff, reduceIte, Nat.reduceLT, or_self, true_or, or_true, if_true, if_false, and_self, and_true, true_and, not_false_eq_true, not_true_eq_false]
    refine am_go [49] 2 ?_
    simp only [am_wp, am_stp, am_en, am_as, am_pad, am_nth, am_set, am_st1, am_st2, am_kl, am_kill, am_mem, am_fv, am_tk, am_wt, am_bk, Option.toList, List.cons_append, List.nil_append, Nat.reduceAdd, Nat.reduceEqDiff, Nat.reduceLeDiff, reduceIte, Nat.reduceLT, or_self, true_or, or_true, if_true, if_false, and_self, and_true, true_and, not_false_eq_true, not_true_eq_false, fd_SR_writeMerged_76, fd_SR_writeMerged_79, nI_1]
    exact l2_let_loop hk hx m (i + 1) g1 (by omega) (I.step hr q)
