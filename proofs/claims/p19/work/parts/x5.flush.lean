/-! THE REFERENCE FLUSHES -/
theorem el_36 {B : Nat → Int32} : ∀ (L : List ent) (a b : Nat) (k : Int64), (∀ x ∈ L, k < x.1) → so L → el B a (some k) L b → a + 3 * L.length ≤ b
  | [], a, b, k, _, _, h => by unfold el at h; simp; omega
  | e :: L, a, b, k, hk, hs, h => by
    have ih := el_36 L _ b e.1 hs.1 hs.2 h.2
    have hne : k ≠ e.1 := fun q => by
      have := hk e (by simp)
      rw [q, Int64.lt_iff_toInt_lt] at this
      omega
    have h8 := kc_8 hne
    have : 3 ≤ es (sh1 (some k) e.1) e := by
      show 3 ≤ es (kc k e.1) e
      unfold es
      omega
    simp only [List.length_cons]
    omega
theorem pg_M.l36 {P q : Nat} {h : am_H} {C : List ent} (M : pg_M P h q C) (hs : so C) : C.length ≤ 36 := by
  obtain ⟨-, -, -, -, -, -, -, u, hu, hE⟩ := M
  cases C with
  | nil => exact Nat.zero_le _
  | cons e L =>
    have := el_36 L _ u e.1 hs.1 hs.2 hE.2
    have h10 : 10 ≤ es (sh1 none e.1) e := by
      show 10 ≤ es 0 e
      unfold es
      omega
    simp only [List.length_cons]
    omega
/-- the pages' entries behind a run that was written -/
def nE (E : Nat → List ent) (ps : List (Nat × List ent)) (q : Nat) : List ent := match ps.find? (fun x => decide (x.1 = q)) with
  | some x => x.2
  | none => E q
theorem nE_out {E : Nat → List ent} {ps : List (Nat × List ent)} {q : Nat} (h : q ∉ ps.map (·.1)) : nE E ps q = E q := by
  unfold nE
  cases e : ps.find? (fun x => decide (x.1 = q)) with
  | none => rfl
  | some x =>
    have h1 := List.mem_of_find?_eq_some e
    have h2 := List.find?_some e
    exact absurd (List.mem_map.mpr ⟨x, h1, by simpa using h2⟩) h
theorem nE_in {E : Nat → List ent} {ps : List (Nat × List ent)} : ∀ {x : Nat × List ent}, (ps.map (·.1)).Nodup → x ∈ ps → nE E ps x.1 = x.2 := by
  intro x hn hx
  unfold nE
  cases e : ps.find? (fun y => decide (y.1 = x.1)) with
  | none =>
    have := List.find?_eq_none.mp e x hx
    simp at this
  | some y =>
    have h1 := List.mem_of_find?_eq_some e
    have h2 : y.1 = x.1 := by simpa using List.find?_some e
    dsimp only
    have : y = x := by
      obtain ⟨i, hi, ei⟩ := List.mem_iff_getElem.mp h1
      obtain ⟨j, hj, ej⟩ := List.mem_iff_getElem.mp hx
      have hij : i = j := by
        have a1 : i < (ps.map (·.1)).length := by simpa using hi
        have a2 : (ps.map (·.1))[i]? = (ps.map (·.1))[j]? := by
          rw [List.getElem?_map, List.getElem?_map, List.getElem?_eq_getElem hi, List.getElem?_eq_getElem hj, ei, ej]
          simp [h2]
        exact (List.getElem?_inj a1 hn).mp a2
      subst hij
      rw [← ei, ← ej]
    rw [this]
theorem pe_nE {E : Nat → List ent} {ps0 : List (Nat × List ent)} (hn : (ps0.map (·.1)).Nodup) : ∀ ps : List (Nat × List ent), (∀ x ∈ ps, x ∈ ps0) → pe (nE E ps0) (ps.map (·.1)) = ps
  | [], _ => rfl
  | x :: ps, h => by
    show (x.1, nE E ps0 x.1) :: pe (nE E ps0) (ps.map (·.1)) = x :: ps
    rw [pe_nE hn ps (fun y hy => h y (by simp [hy])), nE_in hn (h x (by simp))]
theorem so_mem : ∀ (ps : List (Nat × List ent)), so (ch_E ps) → ∀ x ∈ ps, so x.2
  | [], _, x, hx => by simp at hx
  | y :: ps, h, x, hx => by
    have h : so (y.2 ++ ch_E ps) := h
    obtain ⟨h1, h2, -⟩ := (so_app3 _ _).mp h
    rcases List.mem_cons.mp hx with e | e
    · rw [e]; exact h1
    · exact so_mem ps h2 x e
theorem rx_Q.new {P s : Nat} {h h' : am_H} {lv : Int32} {L : List ent} {ps : List (Nat × List ent)} {E : Nat → List ent} {now : List Nat} {mk : Nat → List Nat} (R : rR P h E now mk) (hP : P ≤ 1024) (hne : L ≠ []) (hs : so L) (hO : ∀ e ∈ L, eo e) (q : rx_Q P h h' lv L s ps) : s ∉ al now mk ∧ (∀ s0 ∈ al now mk, rs_W P h' (nE E ps) s0) ∧ rs_W P h' (nE E ps) s := by
  obtain ⟨q1, q2, q2', ⟨q3, q3'⟩, q4, q5, q6, q7, q8, q9, q10, q11, q12⟩ := q
  have hsn : s ∉ al now mk := fun hm => by
    have hc := List.count_pos_iff.mpr hm
    have hl := R.a81
    have := cnt_le (al now mk) s
    rw [R.2.2.1.1 s q3] at q3'
    exact q3' (nI_lt (a := 0) hc (by omega))
  refine ⟨hsn, fun s0 h0 => ?_, ?_⟩
  · have hne0 : s0 ≠ s := fun e => hsn (e ▸ h0)
    obtain ⟨c1, pl, c2, c3, c4, c5, c6⟩ := R.2.2.1.2 s0 h0
    have hl := (pw_len c5 c6).2
    have hout : ∀ x ∈ pl, x ∉ ps.map (·.1) := fun x hx hm => by
      obtain ⟨y, y1, y2⟩ := List.mem_map.mp hm
      obtain ⟨k, hk, ek⟩ := List.mem_iff_getElem.mp hx
      refine (q8 y y1).2 ⟨s0, c1, ?_, k, ?_, ?_⟩
      · rw [R.2.2.1.1 s0 c1]
        have := cnt_le (al now mk) s0
        have := R.a81
        exact nI_lt (a := 0) (List.count_pos_iff.mpr h0) (by omega)
      · rw [c3, nI_clamp (by omega)]; exact hk
      · rw [y2]; exact c4 k x (by rw [List.getElem?_eq_getElem hk, ek])
    have e1 : ∀ x ∈ pl, nE E ps x = E x := fun x hx => nE_out (hout x hx)
    have e2 : pe (nE E ps) pl = pe E pl := by
      unfold pe
      exact List.map_congr_left (fun x hx => by rw [e1 x hx])
    refine ⟨c1, pl, c2, ?_, fun k x hk => ?_, fun x hx => ?_, by rw [e2]; exact c6⟩
    · rw [q5]; unfold up_f; rw [if_neg hne0]; exact c3
    · have : k < pl.length := (List.getElem?_eq_some_iff.mp hk).1
      rw [q6 _ (by rcases Nat.lt_or_gt_of_ne hne0 with e | e <;> omega)]
      exact c4 k x hk
    · have w := (c5 x hx).eq (h' := h') (fun j hj => q10 x (hout x hx) j hj)
      unfold pgw
      rw [e1 x hx]
      exact w
  · have ep : pe (nE E ps) (ps.map (·.1)) = ps := pe_nE q9 ps (fun x hx => hx)
    refine ⟨q3, ps.map (·.1), ?_, ?_, fun k x hk => ?_, fun x hx => ?_, by rw [ep, q11]; exact hs⟩
    · intro e
      have : ps = [] := by simpa using e
      rw [this] at q11
      exact hne q11.symm
    · rw [q5]; unfold up_f; rw [if_pos rfl, List.length_map]
    · rw [List.getElem?_map] at hk
      cases hp : ps[k]? with
      | none => rw [hp] at hk; cases hk
      | some y =>
        rw [hp] at hk
        have : y.1 = x := by simpa using hk
        rw [← this]
        exact q7 k y hp
    · obtain ⟨y, y1, y2⟩ := List.mem_map.mp hx
      have M := (q8 y y1).1
      have sy := so_mem ps (by rw [q11]; exact hs) y y1
      have l36 := M.l36 sy
      unfold pgw
      rw [← y2, nE_in q9 y1]
      exact ⟨M.1, M.2.1, M.2.2.1, l36, M.2.2.2.2.1, fun _ => M⟩
theorem lev_up {h g : am_H} {s : Nat} {l : Nat} (e : am_I g 79 = up_f (am_I h 79) s (nI l)) (hl : l ≤ 3) : lev g s = l ∧ am_I g 79 s = nI l ∧ ∀ t, t ≠ s → lev g t = lev h t ∧ am_I g 79 t = am_I h 79 t := by
  have h1 : am_I g 79 s = nI l := by rw [e]; unfold up_f; rw [if_pos rfl]
  refine ⟨by unfold lev; rw [h1, nI_clamp (by omega)], h1, fun t ht => ?_⟩
  have h2 : am_I g 79 t = am_I h 79 t := by rw [e]; unfold up_f; rw [if_neg ht]
  exact ⟨by unfold lev; rw [h2], h2⟩
/-- a run comes first, behind some that went -/
theorem rR_add {P s l k : Nat} {h g : am_H} {E E' : Nat → List ent} {now : List Nat} {mk : Nat → List Nat} (R : rR P h E now mk) (e87 : am_I g 87 = am_I h 87) (e88 : am_I g 88 = am_I h 88) (e89 : am_I g 89 = am_I h 89) (hw : ∀ s0 ∈ al now mk, rs_W P g E' s0) (hw' : rs_W P g E' s) (hs : s ∉ al now mk) (e24 : am_I g 72 24 = nI ((now.drop k).length + 1)) (e0 : am_I g 86 0 = nI s) (e86 : ∀ i, i < (now.drop k).length → am_I g 86 (i + 1) = am_I h 86 (i + k)) (e77 : ∀ t, t < 100 → am_I g 77 t = if t = s then 1 else nI ((al now mk).count t - (now.take k).count t)) (e79 : am_I g 79 = up_f (am_I h 79) s (nI l)) (hl : l ≤ 3) (e3 : am_I g 72 3 = 0) (hlv : lv_ok 0 (l :: (now.drop k).map (lev h)) ∧ up 0 (l :: (now.drop k).map (lev h)) ≤ 6) : rR P g E' (s :: now.drop k) mk := by
  obtain ⟨l1, l2, l3⟩ := lev_up e79 hl
  have sub : ∀ t, t ∈ al (now.drop k) mk → t ∈ al now mk := fun t ht => by
    unfold al at ht ⊢
    rcases List.mem_append.mp ht with q | q
    · exact List.mem_append.mpr (Or.inl (List.mem_of_mem_drop q))
    · exact List.mem_append.mpr (Or.inr q)
  have hn : ∀ t ∈ now.drop k, t ≠ s := fun t ht e => hs (sub s (by unfold al; exact List.mem_append.mpr (Or.inl (e ▸ ht))))
  have em : (now.drop k).map (lev g) = (now.drop k).map (lev h) := List.map_congr_left (fun t ht => (l3 t (hn t ht)).1)
  have el : (s :: now.drop k).map (lev g) = l :: (now.drop k).map (lev h) := by rw [List.map_cons, l1, em]
  have ea : al (s :: now.drop k) mk = s :: al (now.drop k) mk := rfl
  have cnt : ∀ t, (al now mk).count t = (now.take k).count t + (al (now.drop k) mk).count t := fun t => by
    have := congrArg (List.count t) (List.take_append_drop k now)
    rw [List.count_append] at this
    simp only [al, List.count_append]
    omega
  refine ⟨⟨?_, fun i t hi => ?_, fun t ht => ?_, ?_, ?_⟩, ?_, ⟨fun t ht => ?_, fun t ht => ?_⟩, Or.inl e3⟩
  · rw [e24, List.length_cons]
  · cases i with
    | zero =>
      have : s = t := by simpa using hi
      rw [← this]; exact e0
    | succ i =>
      have hi' : (now.drop k)[i]? = some t := by simpa using hi
      have hlt := (List.getElem?_eq_some_iff.mp hi').1
      rw [e86 i hlt, Nat.add_comm i k]
      rw [List.getElem?_drop] at hi'
      exact R.1.2.1 _ t hi'
  · rcases List.mem_cons.mp ht with e | e
    · rw [e, l1]; exact l2
    · obtain ⟨m1, m2⟩ := l3 t (hn t e)
      rw [m1, m2]
      exact R.1.2.2.1 t (List.mem_of_mem_drop e)
  · rw [el]; exact hlv.1
  · rw [el]; exact hlv.2
  · unfold rR_m
    rw [e87, e88, e89]
    exact R.2.1
  · rw [e77 t ht, ea]
    by_cases e : t = s
    · subst e
      rw [if_pos rfl, List.count_cons_self, List.count_eq_zero_of_not_mem (fun q => hs (sub _ q))]
      rfl
    · rw [if_neg e, List.count_cons_of_ne (fun q => e q.symm), cnt t, Nat.add_sub_cancel_left]
  · rw [ea] at ht
    rcases List.mem_cons.mp ht with e | e
    · rw [e]; exact hw'
    · exact hw t (sub t e)
theorem ta_tf {n : Nat} {K : Nat → Int64} {N : Nat → Int32} {V : Nat → Int64} (T : ta_S n K N V) : so (tf K N V 0 n) ∧ ∀ e ∈ tf K N V 0 n, eo e := by
  obtain ⟨t1, t2, t3⟩ := T
  refine ⟨tf_so t2 n 0 (by omega), fun e he => ?_⟩
  obtain ⟨j, -, j2, j3⟩ := tf_mem n 0 e he
  rw [j3]
  exact t3 j (by omega)
/-- ints of the object that the invariant looks at, but the cut's -/
theorem rJ_ne {j : Nat} (h : rJ j) : j ≠ 0 ∧ j ≠ 4 ∧ j ≠ 5 ∧ j ≠ 6 ∧ j ≠ 7 ∧ j ≠ 10 ∧ j ≠ 31 ∧ j ≠ 35 ∧ j ≠ 50 := by
  unfold rJ at h
  omega
theorem rx_flushNow1 {d P : Nat} {h : am_H} (R : rI P h) (h3 : am_I h 72 3 = 0) : am_Rt nm_pr (d + 6) mi_Mo_flushNow [.ref 72] h (fun o h' => iany o ∧ rq P h h' ∧ (am_I h' 72 3 = 1 ∨ am_I h' 87 = am_I h 87)) := by
  obtain ⟨C, E, now, mk, RR⟩ := id R
  obtain ⟨hS, P4, P1024, jP, j8, -, ⟨n, i11, TA⟩, -⟩ := id C
  have n64 := TA.1
  have none_ : am_Ex nm_pr (d + 5) mt_Mo_flushNow (16, [.ref 72, .retAddr 0, .retAddr 0, .retAddr 0], [], h) (fun o h' => iany o ∧ rq P h h' ∧ (am_I h' 72 3 = 1 ∨ am_I h' 87 = am_I h 87)) := by
    refine am_go [] 2 ?_
    simp only [am_wp, am_stp, am_en, am_as, am_pad, am_nth, am_set, am_st1, am_st2, am_kl, am_kill, am_mem, am_fv, am_tk, am_wt, am_bk, Option.toList, List.cons_append, List.nil_append, Nat.reduceAdd, Nat.reduceEqDiff, Nat.reduceLeDiff, reduceIte, Nat.reduceLT, or_self, true_or, or_true, if_true, if_false, and_self, and_true, true_and, not_false_eq_true, not_true_eq_false, fd_Mo_flushNow_16, fd_Mo_flushNow_17, hS.all]
    exact ⟨⟨_, rfl⟩, rq.refl R⟩
  refine am_in' (d := d + 5) mt_Mo_flushNow 4 rfl rfl rfl ?_
  by_cases hn : n = 0
  · have z : nI n = 0 := by rw [hn]; rfl
    refine am_go [7, 16] 3 ?_
    simp only [am_wp, am_stp, am_en, am_as, am_pad, am_nth, am_set, am_st1, am_st2, am_kl, am_kill, am_mem, am_fv, am_tk, am_wt, am_bk, Option.toList, List.cons_append, List.nil_append, Nat.reduceAdd, Nat.reduceEqDiff, Nat.reduceLeDiff, reduceIte, Nat.reduceLT, or_self, true_or, or_true, if_true, if_false, and_self, and_true, true_and, not_false_eq_true, not_true_eq_false, fd_Mo_flushNow_0, fd_Mo_flushNow_1, fd_Mo_flushNow_4, hS.all, i11, z]
    exact none_
  have z : ¬ nI n = 0 := nI_ne0 (by omega) (by omega)
  refine am_go [7, 16] 3 ?_
  simp only [am_wp, am_stp, am_en, am_as, am_pad, am_nth, am_set, am_st1, am_st2, am_kl, am_kill, am_mem, am_fv, am_tk, am_wt, am_bk, Option.toList, List.cons_append, List.nil_append, Nat.reduceAdd, Nat.reduceEqDiff, Nat.reduceLeDiff, reduceIte, Nat.reduceLT, or_self, true_or, or_true, if_true, if_false, and_self, and_true, true_and, not_false_eq_true, not_true_eq_false, fd_Mo_flushNow_0, fd_Mo_flushNow_1, fd_Mo_flushNow_4, hS.all, i11, z]
  refine am_go [] 2 ?_
  simp only [am_wp, am_stp, am_en, am_as, am_pad, am_nth, am_set, am_st1, am_st2, am_kl, am_kill, am_mem, am_fv, am_tk, am_wt, am_bk, Option.toList, List.cons_append, List.nil_append, Nat.reduceAdd, Nat.reduceEqDiff, Nat.reduceLeDiff, reduceIte, Nat.reduceLT, or_self, true_or, or_true, if_true, if_false, and_self, and_true, true_and, not_false_eq_true, not_true_eq_false, fd_Mo_flushNow_7, fd_Mo_flushNow_8, hS.all]
  refine am_call (rx_level0 (d := d + 4) hS RR.ns RR.nl) (fun o h1 q => ?_)
  obtain ⟨rfl, rfl⟩ := q
  simp only [am_wp, am_stp, am_en, am_as, am_pad, am_nth, am_set, am_st1, am_st2, am_kl, am_kill, am_mem, am_fv, am_tk, am_wt, am_bk, Option.toList, List.cons_append, List.nil_append, Nat.reduceAdd, Nat.reduceEqDiff, Nat.reduceLeDiff, reduceIte, Nat.reduceLT, or_self, true_or, or_true, if_true, if_false, and_self, and_true, true_and, not_false_eq_true, not_true_eq_false]
  have u6 := RR.1.2.2.2.2
  by_cases h6 : up 0 (now.map (lev h1)) = 6
  · have e6 : nI (up 0 (now.map (lev h1))) = 6 := by rw [h6]; rfl
    refine am_go [16, 18] 2 ?_
    simp only [am_wp, am_stp, am_en, am_as, am_pad, am_nth, am_set, am_st1, am_st2, am_kl, am_kill, am_mem, am_fv, am_tk, am_wt, am_bk, Option.toList, List.cons_append, List.nil_append, Nat.reduceAdd, Nat.reduceEqDiff, Nat.reduceLeDiff, reduceIte, Nat.reduceLT, or_self, true_or, or_true, if_true, if_false, and_self, and_true, true_and, not_false_eq_true, not_true_eq_false, fd_Mo_flushNow_11, fd_Mo_flushNow_13, hS.all, e6]
    exact none_
  have e6 : ¬ nI (up 0 (now.map (lev h1))) = 6 := fun q => h6 (wnI_inj (b := 6) (by omega) (by decide) q)
  refine am_go [16, 18] 2 ?_
  simp only [am_wp, am_stp, am_en, am_as, am_pad, am_nth, am_set, am_st1, am_st2, am_kl, am_kill, am_mem, am_fv, am_tk, am_wt, am_bk, Option.toList, List.cons_append, List.nil_append, Nat.reduceAdd, Nat.reduceEqDiff, Nat.reduceLeDiff, reduceIte, Nat.reduceLT, or_self, true_or, or_true, if_true, if_false, and_self, and_true, true_and, not_false_eq_true, not_true_eq_false, fd_Mo_flushNow_11, fd_Mo_flushNow_13, hS.all, e6]
  obtain ⟨hT, ho⟩ := ta_tf TA
  generalize hTd : tf (am_L h1 74) (am_I h1 75) (am_L h1 76) 0 n = TL at *
  have hTl : TL.length = n := by rw [← hTd]; exact tf_len _ _ _ _ _
  refine am_go [28] 6 ?_
  simp only [am_wp, am_stp, am_en, am_as, am_pad, am_nth, am_set, am_st1, am_st2, am_kl, am_kill, am_mem, am_fv, am_tk, am_wt, am_bk, Option.toList, List.cons_append, List.nil_append, Nat.reduceAdd, Nat.reduceEqDiff, Nat.reduceLeDiff, reduceIte, Nat.reduceLT, or_self, true_or, or_true, if_true, if_false, and_self, and_true, true_and, not_false_eq_true, not_true_eq_false, fd_Mo_flushNow_18, fd_Mo_flushNow_19, fd_Mo_flushNow_20, fd_Mo_flushNow_23, fd_Mo_flushNow_26, fd_Mo_flushNow_27, hS.1, i11]
  have F1 : am_fi [72] h1 (am_sI h1 72 31 (nI n)) := am_fi.refl.sI (by simp)
  have v31 : am_I (am_sI h1 72 31 (nI n)) 72 31 = nI n := by simp only [hx_nx_sI, hx_ce_sI, hx_sl_sI, hx_kd_sI, hx_ln_sI, hx_I_sI, hx_L_sI, hx_R_sI, hx_nx_sL, hx_ce_sL, hx_sl_sL, hx_kd_sL, hx_ln_sL, hx_I_sL, hx_L_sL, hx_R_sL, hx_nx_sR, hx_ce_sR, hx_sl_sR, hx_kd_sR, hx_ln_sR, hx_I_sR, hx_L_sR, hx_R_sR, hx_nx_al, hx_ce_al, hx_sl_al, hx_kd_al, hx_ln_al, hx_I_al, hx_L_al, hx_R_al, hx_nx_row, hx_ce_row, hx_sl_row, hx_kd_row, hx_ln_row, hx_I_row, hx_L_row, hx_R_row, hx_nx_mk, hx_kd_mk, hx_ln_mk, hx_I_mk, hx_L_mk, hx_R_mk, am_wp, am_stp, am_en, am_as, am_pad, am_nth, am_set, am_st1, am_st2, am_kl, am_kill, am_mem, am_fv, am_tk, am_wt, am_bk, Option.toList, List.cons_append, List.nil_append, Nat.reduceAdd, Nat.reduceEqDiff, Nat.reduceLeDiff, reduceIte, Nat.reduceLT, or_self, true_or, or_true, if_true, if_false, and_self, and_true, true_and, not_false_eq_true, not_true_eq_false]
  have vj : ∀ j, j ≠ 31 → am_I (am_sI h1 72 31 (nI n)) 72 j = am_I h1 72 j := fun j hj => by simp only [hx_nx_sI, hx_ce_sI, hx_sl_sI, hx_kd_sI, hx_ln_sI, hx_I_sI, hx_L_sI, hx_R_sI, hx_nx_sL, hx_ce_sL, hx_sl_sL, hx_kd_sL, hx_ln_sL, hx_I_sL, hx_L_sL, hx_R_sL, hx_nx_sR, hx_ce_sR, hx_sl_sR, hx_kd_sR, hx_ln_sR, hx_I_sR, hx_L_sR, hx_R_sR, hx_nx_al, hx_ce_al, hx_sl_al, hx_kd_al, hx_ln_al, hx_I_al, hx_L_al, hx_R_al, hx_nx_row, hx_ce_row, hx_sl_row, hx_kd_row, hx_ln_row, hx_I_row, hx_L_row, hx_R_row, hx_nx_mk, hx_kd_mk, hx_ln_mk, hx_I_mk, hx_L_mk, hx_R_mk, am_wp, am_stp, am_en, am_as, am_pad, am_nth, am_set, am_st1, am_st2, am_kl, am_kill, am_mem, am_fv, am_tk, am_wt, am_bk, Option.toList, List.cons_append, List.nil_append, Nat.reduceAdd, Nat.reduceEqDiff, Nat.reduceLeDiff, reduceIte, Nat.reduceLT, or_self, true_or, or_true, if_true, if_false, and_self, and_true, true_and, not_false_eq_true, not_true_eq_false, hj]
  generalize am_sI h1 72 31 (nI n) = h2 at F1 v31 vj ⊢
  have S2 := hS.fi F1
  have hTd2 : tf (am_L h2 74) (am_I h2 75) (am_L h2 76) 0 n = TL := by
    rw [F1.2.2.2.2.2.2.2 74 (by simp), F1.2.2.2.2.2.2.1 75 (by simp), F1.2.2.2.2.2.2.2 76 (by simp)]
    exact hTd
  refine l2_ft_copy S2 n64 v31 (fun g F2 T2 => ?_) n 0 h2 (by omega) am_fi.refl (fun i e he => by simp at he)
  rw [hTd2] at T2
  have F12 : am_fi [72, 92, 93, 94] h1 g := (F1.sub (by simp)).trans (F2.sub (by simp))
  have i72 : am_I g 72 = am_I h2 72 := F2.2.2.2.2.2.2.1 72 (by simp)
  have g72 : ∀ j, rJ j → am_I g 72 j = am_I h1 72 j := fun j hj => by rw [i72, vj j (rJ_ne hj).2.2.2.2.2.2.1]
  have Cg : rC P g := C.fr F12 (by simp [rB]) g72
  have Rg : rR P g E now mk := RR.fr P1024 F12 (by simp [rB]) g72
  have qg : rq P h1 g := rq.fr R F12 (by simp [rB]) g72
  have Kyg : ky_S g TL := ⟨Cg.1, by rw [i72, v31, hTl], by omega, T2⟩
  have hne : TL ≠ [] := fun q => by rw [q] at hTl; simp at hTl; omega
  have Sg := Cg.1
  refine am_go [] 3 ?_
  simp only [am_wp, am_stp, am_en, am_as, am_pad, am_nth, am_set, am_st1, am_st2, am_kl, am_kill, am_mem, am_fv, am_tk, am_wt, am_bk, Option.toList, List.cons_append, List.nil_append, Nat.reduceAdd, Nat.reduceEqDiff, Nat.reduceLeDiff, reduceIte, Nat.reduceLT, or_self, true_or, or_true, if_true, if_false, and_self, and_true, true_and, not_false_eq_true, not_true_eq_false, fd_Mo_flushNow_78, fd_Mo_flushNow_79, fd_Mo_flushNow_80, Sg.all]
  refine am_call (rx_writeRun (d := d) (lv := nI 0) Cg Kyg hne ho (Rg.W P1024) Rg.slot) (fun o g1 q => ?_)
  rcases q with ⟨s, ps, rfl, Q⟩ | ⟨rfl, F3⟩ | ⟨rfl, q1, q2⟩
  · obtain ⟨N1, N2, N3⟩ := Q.new Rg P1024 hne hT ho
    obtain ⟨q1, q2, q2', ⟨q3, q3'⟩, q4, q5, q6, q7, q8, q9, q10, q11, q12⟩ := id Q
    have S1 := Sg.fi q1
    have pos : ¬ nI s < 0 := nI_pos (by omega)
    have c24 : am_I g1 72 24 = nI now.length := by rw [q2 24 (by decide) (by decide)]; exact Rg.1.1
    have n9 := RR.n9
    have hl : now.length < 9 := by
      have := lv_len0 _ RR.1.2.2.2.1
      rw [List.length_map] at this
      omega
    simp only [am_wp, am_stp, am_en, am_as, am_pad, am_nth, am_set, am_st1, am_st2, am_kl, am_kill, am_mem, am_fv, am_tk, am_wt, am_bk, Option.toList, List.cons_append, List.nil_append, Nat.reduceAdd, Nat.reduceEqDiff, Nat.reduceLeDiff, reduceIte, Nat.reduceLT, or_self, true_or, or_true, if_true, if_false, and_self, and_true, true_and, not_false_eq_true, not_true_eq_false]
    refine am_go [88, 100] 3 ?_
    simp only [am_wp, am_stp, am_en, am_as, am_pad, am_nth, am_set, am_st1, am_st2, am_kl, am_kill, am_mem, am_fv, am_tk, am_wt, am_bk, Option.toList, List.cons_append, List.nil_append, Nat.reduceAdd, Nat.reduceEqDiff, Nat.reduceLeDiff, reduceIte, Nat.reduceLT, or_self, true_or, or_true, if_true, if_false, and_self, and_true, true_and, not_false_eq_true, not_true_eq_false, fd_Mo_flushNow_83, fd_Mo_flushNow_84, fd_Mo_flushNow_85, S1.all, pos]
    refine am_go [105] 3 ?_
    simp only [am_wp, am_stp, am_en, am_as, am_pad, am_nth, am_set, am_st1, am_st2, am_kl, am_kill, am_mem, am_fv, am_tk, am_wt, am_bk, Option.toList, List.cons_append, List.nil_append, Nat.reduceAdd, Nat.reduceEqDiff, Nat.reduceLeDiff, reduceIte, Nat.reduceLT, or_self, true_or, or_true, if_true, if_false, and_self, and_true, true_and, not_false_eq_true, not_true_eq_false, fd_Mo_flushNow_100, fd_Mo_flushNow_101, fd_Mo_flushNow_104, S1.1, c24]
    refine l2_now_shift S1 hl (fun g2 F4 e86 => ?_) now.length g1 (Nat.le_refl _) am_fi.refl (sh_n _ _).symm
    have S4 := S1.fi F4
    obtain ⟨k72, ⟨r15, k77, n77⟩, ⟨r16, k78, n78⟩, -, -, -, -, -, -, -, ⟨r25, k86, n86⟩, -⟩ := mo_sl_ S4
    have c24' : am_I g2 72 24 = nI now.length := by rw [F4.2.2.2.2.2.2.1 72 (by simp)]; exact c24
    have i0 : ((0 : Int32) < 0 ∨ 9 ≤ (0 : Int32).toNatClampNeg) = False := by decide
    have c0 : (0 : Int32).toNatClampNeg = 0 := by decide
    have iS := am_inb (c := s) (N := 100) (by omega) (by omega)
    have qS : (nI s).toNatClampNeg = s := nI_clamp (by omega)
    refine am_go [] 5 ?_
    simp only [am_wp, am_stp, am_en, am_as, am_pad, am_nth, am_set, am_st1, am_st2, am_kl, am_kill, am_mem, am_fv, am_tk, am_wt, am_bk, Option.toList, List.cons_append, List.nil_append, Nat.reduceAdd, Nat.reduceEqDiff, Nat.reduceLeDiff, reduceIte, Nat.reduceLT, or_self, true_or, or_true, if_true, if_false, and_self, and_true, true_and, not_false_eq_true, not_true_eq_false, fd_Mo_flushNow_129, fd_Mo_flushNow_130, fd_Mo_flushNow_133, fd_Mo_flushNow_134, fd_Mo_flushNow_135, k72, r25, k86, n86, i0]
    rw [c0]
    refine am_go [] 11 ?_
    simp only [am_wp, am_stp, am_en, am_as, am_pad, am_nth, am_set, am_st1, am_st2, am_kl, am_kill, am_mem, am_fv, am_tk, am_wt, am_bk, Option.toList, List.cons_append, List.nil_append, Nat.reduceAdd, Nat.reduceEqDiff, Nat.reduceLeDiff, reduceIte, Nat.reduceLT, or_self, true_or, or_true, if_true, if_false, and_self, and_true, true_and, not_false_eq_true, not_true_eq_false, fd_Mo_flushNow_136, fd_Mo_flushNow_137, fd_Mo_flushNow_138, fd_Mo_flushNow_141, fd_Mo_flushNow_142, fd_Mo_flushNow_143, fd_Mo_flushNow_146, fd_Mo_flushNow_147, fd_Mo_flushNow_150, fd_Mo_flushNow_151, fd_Mo_flushNow_152, hx_nx_sI, hx_ce_sI, hx_sl_sI, hx_kd_sI, hx_ln_sI, hx_I_sI, hx_L_sI, hx_R_sI, hx_nx_sL, hx_ce_sL, hx_sl_sL, hx_kd_sL, hx_ln_sL, hx_I_sL, hx_L_sL, hx_R_sL, hx_nx_sR, hx_ce_sR, hx_sl_sR, hx_kd_sR, hx_ln_sR, hx_I_sR, hx_L_sR, hx_R_sR, hx_nx_al, hx_ce_al, hx_sl_al, hx_kd_al, hx_ln_al, hx_I_al, hx_L_al, hx_R_al, hx_nx_row, hx_ce_row, hx_sl_row, hx_kd_row, hx_ln_row, hx_I_row, hx_L_row, hx_R_row, hx_nx_mk, hx_kd_mk, hx_ln_mk, hx_I_mk, hx_L_mk, hx_R_mk, k72, c24', r15, k77, n77, iS, qS, nI_1]
    refine am_go [] 9 ?_
    simp only [am_wp, am_stp, am_en, am_as, am_pad, am_nth, am_set, am_st1, am_st2, am_kl, am_kill, am_mem, am_fv, am_tk, am_wt, am_bk, Option.toList, List.cons_append, List.nil_append, Nat.reduceAdd, Nat.reduceEqDiff, Nat.reduceLeDiff, reduceIte, Nat.reduceLT, or_self, true_or, or_true, if_true, if_false, and_self, and_true, true_and, not_false_eq_true, not_true_eq_false, fd_Mo_flushNow_153, fd_Mo_flushNow_154, fd_Mo_flushNow_155, fd_Mo_flushNow_158, fd_Mo_flushNow_159, fd_Mo_flushNow_160, fd_Mo_flushNow_163, fd_Mo_flushNow_164, fd_Mo_flushNow_165, hx_kd_sI, k72]
    have F5 : am_fi [72, 77, 86] g2 (am_sI (am_sI (am_sI (am_sI (am_sI g2 86 0 (nI s)) 72 24 (nI (now.length + 1))) 77 s 1) 72 5 (am_I (am_sI (am_sI (am_sI g2 86 0 (nI s)) 72 24 (nI (now.length + 1))) 77 s 1) 72 5 + 1)) 72 11 0) := ((((am_fi.refl.sI (by simp)).sI (by simp)).sI (by simp)).sI (by simp)).sI (by simp)
    have w24 : am_I (am_sI (am_sI (am_sI (am_sI (am_sI g2 86 0 (nI s)) 72 24 (nI (now.length + 1))) 77 s 1) 72 5 (am_I (am_sI (am_sI (am_sI g2 86 0 (nI s)) 72 24 (nI (now.length + 1))) 77 s 1) 72 5 + 1)) 72 11 0) 72 24 = nI (now.length + 1) := by simp only [hx_nx_sI, hx_ce_sI, hx_sl_sI, hx_kd_sI, hx_ln_sI, hx_I_sI, hx_L_sI, hx_R_sI, hx_nx_sL, hx_ce_sL, hx_sl_sL, hx_kd_sL, hx_ln_sL, hx_I_sL, hx_L_sL, hx_R_sL, hx_nx_sR, hx_ce_sR, hx_sl_sR, hx_kd_sR, hx_ln_sR, hx_I_sR, hx_L_sR, hx_R_sR, hx_nx_al, hx_ce_al, hx_sl_al, hx_kd_al, hx_ln_al, hx_I_al, hx_L_al, hx_R_al, hx_nx_row, hx_ce_row, hx_sl_row, hx_kd_row, hx_ln_row, hx_I_row, hx_L_row, hx_R_row, hx_nx_mk, hx_kd_mk, hx_ln_mk, hx_I_mk, hx_L_mk, hx_R_mk, am_wp, am_stp, am_en, am_as, am_pad, am_nth, am_set, am_st1, am_st2, am_kl, am_kill, am_mem, am_fv, am_tk, am_wt, am_bk, Option.toList, List.cons_append, List.nil_append, Nat.reduceAdd, Nat.reduceEqDiff, Nat.reduceLeDiff, reduceIte, Nat.reduceLT, or_self, true_or, or_true, if_true, if_false, and_self, and_true, true_and, not_false_eq_true, not_true_eq_false]
    have w11 : am_I (am_sI (am_sI (am_sI (am_sI (am_sI g2 86 0 (nI s)) 72 24 (nI (now.length + 1))) 77 s 1) 72 5 (am_I (am_sI (am_sI (am_sI g2 86 0 (nI s)) 72 24 (nI (now.length + 1))) 77 s 1) 72 5 + 1)) 72 11 0) 72 11 = nI 0 := by simp only [hx_nx_sI, hx_ce_sI, hx_sl_sI, hx_kd_sI, hx_ln_sI, hx_I_sI, hx_L_sI, hx_R_sI, hx_nx_sL, hx_ce_sL, hx_sl_sL, hx_kd_sL, hx_ln_sL, hx_I_sL, hx_L_sL, hx_R_sL, hx_nx_sR, hx_ce_sR, hx_sl_sR, hx_kd_sR, hx_ln_sR, hx_I_sR, hx_L_sR, hx_R_sR, hx_nx_al, hx_ce_al, hx_sl_al, hx_kd_al, hx_ln_al, hx_I_al, hx_L_al, hx_R_al, hx_nx_row, hx_ce_row, hx_sl_row, hx_kd_row, hx_ln_row, hx_I_row, hx_L_row, hx_R_row, hx_nx_mk, hx_kd_mk, hx_ln_mk, hx_I_mk, hx_L_mk, hx_R_mk, am_wp, am_stp, am_en, am_as, am_pad, am_nth, am_set, am_st1, am_st2, am_kl, am_kill, am_mem, am_fv, am_tk, am_wt, am_bk, Option.toList, List.cons_append, List.nil_append, Nat.reduceAdd, Nat.reduceEqDiff, Nat.reduceLeDiff, reduceIte, Nat.reduceLT, or_self, true_or, or_true, if_true, if_false, and_self, and_true, true_and, not_false_eq_true, not_true_eq_false]; rfl
    have wj : ∀ j, j ≠ 24 → j ≠ 5 → j ≠ 11 → am_I (am_sI (am_sI (am_sI (am_sI (am_sI g2 86 0 (nI s)) 72 24 (nI (now.length + 1))) 77 s 1) 72 5 (am_I (am_sI (am_sI (am_sI g2 86 0 (nI s)) 72 24 (nI (now.length + 1))) 77 s 1) 72 5 + 1)) 72 11 0) 72 j = am_I g2 72 j := fun j h1 h2 h3 => by simp only [hx_nx_sI, hx_ce_sI, hx_sl_sI, hx_kd_sI, hx_ln_sI, hx_I_sI, hx_L_sI, hx_R_sI, hx_nx_sL, hx_ce_sL, hx_sl_sL, hx_kd_sL, hx_ln_sL, hx_I_sL, hx_L_sL, hx_R_sL, hx_nx_sR, hx_ce_sR, hx_sl_sR, hx_kd_sR, hx_ln_sR, hx_I_sR, hx_L_sR, hx_R_sR, hx_nx_al, hx_ce_al, hx_sl_al, hx_kd_al, hx_ln_al, hx_I_al, hx_L_al, hx_R_al, hx_nx_row, hx_ce_row, hx_sl_row, hx_kd_row, hx_ln_row, hx_I_row, hx_L_row, hx_R_row, hx_nx_mk, hx_kd_mk, hx_ln_mk, hx_I_mk, hx_L_mk, hx_R_mk, am_wp, am_stp, am_en, am_as, am_pad, am_nth, am_set, am_st1, am_st2, am_kl, am_kill, am_mem, am_fv, am_tk, am_wt, am_bk, Option.toList, List.cons_append, List.nil_append, Nat.reduceAdd, Nat.reduceEqDiff, Nat.reduceLeDiff, reduceIte, Nat.reduceLT, or_self, true_or, or_true, if_true, if_false, and_self, and_true, true_and, not_false_eq_true, not_true_eq_false, h1, h2, h3]
    have w77 : am_I (am_sI (am_sI (am_sI (am_sI (am_sI g2 86 0 (nI s)) 72 24 (nI (now.length + 1))) 77 s 1) 72 5 (am_I (am_sI (am_sI (am_sI g2 86 0 (nI s)) 72 24 (nI (now.length + 1))) 77 s 1) 72 5 + 1)) 72 11 0) 77 = up_f (am_I g2 77) s 1 := by funext j; unfold up_f; simp only [hx_nx_sI, hx_ce_sI, hx_sl_sI, hx_kd_sI, hx_ln_sI, hx_I_sI, hx_L_sI, hx_R_sI, hx_nx_sL, hx_ce_sL, hx_sl_sL, hx_kd_sL, hx_ln_sL, hx_I_sL, hx_L_sL, hx_R_sL, hx_nx_sR, hx_ce_sR, hx_sl_sR, hx_kd_sR, hx_ln_sR, hx_I_sR, hx_L_sR, hx_R_sR, hx_nx_al, hx_ce_al, hx_sl_al, hx_kd_al, hx_ln_al, hx_I_al, hx_L_al, hx_R_al, hx_nx_row, hx_ce_row, hx_sl_row, hx_kd_row, hx_ln_row, hx_I_row, hx_L_row, hx_R_row, hx_nx_mk, hx_kd_mk, hx_ln_mk, hx_I_mk, hx_L_mk, hx_R_mk, am_wp, am_stp, am_en, am_as, am_pad, am_nth, am_set, am_st1, am_st2, am_kl, am_kill, am_mem, am_fv, am_tk, am_wt, am_bk, Option.toList, List.cons_append, List.nil_append, Nat.reduceAdd, Nat.reduceEqDiff, Nat.reduceLeDiff, reduceIte, Nat.reduceLT, or_self, true_or, or_true, if_true, if_false, and_self, and_true, true_and, not_false_eq_true, not_true_eq_false]
    have w86 : am_I (am_sI (am_sI (am_sI (am_sI (am_sI g2 86 0 (nI s)) 72 24 (nI (now.length + 1))) 77 s 1) 72 5 (am_I (am_sI (am_sI (am_sI g2 86 0 (nI s)) 72 24 (nI (now.length + 1))) 77 s 1) 72 5 + 1)) 72 11 0) 86 = up_f (am_I g2 86) 0 (nI s) := by funext j; unfold up_f; simp only [hx_nx_sI, hx_ce_sI, hx_sl_sI, hx_kd_sI, hx_ln_sI, hx_I_sI, hx_L_sI, hx_R_sI, hx_nx_sL, hx_ce_sL, hx_sl_sL, hx_kd_sL, hx_ln_sL, hx_I_sL, hx_L_sL, hx_R_sL, hx_nx_sR, hx_ce_sR, hx_sl_sR, hx_kd_sR, hx_ln_sR, hx_I_sR, hx_L_sR, hx_R_sR, hx_nx_al, hx_ce_al, hx_sl_al, hx_kd_al, hx_ln_al, hx_I_al, hx_L_al, hx_R_al, hx_nx_row, hx_ce_row, hx_sl_row, hx_kd_row, hx_ln_row, hx_I_row, hx_L_row, hx_R_row, hx_nx_mk, hx_kd_mk, hx_ln_mk, hx_I_mk, hx_L_mk, hx_R_mk, am_wp, am_stp, am_en, am_as, am_pad, am_nth, am_set, am_st1, am_st2, am_kl, am_kill, am_mem, am_fv, am_tk, am_wt, am_bk, Option.toList, List.cons_append, List.nil_append, Nat.reduceAdd, Nat.reduceEqDiff, Nat.reduceLeDiff, reduceIte, Nat.reduceLT, or_self, true_or, or_true, if_true, if_false, and_self, and_true, true_and, not_false_eq_true, not_true_eq_false]
    generalize am_sI (am_sI (am_sI (am_sI (am_sI g2 86 0 (nI s)) 72 24 (nI (now.length + 1))) 77 s 1) 72 5 (am_I (am_sI (am_sI (am_sI g2 86 0 (nI s)) 72 24 (nI (now.length + 1))) 77 s 1) 72 5 + 1)) 72 11 0 = g3 at F5 w24 w11 wj w77 w86 ⊢
    have F15 : am_fi [72, 77, 86] g1 g3 := (F4.sub (by simp)).trans F5
    have w := F15.2.2.2.2.2.2.1
    have S5 := S1.fi F15
    have w77' : am_I g3 77 = up_f (am_I g1 77) s 1 := by rw [w77, F4.2.2.2.2.2.2.1 77 (by simp)]
    have w86' : am_I g3 86 = up_f (sh_f (am_I g1 86) 0 now.length) 0 (nI s) := by rw [w86, e86]
    have w3j : ∀ j, j ≠ 24 → j ≠ 5 → j ≠ 11 → j ≠ 7 → j ≠ 8 → am_I g3 72 j = am_I g 72 j := fun j a1 a2 a3 a4 a5 => by rw [wj j a1 a2 a3, F4.2.2.2.2.2.2.1 72 (by simp), q2 j a4 a5]
    have C3 : rC P g3 := by
      obtain ⟨-, -, -, x4, ⟨x5a, x5b, -, x5d, -, x5f⟩, x6, -⟩ := id Cg
      obtain ⟨⟨a, a1, a2⟩, qB⟩ := q2'
      refine ⟨S5, P4, P1024, ?_, ⟨a, x5b, a1, x5d, ?_, ?_⟩, ?_, ⟨0, w11, ⟨Nat.zero_le _, fun i j _ hj => by omega, fun i hi => by omega⟩⟩, qB.eq (w 73 (by decide))⟩
      · rw [w3j 1 (by decide) (by decide) (by decide) (by decide) (by decide)]; exact x4
      · rw [wj 8 (by decide) (by decide) (by decide), F4.2.2.2.2.2.2.1 72 (by simp)]; exact a2
      · rw [w3j 9 (by decide) (by decide) (by decide) (by decide) (by decide)]; exact x5f
      · rw [w3j 45 (by decide) (by decide) (by decide) (by decide) (by decide)]; exact x6
    have mv : ∀ s0, rs_W P g1 (nE E ps) s0 → rs_W P g3 (nE E ps) s0 := fun s0 c => c.eq P1024 (by rw [w 80 (by decide)]) (fun k _ => by rw [w 82 (by decide)]) (fun x hx => hx.eq (fun j _ => by rw [w 73 (by decide)]))
    have R3 : rR P g3 (nE E ps) (s :: now.drop 0) mk := by
      refine rR_add (l := 0) Rg ?_ ?_ ?_ (fun s0 h0 => mv s0 (N2 s0 h0)) (mv s N3) N1 ?_ ?_ (fun i hi => ?_) (fun t ht => ?_) ?_ (by omega) ?_ ⟨?_, ?_⟩
      · rw [w 87 (by decide), q1.2.2.2.2.2.2.1 87 (by decide)]
      · rw [w 88 (by decide), q1.2.2.2.2.2.2.1 88 (by decide)]
      · rw [w 89 (by decide), q1.2.2.2.2.2.2.1 89 (by decide)]
      · rw [w24, List.drop_zero]
      · rw [w86']; unfold up_f; rw [if_pos rfl]
      · rw [List.drop_zero] at hi
        rw [w86', ← q1.2.2.2.2.2.2.1 86 (by decide)]
        unfold up_f sh_f
        rw [if_neg (by omega), if_pos (by omega)]
        rfl
      · rw [w77', q1.2.2.2.2.2.2.1 77 (by decide)]
        unfold up_f
        by_cases e : t = s
        · rw [if_pos e, if_pos e]
        · rw [if_neg e, if_neg e, Rg.2.2.1.1 t ht]
          rfl
      · rw [w 79 (by decide)]; exact q4
      · rw [w3j 3 (by decide) (by decide) (by decide) (by decide) (by decide), g72 3 (by simp [rJ])]; exact h3
      · rw [List.drop_zero]
        exact ⟨Or.inl ⟨rfl, rfl⟩, by omega, Rg.1.2.2.2.1⟩
      · rw [List.drop_zero]
        have e79 : am_I g 79 = am_I h1 79 := F12.2.2.2.2.2.2.1 79 (by decide)
        have em : now.map (lev g) = now.map (lev h1) := List.map_congr_left (fun t _ => by unfold lev; rw [e79])
        rw [em]
        show (if 0 ≤ 0 then up 0 (now.map (lev h1)) + 1 else 0) ≤ 6
        rw [if_pos (Nat.le_refl _)]
        omega
    have qF : am_fi rA h1 g3 := (qg.2.trans (q1.sub (by decide))).trans (F15.sub (by decide))
    refine am_go [175] 5 ?_
    simp only [am_wp, am_stp, am_en, am_as, am_pad, am_nth, am_set, am_st1, am_st2, am_kl, am_kill, am_mem, am_fv, am_tk, am_wt, am_bk, Option.toList, List.cons_append, List.nil_append, Nat.reduceAdd, Nat.reduceEqDiff, Nat.reduceLeDiff, reduceIte, Nat.reduceLT, or_self, true_or, or_true, if_true, if_false, and_self, and_true, true_and, not_false_eq_true, not_true_eq_false, fd_Mo_flushNow_168, fd_Mo_flushNow_169, fd_Mo_flushNow_172, fd_Mo_flushNow_173, fd_Mo_flushNow_174, S5.all, iS, qS]
    refine am_go [] 5 ?_
    simp only [am_wp, am_stp, am_en, am_as, am_pad, am_nth, am_set, am_st1, am_st2, am_kl, am_kill, am_mem, am_fv, am_tk, am_wt, am_bk, Option.toList, List.cons_append, List.nil_append, Nat.reduceAdd, Nat.reduceEqDiff, Nat.reduceLeDiff, reduceIte, Nat.reduceLT, or_self, true_or, or_true, if_true, if_false, and_self, and_true, true_and, not_false_eq_true, not_true_eq_false, fd_Mo_flushNow_175, fd_Mo_flushNow_176, fd_Mo_flushNow_179, fd_Mo_flushNow_180, fd_Mo_flushNow_181, S5.all]
    refine am_call (rx_writeHead (d := d + 2) C3 R3.ns) (fun o g4 z => ?_)
    rcases z with ⟨rfl, z1⟩ | ⟨rfl, z1, z2⟩
    · have one0 : ¬ (1 : Int32) = 0 := by decide
      simp only [am_wp, am_stp, am_en, am_as, am_pad, am_nth, am_set, am_st1, am_st2, am_kl, am_kill, am_mem, am_fv, am_tk, am_wt, am_bk, Option.toList, List.cons_append, List.nil_append, Nat.reduceAdd, Nat.reduceEqDiff, Nat.reduceLeDiff, reduceIte, Nat.reduceLT, or_self, true_or, or_true, if_true, if_false, and_self, and_true, true_and, not_false_eq_true, not_true_eq_false]
      have S6 := S5.fi z1.1
      refine am_go [187, 194] 1 ?_
      simp only [am_wp, am_stp, am_en, am_as, am_pad, am_nth, am_set, am_st1, am_st2, am_kl, am_kill, am_mem, am_fv, am_tk, am_wt, am_bk, Option.toList, List.cons_append, List.nil_append, Nat.reduceAdd, Nat.reduceEqDiff, Nat.reduceLeDiff, reduceIte, Nat.reduceLT, or_self, true_or, or_true, if_true, if_false, and_self, and_true, true_and, not_false_eq_true, not_true_eq_false, fd_Mo_flushNow_184, S6.all, one0]
      refine am_go [] 2 ?_
      simp only [am_wp, am_stp, am_en, am_as, am_pad, am_nth, am_set, am_st1, am_st2, am_kl, am_kill, am_mem, am_fv, am_tk, am_wt, am_bk, Option.toList, List.cons_append, List.nil_append, Nat.reduceAdd, Nat.reduceEqDiff, Nat.reduceLeDiff, reduceIte, Nat.reduceLT, or_self, true_or, or_true, if_true, if_false, and_self, and_true, true_and, not_false_eq_true, not_true_eq_false, fd_Mo_flushNow_194, fd_Mo_flushNow_195, S6.all]
      exact ⟨⟨_, rfl⟩, ⟨⟨C3.hw z1, nE E ps, _, mk, R3.hw P1024 z1⟩, qF.trans (z1.1.sub (by decide))⟩, Or.inr (by rw [z1.1.2.2.2.2.2.2.1 87 (by decide), w 87 (by decide), q1.2.2.2.2.2.2.1 87 (by decide), F12.2.2.2.2.2.2.1 87 (by decide)])⟩
    · simp only [am_wp, am_stp, am_en, am_as, am_pad, am_nth, am_set, am_st1, am_st2, am_kl, am_kill, am_mem, am_fv, am_tk, am_wt, am_bk, Option.toList, List.cons_append, List.nil_append, Nat.reduceAdd, Nat.reduceEqDiff, Nat.reduceLeDiff, reduceIte, Nat.reduceLT, or_self, true_or, or_true, if_true, if_false, and_self, and_true, true_and, not_false_eq_true, not_true_eq_false]
      have S6 := S5.fi z1.2
      refine am_go [187, 194] 1 ?_
      simp only [am_wp, am_stp, am_en, am_as, am_pad, am_nth, am_set, am_st1, am_st2, am_kl, am_kill, am_mem, am_fv, am_tk, am_wt, am_bk, Option.toList, List.cons_append, List.nil_append, Nat.reduceAdd, Nat.reduceEqDiff, Nat.reduceLeDiff, reduceIte, Nat.reduceLT, or_self, true_or, or_true, if_true, if_false, and_self, and_true, true_and, not_false_eq_true, not_true_eq_false, fd_Mo_flushNow_184, S6.all]
      refine am_go [] 5 ?_
      simp only [am_wp, am_stp, am_en, am_as, am_pad, am_nth, am_set, am_st1, am_st2, am_kl, am_kill, am_mem, am_fv, am_tk, am_wt, am_bk, Option.toList, List.cons_append, List.nil_append, Nat.reduceAdd, Nat.reduceEqDiff, Nat.reduceLeDiff, reduceIte, Nat.reduceLT, or_self, true_or, or_true, if_true, if_false, and_self, and_true, true_and, not_false_eq_true, not_true_eq_false, fd_Mo_flushNow_187, fd_Mo_flushNow_188, fd_Mo_flushNow_189, fd_Mo_flushNow_192, fd_Mo_flushNow_193, S6.all]
      have q5 := z1.s (j := 4) (v := am_I g3 72 4) (by unfold rJ; omega)
      exact ⟨⟨_, rfl⟩, ⟨q5.1, qF.trans q5.2⟩, Or.inl (by rw [hx_I_sI, if_pos rfl, if_neg (by decide)]; exact z2)⟩
  · have neg : (-1 : Int32) < 0 := by decide
    have n12 : ¬ ((-1 : Int32) = -2) := by decide
    have S1 := Sg.fi F3
    simp only [am_wp, am_stp, am_en, am_as, am_pad, am_nth, am_set, am_st1, am_st2, am_kl, am_kill, am_mem, am_fv, am_tk, am_wt, am_bk, Option.toList, List.cons_append, List.nil_append, Nat.reduceAdd, Nat.reduceEqDiff, Nat.reduceLeDiff, reduceIte, Nat.reduceLT, or_self, true_or, or_true, if_true, if_false, and_self, and_true, true_and, not_false_eq_true, not_true_eq_false]
    refine am_go [88, 100] 3 ?_
    simp only [am_wp, am_stp, am_en, am_as, am_pad, am_nth, am_set, am_st1, am_st2, am_kl, am_kill, am_mem, am_fv, am_tk, am_wt, am_bk, Option.toList, List.cons_append, List.nil_append, Nat.reduceAdd, Nat.reduceEqDiff, Nat.reduceLeDiff, reduceIte, Nat.reduceLT, or_self, true_or, or_true, if_true, if_false, and_self, and_true, true_and, not_false_eq_true, not_true_eq_false, fd_Mo_flushNow_83, fd_Mo_flushNow_84, fd_Mo_flushNow_85, S1.all, neg]
    refine am_go [94, 98] 3 ?_
    simp only [am_wp, am_stp, am_en, am_as, am_pad, am_nth, am_set, am_st1, am_st2, am_kl, am_kill, am_mem, am_fv, am_tk, am_wt, am_bk, Option.toList, List.cons_append, List.nil_append, Nat.reduceAdd, Nat.reduceEqDiff, Nat.reduceLeDiff, reduceIte, Nat.reduceLT, or_self, true_or, or_true, if_true, if_false, and_self, and_true, true_and, not_false_eq_true, not_true_eq_false, fd_Mo_flushNow_88, fd_Mo_flushNow_89, fd_Mo_flushNow_91, S1.all, n12]
    refine am_go [] 2 ?_
    simp only [am_wp, am_stp, am_en, am_as, am_pad, am_nth, am_set, am_st1, am_st2, am_kl, am_kill, am_mem, am_fv, am_tk, am_wt, am_bk, Option.toList, List.cons_append, List.nil_append, Nat.reduceAdd, Nat.reduceEqDiff, Nat.reduceLeDiff, reduceIte, Nat.reduceLT, or_self, true_or, or_true, if_true, if_false, and_self, and_true, true_and, not_false_eq_true, not_true_eq_false, fd_Mo_flushNow_98, fd_Mo_flushNow_99, S1.all]
    exact ⟨⟨_, rfl⟩, qg.trans (rq.fr qg.1 F3 (by simp [rB]) (fun j _ => by rw [F3.2.2.2.2.2.2.1 72 (by simp)])), Or.inr (by rw [F3.2.2.2.2.2.2.1 87 (by decide), F12.2.2.2.2.2.2.1 87 (by decide)])⟩
  · have neg : (-2 : Int32) < 0 := by decide
    have S1 := Sg.fi q1.2
    simp only [am_wp, am_stp, am_en, am_as, am_pad, am_nth, am_set, am_st1, am_st2, am_kl, am_kill, am_mem, am_fv, am_tk, am_wt, am_bk, Option.toList, List.cons_append, List.nil_append, Nat.reduceAdd, Nat.reduceEqDiff, Nat.reduceLeDiff, reduceIte, Nat.reduceLT, or_self, true_or, or_true, if_true, if_false, and_self, and_true, true_and, not_false_eq_true, not_true_eq_false]
    refine am_go [88, 100] 3 ?_
    simp only [am_wp, am_stp, am_en, am_as, am_pad, am_nth, am_set, am_st1, am_st2, am_kl, am_kill, am_mem, am_fv, am_tk, am_wt, am_bk, Option.toList, List.cons_append, List.nil_append, Nat.reduceAdd, Nat.reduceEqDiff, Nat.reduceLeDiff, reduceIte, Nat.reduceLT, or_self, true_or, or_true, if_true, if_false, and_self, and_true, true_and, not_false_eq_true, not_true_eq_false, fd_Mo_flushNow_83, fd_Mo_flushNow_84, fd_Mo_flushNow_85, S1.all, neg]
    refine am_go [94, 98] 3 ?_
    simp only [am_wp, am_stp, am_en, am_as, am_pad, am_nth, am_set, am_st1, am_st2, am_kl, am_kill, am_mem, am_fv, am_tk, am_wt, am_bk, Option.toList, List.cons_append, List.nil_append, Nat.reduceAdd, Nat.reduceEqDiff, Nat.reduceLeDiff, reduceIte, Nat.reduceLT, or_self, true_or, or_true, if_true, if_false, and_self, and_true, true_and, not_false_eq_true, not_true_eq_false, fd_Mo_flushNow_88, fd_Mo_flushNow_89, fd_Mo_flushNow_91, S1.all]
    refine am_go [] 3 ?_
    simp only [am_wp, am_stp, am_en, am_as, am_pad, am_nth, am_set, am_st1, am_st2, am_kl, am_kill, am_mem, am_fv, am_tk, am_wt, am_bk, Option.toList, List.cons_append, List.nil_append, Nat.reduceAdd, Nat.reduceEqDiff, Nat.reduceLeDiff, reduceIte, Nat.reduceLT, or_self, true_or, or_true, if_true, if_false, and_self, and_true, true_and, not_false_eq_true, not_true_eq_false, fd_Mo_flushNow_94, fd_Mo_flushNow_95, fd_Mo_flushNow_99, S1.all]
    exact ⟨⟨_, rfl⟩, qg.trans q1, Or.inl q2⟩
theorem rx_flushNow {d P : Nat} {h : am_H} (R : rI P h) (h3 : am_I h 72 3 = 0) : am_Rt nm_pr (d + 6) mi_Mo_flushNow [.ref 72] h (fun o h' => iany o ∧ rq P h h') := am_call (rx_flushNow1 R h3) (fun _ _ q => ⟨q.1, q.2.1⟩)
