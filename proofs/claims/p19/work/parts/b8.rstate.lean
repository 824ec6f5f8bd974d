/-! THE REFERENCE'S RUNS -/
def rm_S (P : Nat) (h : am_H) (r : rn) : Prop := rs_M P h r.1 r.2.2 ∧ am_I h 79 r.1 = nI r.2.1 ∧ r.2.1 ≤ 3 ∧ am_I h 77 r.1 = 1 ∧ r.2.2.length = npg (ch_E r.2.2) ∧ so (ch_E r.2.2) ∧ ∀ e ∈ ch_E r.2.2, eo e
def nm_R (P : Nat) (h : am_H) (Rs : List rn) : Prop := (∀ i r, Rs[i]? = some r → am_I h 86 i = nI r.1 ∧ rm_S P h r) ∧ am_I h 72 24 = nI Rs.length ∧ Rs.length ≤ 9 ∧ (Rs.map (·.1)).Nodup ∧ (pgs Rs).Nodup ∧ ∀ s, s < 100 → s ∉ Rs.map (·.1) → am_I h 77 s = 0
theorem nm_R.all {P : Nat} {h : am_H} {Rs : List rn} (N : nm_R P h Rs) : ∀ r ∈ Rs, rm_S P h r := fun r hr => by
  obtain ⟨i, hi⟩ := List.getElem?_of_mem hr
  exact (N.1 i r hi).2
theorem rm_S.pg {P : Nat} {h : am_H} {r : rn} (c : rm_S P h r) : ∀ p ∈ rn_p r, 2 ≤ p ∧ p < P := fun p hp => by
  obtain ⟨q, q1, q2⟩ := List.mem_map.mp hp
  obtain ⟨k, hk⟩ := List.getElem?_of_mem q1
  have := (c.1.2.2.2 k q hk).2
  rw [← q2]
  exact ⟨this.1, this.2.1⟩
theorem nm_R.pg {P : Nat} {h : am_H} {Rs : List rn} (N : nm_R P h Rs) : ∀ p ∈ pgs Rs, 2 ≤ p ∧ p < P := fun p hp => by
  obtain ⟨r, r1, r2⟩ := List.mem_flatMap.mp hp
  exact (N.all r r1).pg p r2
theorem apg_rm {P : Nat} {h : am_H} {Rs : List rn} (N : ∀ r ∈ Rs, rm_S P h r) : apg (ab Rs) = (pgs Rs).length := by
  induction Rs with
  | nil => rfl
  | cons r Rs ih =>
    have := ih (fun x hx => N x (by simp [hx]))
    have h1 := (N r (by simp)).2.2.2.2.1
    simp only [apg, ab, List.map_cons, List.sum_cons, pgs, List.flatMap_cons, List.length_append, rn_p, List.length_map] at this ⊢
    rw [← h1]
    simp only [pgs, rn_p] at *
    omega
theorem fz_list {P : Nat} : ∀ (l : List Nat) (f : Nat → Int32), l.Nodup → (∀ p ∈ l, 2 ≤ p ∧ p < P) → (∀ p, 2 ≤ p → p < P → (f p = 0 ↔ p ∉ l)) → fz f P + l.length = P - 2
  | [], f, _, _, h => by
    rw [fz_all P (fun q h1 h2 => (h q h1 h2).mpr (by simp))]
    rfl
  | p :: l, f, hn, hp, h => by
    obtain ⟨n1, n2⟩ := List.nodup_cons.mp hn
    have h1 := hp p (by simp)
    have ih := fz_list (P := P) l (up_f f p 0) n2 (fun x hx => hp x (by simp [hx])) (fun x h2 h3 => by
      unfold up_f
      by_cases e : x = p
      · subst e; simp [n1]
      · rw [if_neg e, h x h2 h3]; simp [e])
    have z := fz_up (f := f) (p := p) (v := 0) P h1.1 h1.2
    have hfp : ¬ f p = 0 := fun q => (h p h1.1 h1.2).mp q (by simp)
    rw [if_neg hfp, if_pos rfl] at z
    simp only [List.length_cons]
    omega
theorem nm_R.us {P : Nat} {h : am_H} {Rs : List rn} (N : nm_R P h Rs) (hP : P ≤ 1024) : us_W P h ∧ ∀ p, p < P → (us_T h 100 p ↔ p ∈ pgs Rs) := by
  have sl : ∀ s, s < 100 → 0 < am_I h 77 s → ∃ r ∈ Rs, r.1 = s := fun s h1 h2 => by
    by_cases e : s ∈ Rs.map (·.1)
    · obtain ⟨r, r1, r2⟩ := List.mem_map.mp e
      exact ⟨r, r1, r2⟩
    · rw [N.2.2.2.2.2 s h1 e] at h2
      exact absurd h2 (by decide)
  refine ⟨fun s h1 h2 => ?_, fun p hp => ⟨fun z => ?_, fun z => ?_⟩⟩
  · obtain ⟨r, r1, r2⟩ := sl s h1 h2
    subst r2
    obtain ⟨⟨a1, a2, a3, a4⟩, -⟩ := N.all r r1
    refine ⟨r.2.2.length, a3, a2, fun k hk => ?_⟩
    obtain ⟨b1, b2⟩ := a4 k _ (List.getElem?_eq_getElem hk)
    exact ⟨_, b2.2.1, b1⟩
  · obtain ⟨s, h1, h2, k, h3, h4⟩ := z
    obtain ⟨r, r1, r2⟩ := sl s h1 h2
    subst r2
    obtain ⟨⟨a1, a2, a3, a4⟩, -⟩ := N.all r r1
    rw [a2, nI_clamp (by omega)] at h3
    obtain ⟨b1, b2⟩ := a4 k _ (List.getElem?_eq_getElem h3)
    rw [b1, nI_eq (by have := b2.2.1; omega) (by omega)] at h4
    refine List.mem_flatMap.mpr ⟨r, r1, ?_⟩
    rw [← h4]
    exact List.mem_map_of_mem (List.getElem_mem h3)
  · obtain ⟨r, r1, r2⟩ := List.mem_flatMap.mp z
    obtain ⟨q, q1, q2⟩ := List.mem_map.mp r2
    obtain ⟨k, hk⟩ := List.getElem?_of_mem q1
    obtain ⟨⟨a1, a2, a3, a4⟩, -, -, a5, -⟩ := N.all r r1
    have hkl := (List.getElem?_eq_some_iff.mp hk).1
    refine ⟨r.1, a1, by rw [a5]; decide, k, by rw [a2, nI_clamp (by omega)]; exact hkl, ?_⟩
    rw [(a4 k q hk).1, q2]
theorem nm_R.free {P : Nat} {h : am_H} {Rs : List rn} (N : nm_R P h Rs) (h4 : 4 ≤ P) (hP : P ≤ 1024) : ∀ f : Nat → Int32, (∀ p, p < P → (f p = 0 ∨ f p = 1) ∧ (f p = 1 ↔ p < 2 ∨ us_T h 100 p)) → us_N f P = P - 2 - (pgs Rs).length := fun f hf => by
  have u := (N.us hP).2
  rw [us_fz P (fun p p1 p2 => by rw [(hf p p1).2.mpr (Or.inl p2)]; decide)]
  have := fz_list (P := P) (pgs Rs) f N.2.2.2.2.1 N.pg (fun p p1 p2 => by
    obtain ⟨a, b⟩ := hf p p2
    rw [u p p2] at b
    constructor
    · intro z hm
      have := b.mpr (Or.inr hm)
      rw [z] at this
      exact absurd this (by decide)
    · intro z
      rcases a with a | a
      · exact a
      · rcases b.mp a with c | c
        · omega
        · exact absurd c z)
  omega
theorem pig : ∀ (n : Nat) (l : List Nat), (∀ s, s < n → s ∈ l) → n ≤ l.length
  | 0, l, _ => Nat.zero_le _
  | n + 1, l, h => by
    have hm := h n (by omega)
    have := pig n (l.erase n) (fun s hs => (List.mem_erase_of_ne (by omega)).mpr (h s (by omega)))
    rw [List.length_erase_of_mem hm] at this
    have := List.length_pos_of_mem hm
    omega
theorem nm_R.slot {P : Nat} {h : am_H} {Rs : List rn} (N : nm_R P h Rs) : ∃ s, s < 100 ∧ ¬ 0 < am_I h 77 s := by
  by_cases e : ∃ s, s < 10 ∧ s ∉ Rs.map (·.1)
  · obtain ⟨s, s1, s2⟩ := e
    exact ⟨s, by omega, by rw [N.2.2.2.2.2 s (by omega) s2]; decide⟩
  · have := pig 10 (Rs.map (·.1)) (fun s hs => by
      by_cases q : s ∈ Rs.map (·.1)
      · exact q
      · exact absurd ⟨s, hs, q⟩ e)
    rw [List.length_map] at this
    have := N.2.2.1
    omega
theorem l2_level0_loop {d P : Nat} {Rs : List rn} {h : am_H} (hS : mo_Sk h) (N : nm_R P h Rs) : ∀ (rest pre : List rn), pre ++ rest = Rs →
    am_Ex nm_pr d mt_Mo_atLevelNought (2, [.ref 72, .int (nI pre.length)], [], h) (fun o h' => o = .inl (some (.int (nI (pre.length + up 0 (lvs rest))))) ∧ h' = h)
  | [], pre, hp => by
    obtain ⟨c1, c2, c3, c4, c5, c6⟩ := id N
    have e : pre = Rs := by simpa using hp
    subst e
    have l1 : ¬ nI pre.length < nI pre.length := nI_nlt (Nat.le_refl _) (by omega)
    refine am_go [10] 7 ?_
    simp only [am_wp, am_stp, am_en, am_as, am_pad, am_nth, am_set, am_st1, am_st2, am_kl, am_kill, am_mem, am_fv, am_tk, am_wt, am_bk, Option.toList, List.cons_append, List.nil_append, Nat.reduceAdd, Nat.reduceEqDiff, Nat.reduceLeDiff, reduceIte, Nat.reduceLT, or_self, true_or, or_true, if_true, if_false, and_self, and_true, true_and, not_false_eq_true, not_true_eq_false, fd_Mo_atLevelNought_2, fd_Mo_atLevelNought_3, fd_Mo_atLevelNought_4, fd_Mo_atLevelNought_7, fd_Mo_atLevelNought_30, fd_Mo_atLevelNought_31, hS.1, c2, l1]
    simp [lvs, up]
  | r :: rest, pre, hp => by
    obtain ⟨c1, c2, c3, c4, c5, c6⟩ := id N
    obtain ⟨k72, -, -, ⟨r17, k79, n79⟩, -, -, -, -, -, -, ⟨r25, k86, n86⟩, -⟩ := mo_sl_ hS
    have hlen : pre.length < Rs.length := by rw [← hp]; simp
    have hget : Rs[pre.length]? = some r := by rw [← hp]; simp
    obtain ⟨x1, x2⟩ := c1 _ _ hget
    have hs := x2.1.1
    have hl3 := x2.2.2.1
    have l1 : nI pre.length < nI Rs.length := nI_lt hlen (by omega)
    have i1 := am_inb (c := pre.length) (N := 9) (by omega) (by omega)
    have q1 : (nI pre.length).toNatClampNeg = pre.length := nI_clamp (by omega)
    have i2 := am_inb (c := r.1) (N := 100) (by omega) (by omega)
    have q2 : (nI r.1).toNatClampNeg = r.1 := nI_clamp (by omega)
    refine am_go [10, 30] 4 ?_
    simp only [am_wp, am_stp, am_en, am_as, am_pad, am_nth, am_set, am_st1, am_st2, am_kl, am_kill, am_mem, am_fv, am_tk, am_wt, am_bk, Option.toList, List.cons_append, List.nil_append, Nat.reduceAdd, Nat.reduceEqDiff, Nat.reduceLeDiff, reduceIte, Nat.reduceLT, or_self, true_or, or_true, if_true, if_false, and_self, and_true, true_and, not_false_eq_true, not_true_eq_false, fd_Mo_atLevelNought_2, fd_Mo_atLevelNought_3, fd_Mo_atLevelNought_4, fd_Mo_atLevelNought_7, k72, c2, l1]
    refine am_go [24, 30] 8 ?_
    simp only [am_wp, am_stp, am_en, am_as, am_pad, am_nth, am_set, am_st1, am_st2, am_kl, am_kill, am_mem, am_fv, am_tk, am_wt, am_bk, Option.toList, List.cons_append, List.nil_append, Nat.reduceAdd, Nat.reduceEqDiff, Nat.reduceLeDiff, reduceIte, Nat.reduceLT, or_self, true_or, or_true, if_true, if_false, and_self, and_true, true_and, not_false_eq_true, not_true_eq_false, fd_Mo_atLevelNought_10, fd_Mo_atLevelNought_11, fd_Mo_atLevelNought_14, fd_Mo_atLevelNought_15, fd_Mo_atLevelNought_18, fd_Mo_atLevelNought_19, fd_Mo_atLevelNought_20, fd_Mo_atLevelNought_21, k72, r17, r25, k86, n86, i1, q1, x1, k79, n79, i2, q2, x2.2.1]
    by_cases e : r.2.1 = 0
    · have z : (nI r.2.1 = 0) = True := eq_true (by rw [e]; rfl)
      simp only [z, am_wp, am_stp, am_en, am_as, am_pad, am_nth, am_set, am_st1, am_st2, am_kl, am_kill, am_mem, am_fv, am_tk, am_wt, am_bk, Option.toList, List.cons_append, List.nil_append, Nat.reduceAdd, Nat.reduceEqDiff, Nat.reduceLeDiff, reduceIte, Nat.reduceLT, or_self, true_or, or_true, if_true, if_false, and_self, and_true, true_and, not_false_eq_true, not_true_eq_false]
      refine am_go [2] 2 ?_
      simp only [am_wp, am_stp, am_en, am_as, am_pad, am_nth, am_set, am_st1, am_st2, am_kl, am_kill, am_mem, am_fv, am_tk, am_wt, am_bk, Option.toList, List.cons_append, List.nil_append, Nat.reduceAdd, Nat.reduceEqDiff, Nat.reduceLeDiff, reduceIte, Nat.reduceLT, or_self, true_or, or_true, if_true, if_false, and_self, and_true, true_and, not_false_eq_true, not_true_eq_false, fd_Mo_atLevelNought_24, fd_Mo_atLevelNought_27, nI_1]
      have := l2_level0_loop (d := d) hS N rest (pre ++ [r]) (by rw [← hp]; simp)
      have e1 : (pre ++ [r]).length = pre.length + 1 := by simp
      rw [e1] at this
      have e2 : up 0 (lvs (r :: rest)) = up 0 (lvs rest) + 1 := by
        show (if r.2.1 ≤ 0 then up 0 (lvs rest) + 1 else 0) = _
        rw [if_pos (by omega)]
      rw [e2, show pre.length + (up 0 (lvs rest) + 1) = pre.length + 1 + up 0 (lvs rest) by omega]
      exact this
    · have z : (nI r.2.1 = 0) = False := eq_false (nI_ne0 (by omega) (by omega))
      simp only [z, am_wp, am_stp, am_en, am_as, am_pad, am_nth, am_set, am_st1, am_st2, am_kl, am_kill, am_mem, am_fv, am_tk, am_wt, am_bk, Option.toList, List.cons_append, List.nil_append, Nat.reduceAdd, Nat.reduceEqDiff, Nat.reduceLeDiff, reduceIte, Nat.reduceLT, or_self, true_or, or_true, if_true, if_false, and_self, and_true, true_and, not_false_eq_true, not_true_eq_false]
      refine am_go [] 2 ?_
      simp only [am_wp, am_stp, am_en, am_as, am_pad, am_nth, am_set, am_st1, am_st2, am_kl, am_kill, am_mem, am_fv, am_tk, am_wt, am_bk, Option.toList, List.cons_append, List.nil_append, Nat.reduceAdd, Nat.reduceEqDiff, Nat.reduceLeDiff, reduceIte, Nat.reduceLT, or_self, true_or, or_true, if_true, if_false, and_self, and_true, true_and, not_false_eq_true, not_true_eq_false, fd_Mo_atLevelNought_30, fd_Mo_atLevelNought_31]
      have e2 : up 0 (lvs (r :: rest)) = 0 := by
        show (if r.2.1 ≤ 0 then up 0 (lvs rest) + 1 else 0) = _
        rw [if_neg (by omega)]
      rw [e2]
      rfl
theorem l2_level0 {d P : Nat} {Rs : List rn} {h : am_H} (hS : mo_Sk h) (N : nm_R P h Rs) : am_Rt nm_pr (d + 1) mi_Mo_atLevelNought [.ref 72] h (fun o h' => o = .inl (some (.int (nI (up 0 (lvs Rs))))) ∧ h' = h) := by
  refine am_in' mt_Mo_atLevelNought 2 rfl rfl rfl ?_
  refine am_go [2] 2 ?_
  simp only [am_wp, am_stp, am_en, am_as, am_pad, am_nth, am_set, am_st1, am_st2, am_kl, am_kill, am_mem, am_fv, am_tk, am_wt, am_bk, Option.toList, List.cons_append, List.nil_append, Nat.reduceAdd, Nat.reduceEqDiff, Nat.reduceLeDiff, reduceIte, Nat.reduceLT, or_self, true_or, or_true, if_true, if_false, and_self, and_true, true_and, not_false_eq_true, not_true_eq_false, fd_Mo_atLevelNought_0, fd_Mo_atLevelNought_1]
  have := l2_level0_loop (d := d) hS N Rs [] (by simp)
  rw [show ([] : List rn).length + up 0 (lvs Rs) = up 0 (lvs Rs) by simp] at this
  exact this
/-! THE HEAD: a frame -/
theorem l2_mh2 {d u : Nat} {v : Int32} {h g : am_H} (hS : mo_Sk h) (F : am_fi [91] h g) (hu : u + 1 < 128) : am_Rt nm_pr (d + 1) mi_Mo_put2 [.ref 72, .int (nI u), .int v] g (fun o g' => o = .inl (some (.int (nI (u + 2)))) ∧ am_fi [91] h g') := by
  refine am_call (l2_Mo_put2 (hS.fi F).Pg hu) (fun o g' q => ?_)
  obtain ⟨rfl, rfl⟩ := q
  exact ⟨rfl, (F.sI (by simp)).sI (by simp)⟩
theorem l2_layHead_loop {d P : Nat} {Rs : List rn} {h : am_H} (hS : mo_Sk h) (N : nm_R P h Rs) : ∀ (m k : Nat) (w3 : Value) (g : am_H), m + k = Rs.length → am_fi [91] h g →
    am_Ex nm_pr (d + 1) mt_Mo_layHead (53, [.ref 72, .int (nI (7 + 7 * k)), .int (nI k), w3], [], g) (fun o h' => o = .inl none ∧ am_fi [91] h h')
  | 0, k, w3, g, hm, F => by
    have e : k = Rs.length := by omega
    subst e
    have k72 := (hS.fi F).1
    have c2 : am_I g 72 24 = nI Rs.length := by rw [F.2.2.2.2.2.2.1 72 (by simp)]; exact N.2.1
    have c3 := N.2.2.1
    have l1 : ¬ nI Rs.length < nI Rs.length := nI_nlt (Nat.le_refl _) (by omega)
    refine am_go [61] 6 ?_
    simp only [am_wp, am_stp, am_en, am_as, am_pad, am_nth, am_set, am_st1, am_st2, am_kl, am_kill, am_mem, am_fv, am_tk, am_wt, am_bk, Option.toList, List.cons_append, List.nil_append, Nat.reduceAdd, Nat.reduceEqDiff, Nat.reduceLeDiff, reduceIte, Nat.reduceLT, or_self, true_or, or_true, if_true, if_false, and_self, and_true, true_and, not_false_eq_true, not_true_eq_false, fd_Mo_layHead_53, fd_Mo_layHead_54, fd_Mo_layHead_55, fd_Mo_layHead_58, fd_Mo_layHead_129, k72, c2, l1]
    exact F
  | m + 1, k, w3, g, hm, F => by
    obtain ⟨c1, c2, c3, c4, c5, c6⟩ := id N
    obtain ⟨r, hr⟩ : ∃ r, Rs[k]? = some r := ⟨Rs[k]'(by omega), List.getElem?_eq_getElem (by omega)⟩
    obtain ⟨x1, x2⟩ := c1 k r hr
    have hs := x2.1.1
    have A : ∀ {g : am_H}, am_fi [91] h g → mo_Sk g ∧ am_I g 72 24 = nI Rs.length ∧ am_I g 86 k = nI r.1 := fun F => ⟨hS.fi F, by rw [F.2.2.2.2.2.2.1 72 (by simp)]; exact c2, by rw [F.2.2.2.2.2.2.1 86 (by simp)]; exact x1⟩
    obtain ⟨S0, b2, b3⟩ := A F
    obtain ⟨k72, -, ⟨r16, k78, n78⟩, ⟨r17, k79, n79⟩, ⟨r18, k80, n80⟩, -, ⟨r20, k82, n82⟩, -, -, -, ⟨r25, k86, n86⟩, -⟩ := mo_sl_ S0
    have l1 : nI k < nI Rs.length := nI_lt (by omega) (by omega)
    have i1 := am_inb (c := k) (N := 9) (by omega) (by omega)
    have q1 : (nI k).toNatClampNeg = k := nI_clamp (by omega)
    have i2 := am_inb (c := r.1) (N := 100) (by omega) (by omega)
    have q2 : (nI r.1).toNatClampNeg = r.1 := nI_clamp (by omega)
    have e1 : 1024 * nI r.1 = nI (1024 * r.1) := (Int32.ofNat_mul 1024 r.1).symm
    have i3 := am_inb (c := 1024 * r.1) (N := 102400) (by omega) (by omega)
    have q3 : (nI (1024 * r.1)).toNatClampNeg = 1024 * r.1 := nI_clamp (by omega)
    refine am_go [61, 129] 4 ?_
    simp only [am_wp, am_stp, am_en, am_as, am_pad, am_nth, am_set, am_st1, am_st2, am_kl, am_kill, am_mem, am_fv, am_tk, am_wt, am_bk, Option.toList, List.cons_append, List.nil_append, Nat.reduceAdd, Nat.reduceEqDiff, Nat.reduceLeDiff, reduceIte, Nat.reduceLT, or_self, true_or, or_true, if_true, if_false, and_self, and_true, true_and, not_false_eq_true, not_true_eq_false, fd_Mo_layHead_53, fd_Mo_layHead_54, fd_Mo_layHead_55, fd_Mo_layHead_58, k72, b2, l1]
    refine am_go [] 5 ?_
    simp only [am_wp, am_stp, am_en, am_as, am_pad, am_nth, am_set, am_st1, am_st2, am_kl, am_kill, am_mem, am_fv, am_tk, am_wt, am_bk, Option.toList, List.cons_append, List.nil_append, Nat.reduceAdd, Nat.reduceEqDiff, Nat.reduceLeDiff, reduceIte, Nat.reduceLT, or_self, true_or, or_true, if_true, if_false, and_self, and_true, true_and, not_false_eq_true, not_true_eq_false, fd_Mo_layHead_61, fd_Mo_layHead_62, fd_Mo_layHead_65, fd_Mo_layHead_66, fd_Mo_layHead_67, k72, r25, k86, n86, i1, q1, b3]
    refine am_go [] 7 ?_
    simp only [am_wp, am_stp, am_en, am_as, am_pad, am_nth, am_set, am_st1, am_st2, am_kl, am_kill, am_mem, am_fv, am_tk, am_wt, am_bk, Option.toList, List.cons_append, List.nil_append, Nat.reduceAdd, Nat.reduceEqDiff, Nat.reduceLeDiff, reduceIte, Nat.reduceLT, or_self, true_or, or_true, if_true, if_false, and_self, and_true, true_and, not_false_eq_true, not_true_eq_false, fd_Mo_layHead_68, fd_Mo_layHead_69, fd_Mo_layHead_70, fd_Mo_layHead_71, fd_Mo_layHead_74, fd_Mo_layHead_75, fd_Mo_layHead_76, k72, r16, k78, n78, i2, q2]
    refine am_call (l2_mh2 (d := d) hS F (by omega)) (fun o g1 z => ?_)
    obtain ⟨rfl, F1⟩ := z
    obtain ⟨S1, -, -⟩ := A F1
    obtain ⟨k72a, -, -, ⟨r17a, k79a, n79a⟩, -, -, ⟨r20a, k82a, n82a⟩, -⟩ := mo_sl_ S1
    obtain ⟨-, r30a, k91a, n91a⟩ := mo_dr S1
    have i5 : (nI (7 + 7 * k + 2) < 0 ∨ 126 ≤ 7 + 7 * k) = False := eq_false (fun q => by rcases q with q | q; exact nI_pos (by omega) q; omega)
    have q5 : (nI (7 + 7 * k + 2)).toNatClampNeg = 7 + 7 * k + 2 := nI_clamp (by omega)
    simp only [am_wp, am_stp, am_en, am_as, am_pad, am_nth, am_set, am_st1, am_st2, am_kl, am_kill, am_mem, am_fv, am_tk, am_wt, am_bk, Option.toList, List.cons_append, List.nil_append, Nat.reduceAdd, Nat.reduceEqDiff, Nat.reduceLeDiff, reduceIte, Nat.reduceLT, or_self, true_or, or_true, if_true, if_false, and_self, and_true, true_and, not_false_eq_true, not_true_eq_false]
    refine am_go [] 10 ?_
    simp only [am_wp, am_stp, am_en, am_as, am_pad, am_nth, am_set, am_st1, am_st2, am_kl, am_kill, am_mem, am_fv, am_tk, am_wt, am_bk, Option.toList, List.cons_append, List.nil_append, Nat.reduceAdd, Nat.reduceEqDiff, Nat.reduceLeDiff, reduceIte, Nat.reduceLT, or_self, true_or, or_true, if_true, if_false, and_self, and_true, true_and, not_false_eq_true, not_true_eq_false, fd_Mo_layHead_79, fd_Mo_layHead_80, fd_Mo_layHead_81, fd_Mo_layHead_84, fd_Mo_layHead_85, fd_Mo_layHead_86, fd_Mo_layHead_89, fd_Mo_layHead_90, fd_Mo_layHead_91, fd_Mo_layHead_92, k72a, r30a, r17a, k79a, n79a, i2, q2, k91a, n91a, q5, i5]
    generalize hg2 : am_sI g1 91 (7 + 7 * k + 2) _ = g2
    have F2 : am_fi [91] h g2 := by rw [← hg2]; exact F1.sI (by simp)
    clear hg2
    obtain ⟨S2, -, -⟩ := A F2
    obtain ⟨k72b, -, -, -, -, -, ⟨r20b, k82b, n82b⟩, -⟩ := mo_sl_ S2
    refine am_go [] 11 ?_
    simp only [am_wp, am_stp, am_en, am_as, am_pad, am_nth, am_set, am_st1, am_st2, am_kl, am_kill, am_mem, am_fv, am_tk, am_wt, am_bk, Option.toList, List.cons_append, List.nil_append, Nat.reduceAdd, Nat.reduceEqDiff, Nat.reduceLeDiff, reduceIte, Nat.reduceLT, or_self, true_or, or_true, if_true, if_false, and_self, and_true, true_and, not_false_eq_true, not_true_eq_false, fd_Mo_layHead_93, fd_Mo_layHead_94, fd_Mo_layHead_95, fd_Mo_layHead_96, fd_Mo_layHead_97, fd_Mo_layHead_98, fd_Mo_layHead_101, fd_Mo_layHead_104, fd_Mo_layHead_105, fd_Mo_layHead_106, fd_Mo_layHead_107, k72b, r20b, e1, k82b, n82b, i3, q3, nI_1]
    refine am_call (l2_mh2 (d := d) hS F2 (show 7 + 7 * k + 2 + 1 + 1 < 128 by omega)) (fun o g3 z => ?_)
    obtain ⟨rfl, F3⟩ := z
    obtain ⟨S3, -, -⟩ := A F3
    obtain ⟨k72c, -, -, -, ⟨r18c, k80c, n80c⟩, -⟩ := mo_sl_ S3
    simp only [am_wp, am_stp, am_en, am_as, am_pad, am_nth, am_set, am_st1, am_st2, am_kl, am_kill, am_mem, am_fv, am_tk, am_wt, am_bk, Option.toList, List.cons_append, List.nil_append, Nat.reduceAdd, Nat.reduceEqDiff, Nat.reduceLeDiff, reduceIte, Nat.reduceLT, or_self, true_or, or_true, if_true, if_false, and_self, and_true, true_and, not_false_eq_true, not_true_eq_false]
    refine am_go [] 8 ?_
    simp only [am_wp, am_stp, am_en, am_as, am_pad, am_nth, am_set, am_st1, am_st2, am_kl, am_kill, am_mem, am_fv, am_tk, am_wt, am_bk, Option.toList, List.cons_append, List.nil_append, Nat.reduceAdd, Nat.reduceEqDiff, Nat.reduceLeDiff, reduceIte, Nat.reduceLT, or_self, true_or, or_true, if_true, if_false, and_self, and_true, true_and, not_false_eq_true, not_true_eq_false, fd_Mo_layHead_110, fd_Mo_layHead_111, fd_Mo_layHead_112, fd_Mo_layHead_113, fd_Mo_layHead_114, fd_Mo_layHead_117, fd_Mo_layHead_118, fd_Mo_layHead_119, k72c, r18c, k80c, n80c, i2, q2]
    refine am_call (l2_mh2 (d := d) hS F3 (show 7 + 7 * k + 2 + 1 + 2 + 1 < 128 by omega)) (fun o g4 z => ?_)
    obtain ⟨rfl, F4⟩ := z
    simp only [am_wp, am_stp, am_en, am_as, am_pad, am_nth, am_set, am_st1, am_st2, am_kl, am_kill, am_mem, am_fv, am_tk, am_wt, am_bk, Option.toList, List.cons_append, List.nil_append, Nat.reduceAdd, Nat.reduceEqDiff, Nat.reduceLeDiff, reduceIte, Nat.reduceLT, or_self, true_or, or_true, if_true, if_false, and_self, and_true, true_and, not_false_eq_true, not_true_eq_false]
    refine am_go [53] 3 ?_
    simp only [am_wp, am_stp, am_en, am_as, am_pad, am_nth, am_set, am_st1, am_st2, am_kl, am_kill, am_mem, am_fv, am_tk, am_wt, am_bk, Option.toList, List.cons_append, List.nil_append, Nat.reduceAdd, Nat.reduceEqDiff, Nat.reduceLeDiff, reduceIte, Nat.reduceLT, or_self, true_or, or_true, if_true, if_false, and_self, and_true, true_and, not_false_eq_true, not_true_eq_false, fd_Mo_layHead_122, fd_Mo_layHead_123, fd_Mo_layHead_126, nI_1]
    have := l2_layHead_loop (d := d) hS N m (k + 1) (.int (nI r.1)) g4 (by omega) F4
    rw [show 7 + 7 * (k + 1) = 7 + 7 * k + 2 + 1 + 2 + 2 by omega] at this
    exact this
theorem l2_layHead {d P : Nat} {Rs : List rn} {h : am_H} (hS : mo_Sk h) (N : nm_R P h Rs) : am_Rt nm_pr (d + 2) mi_Mo_layHead [.ref 72] h (fun o h' => o = .inl none ∧ am_fi [91] h h') := by
  refine am_in' (d := d + 1) mt_Mo_layHead 4 rfl rfl rfl ?_
  refine am_go [] 2 ?_
  simp only [am_wp, am_stp, am_en, am_as, am_pad, am_nth, am_set, am_st1, am_st2, am_kl, am_kill, am_mem, am_fv, am_tk, am_wt, am_bk, Option.toList, List.cons_append, List.nil_append, Nat.reduceAdd, Nat.reduceEqDiff, Nat.reduceLeDiff, reduceIte, Nat.reduceLT, or_self, true_or, or_true, if_true, if_false, and_self, and_true, true_and, not_false_eq_true, not_true_eq_false, fd_Mo_layHead_0, fd_Mo_layHead_1, hS.1]
  refine am_call (l2_Mo_clear (d := d) hS.Pg) (fun o g z => ?_)
  obtain ⟨rfl, F, -, -⟩ := z
  have k0 := (hS.fi F).1
  simp only [am_wp, am_stp, am_en, am_as, am_pad, am_nth, am_set, am_st1, am_st2, am_kl, am_kill, am_mem, am_fv, am_tk, am_wt, am_bk, Option.toList, List.cons_append, List.nil_append, Nat.reduceAdd, Nat.reduceEqDiff, Nat.reduceLeDiff, reduceIte, Nat.reduceLT, or_self, true_or, or_true, if_true, if_false, and_self, and_true, true_and, not_false_eq_true, not_true_eq_false]
  refine am_go [] 7 ?_
  simp only [am_wp, am_stp, am_en, am_as, am_pad, am_nth, am_set, am_st1, am_st2, am_kl, am_kill, am_mem, am_fv, am_tk, am_wt, am_bk, Option.toList, List.cons_append, List.nil_append, Nat.reduceAdd, Nat.reduceEqDiff, Nat.reduceLeDiff, reduceIte, Nat.reduceLT, or_self, true_or, or_true, if_true, if_false, and_self, and_true, true_and, not_false_eq_true, not_true_eq_false, fd_Mo_layHead_4, fd_Mo_layHead_5, fd_Mo_layHead_6, fd_Mo_layHead_7, fd_Mo_layHead_10, fd_Mo_layHead_12, fd_Mo_layHead_13, k0]
  refine am_call (l2_mh2 (d := d) (u := 0) hS F (by decide)) (fun o g1 z => ?_)
  obtain ⟨rfl, F1⟩ := z
  have k1 := (hS.fi F1).1
  simp only [am_wp, am_stp, am_en, am_as, am_pad, am_nth, am_set, am_st1, am_st2, am_kl, am_kill, am_mem, am_fv, am_tk, am_wt, am_bk, Option.toList, List.cons_append, List.nil_append, Nat.reduceAdd, Nat.reduceEqDiff, Nat.reduceLeDiff, reduceIte, Nat.reduceLT, or_self, true_or, or_true, if_true, if_false, and_self, and_true, true_and, not_false_eq_true, not_true_eq_false]
  refine am_go [] 6 ?_
  simp only [am_wp, am_stp, am_en, am_as, am_pad, am_nth, am_set, am_st1, am_st2, am_kl, am_kill, am_mem, am_fv, am_tk, am_wt, am_bk, Option.toList, List.cons_append, List.nil_append, Nat.reduceAdd, Nat.reduceEqDiff, Nat.reduceLeDiff, reduceIte, Nat.reduceLT, or_self, true_or, or_true, if_true, if_false, and_self, and_true, true_and, not_false_eq_true, not_true_eq_false, fd_Mo_layHead_16, fd_Mo_layHead_17, fd_Mo_layHead_18, fd_Mo_layHead_19, fd_Mo_layHead_20, fd_Mo_layHead_23, k1]
  refine am_call (l2_mh2 (d := d) (u := 2) hS F1 (by decide)) (fun o g2 z => ?_)
  obtain ⟨rfl, F2⟩ := z
  have k2 := (hS.fi F2).1
  simp only [am_wp, am_stp, am_en, am_as, am_pad, am_nth, am_set, am_st1, am_st2, am_kl, am_kill, am_mem, am_fv, am_tk, am_wt, am_bk, Option.toList, List.cons_append, List.nil_append, Nat.reduceAdd, Nat.reduceEqDiff, Nat.reduceLeDiff, reduceIte, Nat.reduceLT, or_self, true_or, or_true, if_true, if_false, and_self, and_true, true_and, not_false_eq_true, not_true_eq_false]
  refine am_go [] 6 ?_
  simp only [am_wp, am_stp, am_en, am_as, am_pad, am_nth, am_set, am_st1, am_st2, am_kl, am_kill, am_mem, am_fv, am_tk, am_wt, am_bk, Option.toList, List.cons_append, List.nil_append, Nat.reduceAdd, Nat.reduceEqDiff, Nat.reduceLeDiff, reduceIte, Nat.reduceLT, or_self, true_or, or_true, if_true, if_false, and_self, and_true, true_and, not_false_eq_true, not_true_eq_false, fd_Mo_layHead_26, fd_Mo_layHead_27, fd_Mo_layHead_28, fd_Mo_layHead_29, fd_Mo_layHead_30, fd_Mo_layHead_33, k2]
  refine am_call (l2_mh2 (d := d) (u := 4) hS F2 (by decide)) (fun o g3 z => ?_)
  obtain ⟨rfl, F3⟩ := z
  obtain ⟨k3, r30, k91, n91⟩ := mo_dr (hS.fi F3)
  have i6 : (nI (4 + 2) < 0 ∨ 128 ≤ (nI (4 + 2)).toNatClampNeg) = False := by decide
  have e7 : nI (4 + 2) + 1 = nI (7 + 7 * 0) := by decide
  simp only [am_wp, am_stp, am_en, am_as, am_pad, am_nth, am_set, am_st1, am_st2, am_kl, am_kill, am_mem, am_fv, am_tk, am_wt, am_bk, Option.toList, List.cons_append, List.nil_append, Nat.reduceAdd, Nat.reduceEqDiff, Nat.reduceLeDiff, reduceIte, Nat.reduceLT, or_self, true_or, or_true, if_true, if_false, and_self, and_true, true_and, not_false_eq_true, not_true_eq_false]
  refine am_go [] 8 ?_
  simp only [am_wp, am_stp, am_en, am_as, am_pad, am_nth, am_set, am_st1, am_st2, am_kl, am_kill, am_mem, am_fv, am_tk, am_wt, am_bk, Option.toList, List.cons_append, List.nil_append, Nat.reduceAdd, Nat.reduceEqDiff, Nat.reduceLeDiff, reduceIte, Nat.reduceLT, or_self, true_or, or_true, if_true, if_false, and_self, and_true, true_and, not_false_eq_true, not_true_eq_false, fd_Mo_layHead_36, fd_Mo_layHead_37, fd_Mo_layHead_38, fd_Mo_layHead_41, fd_Mo_layHead_42, fd_Mo_layHead_43, fd_Mo_layHead_46, fd_Mo_layHead_47, k3, r30, k91, n91]
  rw [if_neg (by decide)]
  refine am_go [53] 3 ?_
  simp only [am_wp, am_stp, am_en, am_as, am_pad, am_nth, am_set, am_st1, am_st2, am_kl, am_kill, am_mem, am_fv, am_tk, am_wt, am_bk, Option.toList, List.cons_append, List.nil_append, Nat.reduceAdd, Nat.reduceEqDiff, Nat.reduceLeDiff, reduceIte, Nat.reduceLT, or_self, true_or, or_true, if_true, if_false, and_self, and_true, true_and, not_false_eq_true, not_true_eq_false, fd_Mo_layHead_48, fd_Mo_layHead_51, fd_Mo_layHead_52]
  exact l2_layHead_loop hS N Rs.length 0 _ _ (by omega) (F3.sI (by simp))
/-- the head is written -/
def mw_Q (P : Nat) (h h' : am_H) : Prop := am_fi [72, 73, 91] h h' ∧ (∀ j, j ≠ 4 → j ≠ 7 → am_I h' 72 j = am_I h 72 j) ∧ ∀ x, 2 ≤ x → ∀ j, j < 128 → am_I h' 73 (x * 128 + j) = am_I h 73 (x * 128 + j)
theorem l2_Mo_writeHead {d P : Nat} {Rs : List rn} {h : am_H} (hS : mo_Sk h) (N : nm_R P h Rs) (hc : am_I h 72 8 = 0) : am_Rt nm_pr (d + 3) mi_Mo_writeHead [.ref 72] h (fun o h' => o = .inl (some (.int 1)) ∧ mw_Q P h h') := by
  refine am_in' (d := d + 2) mt_Mo_writeHead 1 rfl rfl rfl ?_
  refine am_go [] 6 ?_
  simp only [am_wp, am_stp, am_en, am_as, am_pad, am_nth, am_set, am_st1, am_st2, am_kl, am_kill, am_mem, am_fv, am_tk, am_wt, am_bk, Option.toList, List.cons_append, List.nil_append, Nat.reduceAdd, Nat.reduceEqDiff, Nat.reduceLeDiff, reduceIte, Nat.reduceLT, or_self, true_or, or_true, if_true, if_false, and_self, and_true, true_and, not_false_eq_true, not_true_eq_false, fd_Mo_writeHead_0, fd_Mo_writeHead_1, fd_Mo_writeHead_2, fd_Mo_writeHead_5, fd_Mo_writeHead_6, fd_Mo_writeHead_7, hS.1]
  have F1 : am_fi [72] h (am_sI h 72 4 (am_I h 72 4 + 1)) := am_fi.refl.sI (by simp)
  have vj : ∀ j, j ≠ 4 → am_I (am_sI h 72 4 (am_I h 72 4 + 1)) 72 j = am_I h 72 j := fun j hj => by simp only [hx_nx_sI, hx_ce_sI, hx_sl_sI, hx_kd_sI, hx_ln_sI, hx_I_sI, hx_L_sI, hx_R_sI, hx_nx_sL, hx_ce_sL, hx_sl_sL, hx_kd_sL, hx_ln_sL, hx_I_sL, hx_L_sL, hx_R_sL, hx_nx_sR, hx_ce_sR, hx_sl_sR, hx_kd_sR, hx_ln_sR, hx_I_sR, hx_L_sR, hx_R_sR, hx_nx_al, hx_ce_al, hx_sl_al, hx_kd_al, hx_ln_al, hx_I_al, hx_L_al, hx_R_al, hx_nx_row, hx_ce_row, hx_sl_row, hx_kd_row, hx_ln_row, hx_I_row, hx_L_row, hx_R_row, hx_nx_mk, hx_kd_mk, hx_ln_mk, hx_I_mk, hx_L_mk, hx_R_mk, am_wp, am_stp, am_en, am_as, am_pad, am_nth, am_set, am_st1, am_st2, am_kl, am_kill, am_mem, am_fv, am_tk, am_wt, am_bk, Option.toList, List.cons_append, List.nil_append, Nat.reduceAdd, Nat.reduceEqDiff, Nat.reduceLeDiff, reduceIte, Nat.reduceLT, or_self, true_or, or_true, if_true, if_false, and_self, and_true, true_and, not_false_eq_true, not_true_eq_false, hj]
  generalize am_sI h 72 4 (am_I h 72 4 + 1) = g at F1 vj ⊢
  have Sg := hS.fi F1
  have Ng : nm_R P g Rs := by
    obtain ⟨c1, c2, c3, c4, c5, c6⟩ := N
    refine ⟨fun i r hr => ?_, by rw [vj 24 (by decide)]; exact c2, c3, c4, c5, fun s h1 h2 => by rw [F1.2.2.2.2.2.2.1 77 (by simp)]; exact c6 s h1 h2⟩
    obtain ⟨x1, ⟨y1, y2, y3, y4⟩, x3, x4, x5, x6⟩ := c1 i r hr
    exact ⟨by rw [F1.2.2.2.2.2.2.1 86 (by simp)]; exact x1, ⟨y1, by rw [F1.2.2.2.2.2.2.1 80 (by simp)]; exact y2, y3, fun k q hk => ⟨by rw [F1.2.2.2.2.2.2.1 82 (by simp)]; exact (y4 k q hk).1, (y4 k q hk).2.mono (fun j _ => congrFun (F1.2.2.2.2.2.2.1 73 (by simp)) _)⟩⟩, by rw [F1.2.2.2.2.2.2.1 79 (by simp)]; exact x3, x4, by rw [F1.2.2.2.2.2.2.1 77 (by simp)]; exact x5, x6⟩
  refine am_go [] 2 ?_
  simp only [am_wp, am_stp, am_en, am_as, am_pad, am_nth, am_set, am_st1, am_st2, am_kl, am_kill, am_mem, am_fv, am_tk, am_wt, am_bk, Option.toList, List.cons_append, List.nil_append, Nat.reduceAdd, Nat.reduceEqDiff, Nat.reduceLeDiff, reduceIte, Nat.reduceLT, or_self, true_or, or_true, if_true, if_false, and_self, and_true, true_and, not_false_eq_true, not_true_eq_false, fd_Mo_writeHead_10, fd_Mo_writeHead_11, Sg.1]
  refine am_call (l2_layHead (d := d) Sg Ng) (fun o g1 z => ?_)
  obtain ⟨rfl, F2⟩ := z
  have S1 := Sg.fi F2
  have i72 : am_I g1 72 = am_I g 72 := F2.2.2.2.2.2.2.1 72 (by simp)
  obtain ⟨pk, hp, ep⟩ := and1 (am_I g1 72 4)
  simp only [am_wp, am_stp, am_en, am_as, am_pad, am_nth, am_set, am_st1, am_st2, am_kl, am_kill, am_mem, am_fv, am_tk, am_wt, am_bk, Option.toList, List.cons_append, List.nil_append, Nat.reduceAdd, Nat.reduceEqDiff, Nat.reduceLeDiff, reduceIte, Nat.reduceLT, or_self, true_or, or_true, if_true, if_false, and_self, and_true, true_and, not_false_eq_true, not_true_eq_false]
  refine am_go [] 6 ?_
  simp only [am_wp, am_stp, am_en, am_as, am_pad, am_nth, am_set, am_st1, am_st2, am_kl, am_kill, am_mem, am_fv, am_tk, am_wt, am_bk, Option.toList, List.cons_append, List.nil_append, Nat.reduceAdd, Nat.reduceEqDiff, Nat.reduceLeDiff, reduceIte, Nat.reduceLT, or_self, true_or, or_true, if_true, if_false, and_self, and_true, true_and, not_false_eq_true, not_true_eq_false, fd_Mo_writeHead_14, fd_Mo_writeHead_15, fd_Mo_writeHead_16, fd_Mo_writeHead_19, fd_Mo_writeHead_20, fd_Mo_writeHead_21, S1.1]
  rw [ep]
  refine am_call (l2_Mo_write (d := d) S1.Pg (show pk < 1024 by omega) (by rw [i72, vj 8 (by decide)]; exact hc)) (fun o g2 z => ?_)
  obtain ⟨rfl, F3, w1, w2, w3, w5⟩ := z
  have o1 : (1 : Int32) = 0 ∨ (1 : Int32) = 1 := by decide
  simp only [am_wp, am_stp, am_en, am_as, am_pad, am_nth, am_set, am_st1, am_st2, am_kl, am_kill, am_mem, am_fv, am_tk, am_wt, am_bk, Option.toList, List.cons_append, List.nil_append, Nat.reduceAdd, Nat.reduceEqDiff, Nat.reduceLeDiff, reduceIte, Nat.reduceLT, or_self, true_or, or_true, if_true, if_false, and_self, and_true, true_and, not_false_eq_true, not_true_eq_false]
  refine am_go [] 1 ?_
  simp only [am_wp, am_stp, am_en, am_as, am_pad, am_nth, am_set, am_st1, am_st2, am_kl, am_kill, am_mem, am_fv, am_tk, am_wt, am_bk, Option.toList, List.cons_append, List.nil_append, Nat.reduceAdd, Nat.reduceEqDiff, Nat.reduceLeDiff, reduceIte, Nat.reduceLT, or_self, true_or, or_true, if_true, if_false, and_self, and_true, true_and, not_false_eq_true, not_true_eq_false, fd_Mo_writeHead_24, o1]
  refine ⟨((F1.sub (by simp)).trans (F2.sub (by simp))).trans F3, fun j h4 h7 => ?_, fun x hx j hj => ?_⟩
  · rw [w1]
    dsimp only
    rw [if_neg h7, i72, vj j h4]
  · rw [w3]
    dsimp only
    rw [if_neg (by omega), F2.2.2.2.2.2.2.1 73 (by simp), F1.2.2.2.2.2.2.1 73 (by simp)]
