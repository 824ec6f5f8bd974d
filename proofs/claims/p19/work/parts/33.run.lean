theorem so_ckl_g1 {μ : so_I} : ∀ (l : List am_E) (pc j : Nat), so_ckl μ pc l = true → so_ck μ (pc + j) (am_g1 l j) = true
  | [], _, _, _ => rfl
  | e :: l, pc, 0, h => by
    simp only [so_ckl, Bool.and_eq_true] at h
    exact h.1
  | e :: l, pc, j + 1, h => by
    simp only [so_ckl, Bool.and_eq_true] at h
    have q := so_ckl_g1 l (pc + 1) j h.2
    rw [show pc + (j + 1) = pc + 1 + j by omega]
    exact q
theorem so_ckt_g2 {μ : so_I} : ∀ (T : List (List am_E)) (pc q : Nat), so_ckt μ pc T = true → so_ckl μ (pc + 16 * q) (am_g2 T q) = true
  | [], _, _, _ => rfl
  | e :: l, pc, 0, h => by
    simp only [so_ckt, Bool.and_eq_true] at h
    exact h.1
  | e :: l, pc, j + 1, h => by
    simp only [so_ckt, Bool.and_eq_true] at h
    have q := so_ckt_g2 l (pc + 16) j h.2
    rw [show pc + 16 * (j + 1) = pc + 16 + 16 * j by omega]
    exact q
theorem so_ckt_fd {μ : so_I} {T : List (List am_E)} (h : so_ckt μ 0 T = true) (pc : Nat) : so_ck μ pc (am_fd T pc) = true := by
  have q := so_ckl_g1 (am_g2 T (pc / 16)) (0 + 16 * (pc / 16)) (pc % 16) (so_ckt_g2 T 0 (pc / 16) h)
  rw [show 0 + 16 * (pc / 16) + pc % 16 = pc by omega] at q
  exact q
theorem so_hqz : ((List.range (nm_n + 1)).all fun x => so_hq (nm_pr x).2.2 && so_hz (nm_mi x)) = true := by decide +kernel
theorem am_ev_up {pr : Nat → am_M} : ∀ (d N m : Nat) (as : List Value) (h : am_H) (o : am_O) (h' : am_H), am_ev pr d N m as h = some (o, h') → am_up h h'
  | 0, _, _, _, _, _, _, q => by cases q
  | d + 1, N, m, as, h, o, h', q => by
    unfold am_ev at q
    cases hok : am_ok as (pr m).2.1 with
    | false => rw [hok] at q; cases q
    | true =>
      rw [hok] at q
      exact am_run_up (fun m as h o h' hq => am_ev_up d N m as h o h' hq) N _ _ q
section SOR
variable {p : Program} {l : Launch} {e : Env} {R : Room} {s : State} {m : MethodId} {args : Array Value} {below : List Frame} {meth : Method} {c : Code}
variable {D : va_G} {cA : Nat → ClassId} {H0 : Heap} {b L : Nat} {xs : Nat → Int32} {h0 : am_H} {r : am_O × am_H}
/-- THE WALK OF A METHOD -/
theorem so_runs {x d N : Nat} (hx : so_ckm x = true) (hx1 : x < nm_n + 1) (C : so_Cx p R s m args meth c D cA H0 b L xs (nm_mi x)) (hst : l.stackTraces = false)
    (hcall : ∀ m' as h o h', m' < nm_n → am_ev nm_pr d N m' as h = some (o, h') → so_Met l D cA H0 b L xs m' as h o h') (hb1 : am_ce r.2 - am_ce h0 ≤ R.cells) (hb2 : am_sl r.2 - am_sl h0 ≤ R.slots) :
    ∀ n : Nat, so_G p l e R s m args below meth c D cA H0 b L xs (nm_mi x) h0 r (am_run (nm_pr x) (am_ev nm_pr d N) n)
  | 0 => fun pc lv st h H locs ls hr => by cases hr
  | n + 1 => fun pc lv st h H locs ls hr hR hL hnd hlo hce hsl => by
    rw [am_run_succ] at hr
    have ih := so_runs hx hx1 C hst hcall hb1 hb2 n
    have hz := List.all_eq_true.mp so_hqz x (List.mem_range.mpr hx1)
    simp only [Bool.and_eq_true] at hz
    unfold so_ckm at hx
    simp only [Bool.and_eq_true] at hx
    have hup : ∀ c, am_run (nm_pr x) (am_ev nm_pr d N) n c = some r → am_ce c.2.2.2 ≤ am_ce r.2 ∧ am_sl c.2.2.2 ≤ am_sl r.2 := fun c hc => am_run_up (fun m as h o h' hq => am_ev_up d N m as h o h' hq) n c r hc
    refine so_step C ih (so_gtAll C ih hx.2 hz.1 hz.2) (fun m' as h o h' hm hq => ⟨hcall m' as h o h' hm hq, am_ev_up d N m' as h o h' hq⟩) hup ?_ hb1 hb2 hst hR hL hnd hlo hce hsl (am_fd (nm_pr x).1 pc) (so_ckt_fd hx.1.1 pc) hr
    intro pc lv q h hk
    unfold am_kt at hk
    split at hk
    · exact hup _ hk
    · split at hk
      · cases hk
        exact ⟨Nat.le_refl _, Nat.le_refl _⟩
      · cases hk
end SOR
/-! THE ENTRY -/
theorem am_len_pad : ∀ (n : Nat) (l : List Value), (am_pad n l).length = n
  | 0, _ => rfl
  | n + 1, [] => by simp [am_pad, am_len_pad n []]
  | n + 1, _ :: l => by simp [am_pad, am_len_pad n l]
theorem am_nth_pad : ∀ (n : Nat) (l : List Value) (j : Nat), l.length ≤ n → am_nth (am_pad n l) j = am_nth l j
  | 0, [], _, _ => rfl
  | 0, _ :: _, _, h => by simp at h
  | n + 1, [], 0, _ => rfl
  | n + 1, [], j + 1, _ => by
    have q := am_nth_pad n [] j (by simp)
    simp only [am_pad, am_nth] at q ⊢
    exact q
  | n + 1, v :: l, 0, _ => rfl
  | n + 1, v :: l, j + 1, h => am_nth_pad n l j (by simpa using h)
theorem so_cat1 {B b : Nat} {k : Nat} : (so_cv B b (.ref k)).category = 1 := by cases k <;> rfl
theorem so_as_len {B b : Nat} : ∀ as : List Value, as.all am_pl = true → (lg_sl (as.map (so_cv B b))).length = (am_as as).length
  | [], _ => rfl
  | v :: as, h => by
    simp only [List.all_cons, Bool.and_eq_true] at h
    have ih := so_as_len (B := B) (b := b) as h.2
    cases v with
    | int x => simp only [List.map_cons, lg_sl, List.flatMap_cons, am_as, List.length_append, List.length_cons] at ih ⊢; rw [ih]; simp [so_cv, Value.category]; omega
    | long x => simp only [List.map_cons, lg_sl, List.flatMap_cons, am_as, List.length_append, List.length_cons] at ih ⊢; rw [ih]; simp [so_cv, Value.category]; omega
    | ref x => simp only [List.map_cons, lg_sl, List.flatMap_cons, am_as, List.length_append, List.length_cons] at ih ⊢; rw [ih]; simp [so_cat1]; omega
    | _ => exact nomatch h.1
theorem so_as_mem {B b : Nat} : ∀ (as : List Value) (i j : Nat), as.all am_pl = true → am_nth (am_as as) j ≠ .retAddr 0 → (i + j, so_cv B b (am_nth (am_as as) j)) ∈ lv_args i (as.map (so_cv B b))
  | [], i, j, _, hn => absurd rfl hn
  | v :: as, i, j, h, hn => by
    simp only [List.all_cons, Bool.and_eq_true] at h
    cases v with
    | int x =>
      cases j with
      | zero => exact List.mem_cons_self
      | succ j =>
        have q := so_as_mem (B := B) (b := b) as (i + 1) j h.2 hn
        rw [show i + (j + 1) = i + 1 + j by omega]
        exact List.mem_cons_of_mem _ q
    | long x =>
      match j, hn with
      | 0, _ => exact List.mem_cons_self
      | 1, hn => exact absurd rfl hn
      | j + 2, hn =>
        have q := so_as_mem (B := B) (b := b) as (i + 2) j h.2 hn
        rw [show i + (j + 2) = i + 2 + j by omega]
        exact List.mem_cons_of_mem _ q
    | ref x =>
      cases j with
      | zero => exact List.mem_cons_self
      | succ j =>
        have q := so_as_mem (B := B) (b := b) as (i + 1) j h.2 hn
        rw [show i + (j + 1) = i + 1 + j by omega]
        simp only [List.map_cons, lv_args]
        rw [if_neg (by rw [so_cat1]; decide)]
        exact List.mem_cons_of_mem _ q
    | _ => exact nomatch h.1
theorem so_as_nd : ∀ (as : List Value) (j : Nat) (y : UInt64), as.all am_pl = true → am_nth (am_as as) j ≠ .double y
  | [], j, y, _, h => by cases h
  | v :: as, j, y, h, hn => by
    simp only [List.all_cons, Bool.and_eq_true] at h
    cases v with
    | int x =>
      cases j with
      | zero => cases hn
      | succ j => exact so_as_nd as j y h.2 hn
    | long x =>
      match j, hn with
      | 0, hn => cases hn
      | 1, hn => cases hn
      | j + 2, hn => exact so_as_nd as j y h.2 hn
    | ref x =>
      cases j with
      | zero => cases hn
      | succ j => exact so_as_nd as j y h.2 hn
    | _ => exact nomatch h.1
theorem so_ent {B b n : Nat} {as : List Value} (hok : am_ok as n = true) : so_L B b ((lg_sl (as.map (so_cv B b)) ++ List.replicate (n - (lg_sl (as.map (so_cv B b))).length) Slot.unset).toArray) n (am_en as n) ∧ so_nd (am_en as n) := by
  unfold am_ok at hok
  simp only [Bool.and_eq_true, decide_eq_true_eq] at hok
  obtain ⟨h1, h2⟩ := hok
  refine ⟨⟨am_len_pad _ _, (lv_entry _ (by rw [so_as_len as h1]; exact h2)).sub (fun q hq => ?_)⟩, fun i x => ?_⟩
  · obtain ⟨-, q2, q3⟩ := so_al_mem.mp hq
    unfold am_en at q2 q3
    rw [am_nth_pad _ _ _ h2] at q2 q3
    have := so_as_mem (B := B) (b := b) as 0 q.1 h1 q2
    rw [Nat.zero_add, ← q3] at this
    exact this
  · unfold am_en
    rw [am_nth_pad _ _ _ h2]
    exact so_as_nd as i x h1
/-- A METHOD's CONTRACT, of every one -/
theorem so_met {l : Launch} {D : va_G} {cA : Nat → ClassId} {H0 : Heap} {b L : Nat} {xs : Nat → Int32} (hst : l.stackTraces = false) : ∀ (d N x : Nat) (as : List Value) (h : am_H) (o : am_O) (h' : am_H), x < nm_n → am_ev nm_pr d N x as h = some (o, h') → so_Met l D cA H0 b L xs x as h o h'
  | 0, _, _, _, _, _, _, _, q => by cases q
  | d + 1, N, x, as, h, o, h', hx, q => by
    have hN : (nm_pr x).2.1 = (nm_mi x).2.2.1 := by
      have := so_mk hx
      unfold so_ckm at this
      simp only [Bool.and_eq_true, decide_eq_true_eq] at this
      exact this.1.2
    unfold am_ev at q
    cases hok : am_ok as (nm_pr x).2.1 with
    | false => rw [hok] at q; cases q
    | true =>
      rw [hok] at q
      rw [hN] at q hok
      refine MetFree.of_bodyS (code := (nm_mi x).2.1) (maxLocals := (nm_mi x).2.2.1) (ret := (nm_mi x).2.2.2.1) (so_my hx).2.1 (fun args s m hpre hn => ?_) (fun p e s m args below meth c s₁ B hml hP _ => ?_)
      · obtain ⟨mk, meth, c, h1, h2, h3, h4, h5, h6, h7, -⟩ := so_cd_spec (atoms_spec hpre _ List.mem_cons_self)
        cases hn.symm.trans h1
        exact ⟨meth, c, h2, h3, h4, h5, h6, h7⟩
      · obtain ⟨rfl, hK, hR⟩ := hP
        have X := Stand.of_body B
        have hw := atoms_spec B.pre
        obtain ⟨mk, meth', c', h1, h2, h3, h4, h5, h6, h7, h8, h9⟩ := so_cd_spec (hw _ List.mem_cons_self)
        cases B.named.symm.trans h1
        cases B.method.symm.trans h2
        cases X.code.symm.trans h3
        have C : so_Cx p (so_rm x h h') s m (as.map (so_cv H0.size b)).toArray meth c D cA H0 b L xs (nm_mi x) := by
          refine ⟨B.exec, h4, h5, ?_, fun w hw' => hw _ (List.mem_cons_of_mem _ hw'), hK, h7, h6, (name_of_methodNamed B.named B.method).1, Nat.le_refl _, Nat.le_refl _, h9, ?_⟩
          · rw [(so_my hx).1]
            exact findClass_of_methodNamed B.named
          · obtain ⟨r1, r2, -⟩ := hR
            omega
        obtain ⟨e1, e2⟩ := so_ent (B := H0.size) (b := b) hok
        have G := so_runs (p := p) (e := e) (below := below) (h0 := h) (r := (o, h')) (so_mk hx) (Nat.lt_succ_of_lt hx) C hst (fun m' as h o h' hm hq => so_met hst d N m' as h o h' hm hq) (Nat.le_refl _) (Nat.le_refl _) N
        have hs1 : s₁.heap = s.heap := by rw [B.state]; rfl
        obtain ⟨t, t1, o', t2, t3, t4⟩ := G 0 _ [] h s.heap [] _ q hR e1 e2 (fun q hq => nomatch hq) (Nat.le_refl _) (Nat.le_refl _) s₁ hs1 (by rw [Nat.sub_self, Nat.sub_self]; exact X)
        refine ⟨t, o', ?_, t2, t3, t4⟩
        rw [lg_entry_eq]
        exact t1
