section SOV
variable {p : Program} {l : Launch} {e : Env} {R : Room} {s : State} {m : MethodId} {args : Array Value} {below : List Frame} {meth : Method} {c : Code}
variable {D : va_G} {cA : Nat → ClassId} {H0 : Heap} {b L : Nat} {xs : Nat → Int32} {μ : so_I} {h0 : am_H} {r : am_O × am_H}
theorem so_acls : Cond.arrayClass .int ∈ so_TB ∧ Cond.arrayClass .long ∈ so_TB ∧ Cond.arrayClass .byte ∈ so_TB ∧ Cond.arrayClass .boolean ∈ so_TB := by
  refine ⟨?_, ?_, ?_, ?_⟩ <;> refine so_TB_in ?_ rfl <;> decide +kernel
theorem so_aov : ∀ k, k < nm_el.length → Cond.arrayOver (.object (nm_el.getD k "")) ∈ so_NS := by decide +kernel
theorem sw_new {k : am_C → Option (am_O × am_H)} {kc : Nat → List Value → am_C → Option (am_O × am_H)} {kr : am_O → am_H → Option (am_O × am_H)} {len x y z w : Nat} {v : Value} {pc : Nat} {lv st : List Value} {h : am_H} {H : Heap} {locs : List Loc} {ls : Array Slot} (C : so_Cx p R s m args meth c D cA H0 b L xs μ) (G : so_G p l e R s m args below meth c D cA H0 b L xs μ h0 r k) (hR : so_Rp D cA H0 b L xs h H) (hL : so_L H0.size b ls μ.2.2.1 lv) (hnd : so_nd lv) (hlo : ∀ q ∈ locs, H0.size ≤ q.base) (hce : am_ce h0 ≤ am_ce h) (hsl : am_sl h0 ≤ am_sl h) {n : Nat} (hy : y = 0) (hb1 : am_ce r.2 - am_ce h0 ≤ R.cells) (hb2 : am_sl r.2 - am_sl h0 ≤ R.slots) (hmono : ∀ c, k c = some r → am_ce c.2.2.2 ≤ am_ce r.2 ∧ am_sl c.2.2.2 ≤ am_sl r.2) (hck : so_ck μ pc (.new n, len, x, y, z, w, v) = true) (hr : am_stp k kc kr none (.new n, len, x, y, z, w, v) (pc, lv, st, h) = some r) : W p l e R s m args below meth c H locs (am_ce h - am_ce h0) (am_sl h - am_sl h0) (so_Z D cA H0 b L xs below s h0 r) (F0 m pc ls (st.map (so_cv H0.size b))) := by
  delta so_ck at hck
  dsimp only at hck
  simp only [Bool.and_eq_true, decide_eq_true_eq] at hck
  obtain ⟨hdg, rfl, hck⟩ := hck
  subst hy
  simp only [Bool.and_eq_true, decide_eq_true_eq] at hck
  obtain ⟨⟨h1, h2⟩, h3⟩ := hck
  simp only [am_stp] at hr
  have hce' : ∀ k n sl, am_ce (am_al h k n sl) = am_ce h + 1 := fun _ _ _ => rfl
  have hsl' : ∀ k n sl, am_sl (am_al h k n sl) = am_sl h + sl := fun _ _ _ => rfl
  split at h3
  · rename_i o j C1 C2 T N hp hc
    simp only [Bool.and_eq_true, decide_eq_true_eq] at h3
    obtain ⟨⟨⟨rfl, rfl⟩, rfl⟩, rfl⟩ := h3
    obtain ⟨q1, q2, q3, q4, q5, q6⟩ := so_cw_get hc
    obtain ⟨m1, m2⟩ := hmono _ hr
    dsimp only at m1 m2
    rw [hce'] at m1
    rw [hsl'] at m2
    refine so_new C.1 C.2.1 C.2.2.2.2.1 C.2.2.2.1 C.2.2.2.2.2.1 hR h1 h2 hc q3 q4 q6 (so_pl_mem hp) q1 q2 (by omega) (by omega) hdg (fun H1 hR1 => ?_)
    have q := G _ _ _ _ H1 locs ls hr hR1 hL hnd hlo (by rw [hce']; omega) (by rw [hsl']; omega)
    rw [hce', hsl', show am_ce h + 1 - am_ce h0 = am_ce h - am_ce h0 + 1 by omega, show ∀ N, am_sl h + N - am_sl h0 = am_sl h - am_sl h0 + N by intro N; omega] at q
    exact q
  · cases h3
theorem sw_newarray_int {k : am_C → Option (am_O × am_H)} {kc : Nat → List Value → am_C → Option (am_O × am_H)} {kr : am_O → am_H → Option (am_O × am_H)} {len x y z w : Nat} {v : Value} {pc : Nat} {lv st : List Value} {h : am_H} {H : Heap} {locs : List Loc} {ls : Array Slot} (C : so_Cx p R s m args meth c D cA H0 b L xs μ) (G : so_G p l e R s m args below meth c D cA H0 b L xs μ h0 r k) (hR : so_Rp D cA H0 b L xs h H) (hL : so_L H0.size b ls μ.2.2.1 lv) (hnd : so_nd lv) (hlo : ∀ q ∈ locs, H0.size ≤ q.base) (hce : am_ce h0 ≤ am_ce h) (hsl : am_sl h0 ≤ am_sl h) (hb1 : am_ce r.2 - am_ce h0 ≤ R.cells) (hb2 : am_sl r.2 - am_sl h0 ≤ R.slots) (hmono : ∀ c, k c = some r → am_ce c.2.2.2 ≤ am_ce r.2 ∧ am_sl c.2.2.2 ≤ am_sl r.2) (hck : so_ck μ pc (.newarray .int, len, x, y, z, w, v) = true) (hr : am_stp k kc kr none (.newarray .int, len, x, y, z, w, v) (pc, lv, st, h) = some r) : W p l e R s m args below meth c H locs (am_ce h - am_ce h0) (am_sl h - am_sl h0) (so_Z D cA H0 b L xs below s h0 r) (F0 m pc ls (st.map (so_cv H0.size b))) := by
  have hck : (decide (decode μ.2.1 pc = .ok (.newarray .int, len)) && (decide (len = 2) && decide (x = 100) && decide (x ≠ 0))) = true := hck
  simp only [Bool.and_eq_true, decide_eq_true_eq] at hck
  obtain ⟨hdg, ⟨rfl, rfl⟩, -⟩ := hck
  simp only [am_stp] at hr
  have hce' : ∀ k n sl, am_ce (am_al h k n sl) = am_ce h + 1 := fun _ _ _ => rfl
  have hsl' : ∀ k n sl, am_sl (am_al h k n sl) = am_sl h + sl := fun _ _ _ => rfl
  split at hr
  · split at hr
    · rename_i hn
      obtain ⟨m1, m2⟩ := hmono _ hr
      dsimp only at m1 m2
      rw [hce'] at m1
      rw [hsl'] at m2

      exact so_newa (t0 := 0) (ty := .int) C.1 C.2.1 C.2.2.2.2.1 C.2.2.2.2.2.1 hR rfl so_acls.1 rfl (fun C q => by cases q) (by decide) (by decide) (fun B => rfl) hn.1 hn.2 (by omega) (by omega) hdg (fun H1 hR1 => by
        have q := G _ _ _ _ H1 locs ls hr hR1 hL hnd hlo (by rw [hce']; omega) (by rw [hsl']; omega)
        rw [hce', hsl', show am_ce h + 1 - am_ce h0 = am_ce h - am_ce h0 + 1 by omega, show ∀ N, am_sl h + N - am_sl h0 = am_sl h - am_sl h0 + N by intro N; omega] at q
        exact q)
    · cases hr
  · cases hr
theorem sw_newarray_long {k : am_C → Option (am_O × am_H)} {kc : Nat → List Value → am_C → Option (am_O × am_H)} {kr : am_O → am_H → Option (am_O × am_H)} {len x y z w : Nat} {v : Value} {pc : Nat} {lv st : List Value} {h : am_H} {H : Heap} {locs : List Loc} {ls : Array Slot} (C : so_Cx p R s m args meth c D cA H0 b L xs μ) (G : so_G p l e R s m args below meth c D cA H0 b L xs μ h0 r k) (hR : so_Rp D cA H0 b L xs h H) (hL : so_L H0.size b ls μ.2.2.1 lv) (hnd : so_nd lv) (hlo : ∀ q ∈ locs, H0.size ≤ q.base) (hce : am_ce h0 ≤ am_ce h) (hsl : am_sl h0 ≤ am_sl h) (hb1 : am_ce r.2 - am_ce h0 ≤ R.cells) (hb2 : am_sl r.2 - am_sl h0 ≤ R.slots) (hmono : ∀ c, k c = some r → am_ce c.2.2.2 ≤ am_ce r.2 ∧ am_sl c.2.2.2 ≤ am_sl r.2) (hck : so_ck μ pc (.newarray .long, len, x, y, z, w, v) = true) (hr : am_stp k kc kr none (.newarray .long, len, x, y, z, w, v) (pc, lv, st, h) = some r) : W p l e R s m args below meth c H locs (am_ce h - am_ce h0) (am_sl h - am_sl h0) (so_Z D cA H0 b L xs below s h0 r) (F0 m pc ls (st.map (so_cv H0.size b))) := by
  have hck : (decide (decode μ.2.1 pc = .ok (.newarray .long, len)) && (decide (len = 2) && decide (x = 101) && decide (x ≠ 0))) = true := hck
  simp only [Bool.and_eq_true, decide_eq_true_eq] at hck
  obtain ⟨hdg, ⟨rfl, rfl⟩, -⟩ := hck
  simp only [am_stp] at hr
  have hce' : ∀ k n sl, am_ce (am_al h k n sl) = am_ce h + 1 := fun _ _ _ => rfl
  have hsl' : ∀ k n sl, am_sl (am_al h k n sl) = am_sl h + sl := fun _ _ _ => rfl
  split at hr
  · split at hr
    · rename_i hn
      obtain ⟨m1, m2⟩ := hmono _ hr
      dsimp only at m1 m2
      rw [hce'] at m1
      rw [hsl'] at m2

      exact so_newa (t0 := 1) (ty := .long) C.1 C.2.1 C.2.2.2.2.1 C.2.2.2.2.2.1 hR rfl so_acls.2.1 rfl (fun C q => by cases q) (by decide) (by decide) (fun B => rfl) hn.1 hn.2 (by omega) (by omega) hdg (fun H1 hR1 => by
        have q := G _ _ _ _ H1 locs ls hr hR1 hL hnd hlo (by rw [hce']; omega) (by rw [hsl']; omega)
        rw [hce', hsl', show am_ce h + 1 - am_ce h0 = am_ce h - am_ce h0 + 1 by omega, show ∀ N, am_sl h + N - am_sl h0 = am_sl h - am_sl h0 + N by intro N; omega] at q
        exact q)
    · cases hr
  · cases hr
theorem sw_newarray_byte {k : am_C → Option (am_O × am_H)} {kc : Nat → List Value → am_C → Option (am_O × am_H)} {kr : am_O → am_H → Option (am_O × am_H)} {len x y z w : Nat} {v : Value} {pc : Nat} {lv st : List Value} {h : am_H} {H : Heap} {locs : List Loc} {ls : Array Slot} (C : so_Cx p R s m args meth c D cA H0 b L xs μ) (G : so_G p l e R s m args below meth c D cA H0 b L xs μ h0 r k) (hR : so_Rp D cA H0 b L xs h H) (hL : so_L H0.size b ls μ.2.2.1 lv) (hnd : so_nd lv) (hlo : ∀ q ∈ locs, H0.size ≤ q.base) (hce : am_ce h0 ≤ am_ce h) (hsl : am_sl h0 ≤ am_sl h) (hb1 : am_ce r.2 - am_ce h0 ≤ R.cells) (hb2 : am_sl r.2 - am_sl h0 ≤ R.slots) (hmono : ∀ c, k c = some r → am_ce c.2.2.2 ≤ am_ce r.2 ∧ am_sl c.2.2.2 ≤ am_sl r.2) (hck : so_ck μ pc (.newarray .byte, len, x, y, z, w, v) = true) (hr : am_stp k kc kr none (.newarray .byte, len, x, y, z, w, v) (pc, lv, st, h) = some r) : W p l e R s m args below meth c H locs (am_ce h - am_ce h0) (am_sl h - am_sl h0) (so_Z D cA H0 b L xs below s h0 r) (F0 m pc ls (st.map (so_cv H0.size b))) := by
  have hck : (decide (decode μ.2.1 pc = .ok (.newarray .byte, len)) && (decide (len = 2) && decide (x = 102) && decide (x ≠ 0))) = true := hck
  simp only [Bool.and_eq_true, decide_eq_true_eq] at hck
  obtain ⟨hdg, ⟨rfl, rfl⟩, -⟩ := hck
  simp only [am_stp] at hr
  have hce' : ∀ k n sl, am_ce (am_al h k n sl) = am_ce h + 1 := fun _ _ _ => rfl
  have hsl' : ∀ k n sl, am_sl (am_al h k n sl) = am_sl h + sl := fun _ _ _ => rfl
  split at hr
  · split at hr
    · rename_i hn
      obtain ⟨m1, m2⟩ := hmono _ hr
      dsimp only at m1 m2
      rw [hce'] at m1
      rw [hsl'] at m2

      exact so_newa (t0 := 2) (ty := .byte) C.1 C.2.1 C.2.2.2.2.1 C.2.2.2.2.2.1 hR rfl so_acls.2.2.1 rfl (fun C q => by cases q) (by decide) (by decide) (fun B => rfl) hn.1 hn.2 (by omega) (by omega) hdg (fun H1 hR1 => by
        have q := G _ _ _ _ H1 locs ls hr hR1 hL hnd hlo (by rw [hce']; omega) (by rw [hsl']; omega)
        rw [hce', hsl', show am_ce h + 1 - am_ce h0 = am_ce h - am_ce h0 + 1 by omega, show ∀ N, am_sl h + N - am_sl h0 = am_sl h - am_sl h0 + N by intro N; omega] at q
        exact q)
    · cases hr
  · cases hr
theorem sw_newarray_boolean {k : am_C → Option (am_O × am_H)} {kc : Nat → List Value → am_C → Option (am_O × am_H)} {kr : am_O → am_H → Option (am_O × am_H)} {len x y z w : Nat} {v : Value} {pc : Nat} {lv st : List Value} {h : am_H} {H : Heap} {locs : List Loc} {ls : Array Slot} (C : so_Cx p R s m args meth c D cA H0 b L xs μ) (G : so_G p l e R s m args below meth c D cA H0 b L xs μ h0 r k) (hR : so_Rp D cA H0 b L xs h H) (hL : so_L H0.size b ls μ.2.2.1 lv) (hnd : so_nd lv) (hlo : ∀ q ∈ locs, H0.size ≤ q.base) (hce : am_ce h0 ≤ am_ce h) (hsl : am_sl h0 ≤ am_sl h) (hb1 : am_ce r.2 - am_ce h0 ≤ R.cells) (hb2 : am_sl r.2 - am_sl h0 ≤ R.slots) (hmono : ∀ c, k c = some r → am_ce c.2.2.2 ≤ am_ce r.2 ∧ am_sl c.2.2.2 ≤ am_sl r.2) (hck : so_ck μ pc (.newarray .boolean, len, x, y, z, w, v) = true) (hr : am_stp k kc kr none (.newarray .boolean, len, x, y, z, w, v) (pc, lv, st, h) = some r) : W p l e R s m args below meth c H locs (am_ce h - am_ce h0) (am_sl h - am_sl h0) (so_Z D cA H0 b L xs below s h0 r) (F0 m pc ls (st.map (so_cv H0.size b))) := by
  have hck : (decide (decode μ.2.1 pc = .ok (.newarray .boolean, len)) && (decide (len = 2) && decide (x = 103) && decide (x ≠ 0))) = true := hck
  simp only [Bool.and_eq_true, decide_eq_true_eq] at hck
  obtain ⟨hdg, ⟨rfl, rfl⟩, -⟩ := hck
  simp only [am_stp] at hr
  have hce' : ∀ k n sl, am_ce (am_al h k n sl) = am_ce h + 1 := fun _ _ _ => rfl
  have hsl' : ∀ k n sl, am_sl (am_al h k n sl) = am_sl h + sl := fun _ _ _ => rfl
  split at hr
  · split at hr
    · rename_i hn
      obtain ⟨m1, m2⟩ := hmono _ hr
      dsimp only at m1 m2
      rw [hce'] at m1
      rw [hsl'] at m2

      exact so_newa (t0 := 3) (ty := .boolean) C.1 C.2.1 C.2.2.2.2.1 C.2.2.2.2.2.1 hR rfl so_acls.2.2.2 rfl (fun C q => by cases q) (by decide) (by decide) (fun B => rfl) hn.1 hn.2 (by omega) (by omega) hdg (fun H1 hR1 => by
        have q := G _ _ _ _ H1 locs ls hr hR1 hL hnd hlo (by rw [hce']; omega) (by rw [hsl']; omega)
        rw [hce', hsl', show am_ce h + 1 - am_ce h0 = am_ce h - am_ce h0 + 1 by omega, show ∀ N, am_sl h + N - am_sl h0 = am_sl h - am_sl h0 + N by intro N; omega] at q
        exact q)
    · cases hr
  · cases hr
theorem sw_anewarray {k : am_C → Option (am_O × am_H)} {kc : Nat → List Value → am_C → Option (am_O × am_H)} {kr : am_O → am_H → Option (am_O × am_H)} {len x y z w : Nat} {v : Value} {pc : Nat} {lv st : List Value} {h : am_H} {H : Heap} {locs : List Loc} {ls : Array Slot} (C : so_Cx p R s m args meth c D cA H0 b L xs μ) (G : so_G p l e R s m args below meth c D cA H0 b L xs μ h0 r k) (hR : so_Rp D cA H0 b L xs h H) (hL : so_L H0.size b ls μ.2.2.1 lv) (hnd : so_nd lv) (hlo : ∀ q ∈ locs, H0.size ≤ q.base) (hce : am_ce h0 ≤ am_ce h) (hsl : am_sl h0 ≤ am_sl h) {n : Nat} (hb1 : am_ce r.2 - am_ce h0 ≤ R.cells) (hb2 : am_sl r.2 - am_sl h0 ≤ R.slots) (hmono : ∀ c, k c = some r → am_ce c.2.2.2 ≤ am_ce r.2 ∧ am_sl c.2.2.2 ≤ am_sl r.2) (hck : so_ck μ pc (.anewarray n, len, x, y, z, w, v) = true) (hr : am_stp k kc kr none (.anewarray n, len, x, y, z, w, v) (pc, lv, st, h) = some r) : W p l e R s m args below meth c H locs (am_ce h - am_ce h0) (am_sl h - am_sl h0) (so_Z D cA H0 b L xs below s h0 r) (F0 m pc ls (st.map (so_cv H0.size b))) := by
  delta so_ck at hck
  dsimp only at hck
  simp only [Bool.and_eq_true, decide_eq_true_eq] at hck
  obtain ⟨hdg, ⟨⟨rfl, h1⟩, h2⟩, h3⟩ := hck
  simp only [am_stp] at hr
  have hce' : ∀ k n sl, am_ce (am_al h k n sl) = am_ce h + 1 := fun _ _ _ => rfl
  have hsl' : ∀ k n sl, am_sl (am_al h k n sl) = am_sl h + sl := fun _ _ _ => rfl
  obtain ⟨k0, rfl⟩ : ∃ k0, x = 200 + k0 := ⟨x - 200, by omega⟩
  rw [show 200 + k0 - 200 = k0 by omega] at h2 h3
  split at h3
  · rename_i o j C1 hp
    simp only [Bool.and_eq_true, decide_eq_true_eq] at h3
    obtain ⟨⟨rfl, rfl⟩, rfl⟩ := h3
    split at hr
    · split at hr
      · rename_i hn
        obtain ⟨m1, m2⟩ := hmono _ hr
        dsimp only at m1 m2
        rw [hce'] at m1
        rw [hsl'] at m2

        exact so_newq C.1 C.2.1 C.2.2.2.2.1 C.2.2.2.1 C.2.2.2.2.2.1 hR h2 (so_pl_mem hp) (so_aov _ h2) hn.1 hn.2 (by omega) (by omega) hdg (fun H1 hR1 => by
        have q := G _ _ _ _ H1 locs ls hr hR1 hL hnd hlo (by rw [hce']; omega) (by rw [hsl']; omega)
        rw [hce', hsl', show am_ce h + 1 - am_ce h0 = am_ce h - am_ce h0 + 1 by omega, show ∀ N, am_sl h + N - am_sl h0 = am_sl h - am_sl h0 + N by intro N; omega] at q
        exact q)
      · cases hr
    · cases hr
  · cases h3
theorem sw_aastore {k : am_C → Option (am_O × am_H)} {kc : Nat → List Value → am_C → Option (am_O × am_H)} {kr : am_O → am_H → Option (am_O × am_H)} {len x y z w : Nat} {v : Value} {pc : Nat} {lv st : List Value} {h : am_H} {H : Heap} {locs : List Loc} {ls : Array Slot} (C : so_Cx p R s m args meth c D cA H0 b L xs μ) (G : so_G p l e R s m args below meth c D cA H0 b L xs μ h0 r k) (hR : so_Rp D cA H0 b L xs h H) (hL : so_L H0.size b ls μ.2.2.1 lv) (hnd : so_nd lv) (hlo : ∀ q ∈ locs, H0.size ≤ q.base) (hce : am_ce h0 ≤ am_ce h) (hsl : am_sl h0 ≤ am_sl h)  (hck : so_ck μ pc (.aastore, len, x, y, z, w, v) = true) (hr : am_stp k kc kr none (.aastore, len, x, y, z, w, v) (pc, lv, st, h) = some r) : W p l e R s m args below meth c H locs (am_ce h - am_ce h0) (am_sl h - am_sl h0) (so_Z D cA H0 b L xs below s h0 r) (F0 m pc ls (st.map (so_cv H0.size b))) := by
  delta so_ck at hck
  dsimp only at hck
  simp only [Bool.and_eq_true, decide_eq_true_eq, List.all_eq_true, List.mem_cons, List.not_mem_nil, or_false, Bool.or_eq_true] at hck
  obtain ⟨hdg, ⟨⟨rfl, h1⟩, h2⟩, h3⟩ := hck
  simp only [am_stp] at hr
  split at hr
  · rename_i b' i a st'
    split at hr
    · rename_i hk
      split at hr
      · rename_i hv
        split at hr
        · cases hr
        · rename_i hi
          obtain ⟨kd, hkd, hm⟩ : ∃ kd, am_kd h b' = kd ∧ (kd = x ∨ kd = y) := by
            rcases hv with hv | hv
            · exact ⟨x, hv, Or.inl rfl⟩
            · exact ⟨y, hv, Or.inr rfl⟩
          obtain ⟨⟨g1, g2⟩, g3⟩ := h3 kd hm
          split at g3
          · rename_i C1 T N hc
            simp only [Bool.or_eq_true, decide_eq_true_eq] at g3
            exact so_aast (k := z - 200) C.1 C.2.1 C.2.2.2.2.2.1 hR (by omega) h2 hkd g1 g2 hc g3 hi hlo hdg (fun H1 locs1 hR1 hl1 => by have q := G _ _ _ _ H1 locs1 ls hr hR1 hL hnd hl1 hce hsl; exact q)
          · cases g3
      · cases hr
    · cases hr
  · cases hr
theorem so_retZ {H : Heap} {locs : List Loc} {g : JFrame} {v : Option Value} {h : am_H} (hr : r = (.inl v, h)) (hR : so_Rp D cA H0 b L xs h H) (hlo : ∀ q ∈ locs, H0.size ≤ q.base)
    (k : ∀ Qc : Array Value → State → Outcome → State → Prop, (∀ t : State, t.heap = H → s.WarmedH t.vm → Qc args s (.returned (v.map (so_cv H0.size b))) t) → W p l e R s m args below meth c H locs (am_ce h - am_ce h0) (am_sl h - am_sl h0) (MQ below Qc args s (am_ce h - am_ce h0) (am_sl h - am_sl h0) (fun x => H0.size ≤ x)) g) :
    W p l e R s m args below meth c H locs (am_ce h - am_ce h0) (am_sl h - am_sl h0) (so_Z D cA H0 b L xs below s h0 r) g := by
  subst hr
  refine W.imp (fun t ht => ?_) (k (fun _ st o' t => o' = .returned (v.map (so_cv H0.size b)) ∧ t.heap = H) (fun t ht _ => ⟨rfl, ht⟩))
  obtain ⟨o', a1, a2, ⟨a3, a4⟩, Lc, ⟨-, a5, a6⟩, a7⟩ := ht
  exact ⟨o', a1, a2, a3, by rw [a4]; exact hR, Lc, a5, a6, a7⟩
theorem so_Wiret {H : Heap} {locs : List Loc} {cells slots : Nat} {cc : ByteArray} {Qc : Array Value → State → Outcome → State → Prop} {free : Addr → Prop} {v : Int32} {ty : FieldType} (hexec : p.tables.exec = Jvm.exec) (hb : c.code = cc) (hr : meth.sig.returnType = some ty) (hn : narrow ty (.int v) = .int v)
    (hq : ∀ t : State, t.heap = H → s.WarmedH t.vm → Qc args s (.returned (some (.int v))) t) (hf : ∀ q ∈ locs, free q.base)
    {pc : Nat} {ls : Array Slot} {rest : List Value} (hdg : decode cc pc = .ok (.ireturn, 1)) (hlocks : meth.locks = false) : W p l e R s m args below meth c H locs cells slots (MQ below Qc args s cells slots free) (F0 m pc ls (.int v :: rest)) := by
  intro T hT X
  obtain ⟨fs, hret, hrun, hended, hW, hframe⟩ := X.leave (v := some (.int v)) (fun h => by rw [hr] at h; cases h)
  have hmeth' : T.vm.method? m = some meth := X.method'
  refine ⟨T.setFrames fs, ?_, .returned (some (.int v)), hrun, hended, hq _ hT hW, locs, ⟨⟨_, rfl⟩, hW, hframe⟩, hf⟩
  jvm_step X.here [X.here.top, hexec, hb, hdg, hmeth', hr, hn]
  (try refine ⟨rfl, ?_⟩); (try refine ⟨rfl, ?_⟩)
  first | (intro acts; rw [hret _ acts rfl rfl rfl]) | rw [hret _ _ rfl rfl rfl]
  exact Steps.refl _
theorem so_Wlret {H : Heap} {locs : List Loc} {cells slots : Nat} {cc : ByteArray} {Qc : Array Value → State → Outcome → State → Prop} {free : Addr → Prop} {v : Int64} (hexec : p.tables.exec = Jvm.exec) (hb : c.code = cc) (hr : meth.sig.returnType = some .long)
    (hq : ∀ t : State, t.heap = H → s.WarmedH t.vm → Qc args s (.returned (some (.long v))) t) (hf : ∀ q ∈ locs, free q.base)
    {pc : Nat} {ls : Array Slot} {rest : List Value} (hdg : decode cc pc = .ok (.lreturn, 1)) (hlocks : meth.locks = false) : W p l e R s m args below meth c H locs cells slots (MQ below Qc args s cells slots free) (F0 m pc ls (.long v :: rest)) := by
  intro T hT X
  obtain ⟨fs, hret, hrun, hended, hW, hframe⟩ := X.leave (v := some (.long v)) (fun h => by rw [hr] at h; cases h)
  have hmeth' : T.vm.method? m = some meth := X.method'
  refine ⟨T.setFrames fs, ?_, .returned (some (.long v)), hrun, hended, hq _ hT hW, locs, ⟨⟨_, rfl⟩, hW, hframe⟩, hf⟩
  jvm_step X.here [X.here.top, hexec, hb, hdg, hmeth', hr]
  (try refine ⟨rfl, ?_⟩); (try refine ⟨rfl, ?_⟩)
  first | (intro acts; rw [hret _ acts rfl rfl rfl]) | rw [hret _ _ rfl rfl rfl]
  exact Steps.refl _
theorem so_Waret {H : Heap} {locs : List Loc} {cells slots : Nat} {cc : ByteArray} {Qc : Array Value → State → Outcome → State → Prop} {free : Addr → Prop} {v : Value} {rt : FieldType} (hexec : p.tables.exec = Jvm.exec) (hb : c.code = cc) (hr : meth.sig.returnType = some rt)
    (hrt : (∃ n, rt = .object n) ∨ ∃ t, rt = .array t) (hv : v = .null ∨ ∃ a, v = .ref a)
    (hq : ∀ t : State, t.heap = H → s.WarmedH t.vm → Qc args s (.returned (some v)) t) (hf : ∀ q ∈ locs, free q.base)
    {pc : Nat} {ls : Array Slot} {rest : List Value} (hdg : decode cc pc = .ok (.areturn, 1)) (hlocks : meth.locks = false) : W p l e R s m args below meth c H locs cells slots (MQ below Qc args s cells slots free) (F0 m pc ls (v :: rest)) := by
  intro T hT X
  obtain ⟨fs, hret, hrun, hended, hW, hframe⟩ := X.leave (v := some v) (fun h => by rw [hr] at h; cases h)
  have hmeth' : T.vm.method? m = some meth := X.method'
  refine ⟨T.setFrames fs, ?_, .returned (some v), hrun, hended, hq _ hT hW, locs, ⟨⟨_, rfl⟩, hW, hframe⟩, hf⟩
  rcases hrt with ⟨n, rfl⟩ | ⟨t, rfl⟩ <;> rcases hv with rfl | ⟨a, rfl⟩ <;>
    (jvm_step X.here [X.here.top, hexec, hb, hdg, hmeth', hr]
     (try refine ⟨rfl, ?_⟩); (try refine ⟨rfl, ?_⟩)
     first | (intro acts; rw [hret _ acts rfl rfl rfl]) | rw [hret _ _ rfl rfl rfl]
     exact Steps.refl _)
theorem so_Wvret {H : Heap} {locs : List Loc} {cells slots : Nat} {cc : ByteArray} {Qc : Array Value → State → Outcome → State → Prop} {free : Addr → Prop} (hexec : p.tables.exec = Jvm.exec) (hb : c.code = cc) (hr : meth.sig.returnType = none)
    (hq : ∀ t : State, t.heap = H → s.WarmedH t.vm → Qc args s (.returned none) t) (hf : ∀ q ∈ locs, free q.base)
    {pc : Nat} {ls : Array Slot} {rest : List Value} (hdg : decode cc pc = .ok (.return_, 1)) (hlocks : meth.locks = false) : W p l e R s m args below meth c H locs cells slots (MQ below Qc args s cells slots free) (F0 m pc ls rest) := by
  intro T hT X
  obtain ⟨fs, hret, hrun, hended, hW, hframe⟩ := X.leave (v := none) (fun _ => rfl)
  have hmeth' : T.vm.method? m = some meth := X.method'
  refine ⟨T.setFrames fs, ?_, .returned none, hrun, hended, hq _ hT hW, locs, ⟨⟨_, rfl⟩, hW, hframe⟩, hf⟩
  jvm_step X.here [X.here.top, hexec, hb, hdg, hmeth', hr]
  (try refine ⟨rfl, ?_⟩); (try refine ⟨rfl, ?_⟩)
  first | (intro acts; rw [hret _ acts rfl rfl rfl]) | rw [hret _ _ rfl rfl rfl]
  exact Steps.refl _
theorem sw_return {k : am_C → Option (am_O × am_H)} {kc : Nat → List Value → am_C → Option (am_O × am_H)} {kr : am_O → am_H → Option (am_O × am_H)} {len x y z w : Nat} {v : Value} {pc : Nat} {lv st : List Value} {h : am_H} {H : Heap} {locs : List Loc} {ls : Array Slot} (C : so_Cx p R s m args meth c D cA H0 b L xs μ) (G : so_G p l e R s m args below meth c D cA H0 b L xs μ h0 r k) (hR : so_Rp D cA H0 b L xs h H) (hL : so_L H0.size b ls μ.2.2.1 lv) (hnd : so_nd lv) (hlo : ∀ q ∈ locs, H0.size ≤ q.base) (hce : am_ce h0 ≤ am_ce h) (hsl : am_sl h0 ≤ am_sl h) (hkr : kr = fun o h => some (o, h)) (hck : so_ck μ pc (.return_, len, x, y, z, w, v) = true) (hr : am_stp k kc kr none (.return_, len, x, y, z, w, v) (pc, lv, st, h) = some r) : W p l e R s m args below meth c H locs (am_ce h - am_ce h0) (am_sl h - am_sl h0) (so_Z D cA H0 b L xs below s h0 r) (F0 m pc ls (st.map (so_cv H0.size b))) := by
  have hck : (decide (decode μ.2.1 pc = .ok (.return_, len)) && (decide (len = 1) && decide (μ.2.2.2.1 = none))) = true := hck
  simp only [Bool.and_eq_true, decide_eq_true_eq] at hck
  obtain ⟨hdg, rfl, hrt⟩ := hck
  simp only [am_stp] at hr
  subst hkr
  exact so_retZ (v := none) (Option.some.inj hr).symm hR hlo (fun Qc hq => so_Wvret C.1 C.2.1 (by rw [C.2.2.2.2.2.2.2.1]; exact hrt) hq hlo hdg C.2.2.2.2.2.2.1)
theorem sw_lreturn {k : am_C → Option (am_O × am_H)} {kc : Nat → List Value → am_C → Option (am_O × am_H)} {kr : am_O → am_H → Option (am_O × am_H)} {len x y z w : Nat} {v : Value} {pc : Nat} {lv st : List Value} {h : am_H} {H : Heap} {locs : List Loc} {ls : Array Slot} (C : so_Cx p R s m args meth c D cA H0 b L xs μ) (G : so_G p l e R s m args below meth c D cA H0 b L xs μ h0 r k) (hR : so_Rp D cA H0 b L xs h H) (hL : so_L H0.size b ls μ.2.2.1 lv) (hnd : so_nd lv) (hlo : ∀ q ∈ locs, H0.size ≤ q.base) (hce : am_ce h0 ≤ am_ce h) (hsl : am_sl h0 ≤ am_sl h) (hkr : kr = fun o h => some (o, h)) (hck : so_ck μ pc (.lreturn, len, x, y, z, w, v) = true) (hr : am_stp k kc kr none (.lreturn, len, x, y, z, w, v) (pc, lv, st, h) = some r) : W p l e R s m args below meth c H locs (am_ce h - am_ce h0) (am_sl h - am_sl h0) (so_Z D cA H0 b L xs below s h0 r) (F0 m pc ls (st.map (so_cv H0.size b))) := by
  have hck : (decide (decode μ.2.1 pc = .ok (.lreturn, len)) && (decide (len = 1) && decide (μ.2.2.2.1 = some .long))) = true := hck
  simp only [Bool.and_eq_true, decide_eq_true_eq] at hck
  obtain ⟨hdg, rfl, hrt⟩ := hck
  simp only [am_stp] at hr
  subst hkr
  split at hr
  · rename_i a st'
    exact so_retZ (v := some (.long a)) (Option.some.inj hr).symm hR hlo (fun Qc hq => so_Wlret C.1 C.2.1 (by rw [C.2.2.2.2.2.2.2.1]; exact hrt) hq hlo hdg C.2.2.2.2.2.2.1)
  · cases hr
theorem sw_ireturn {k : am_C → Option (am_O × am_H)} {kc : Nat → List Value → am_C → Option (am_O × am_H)} {kr : am_O → am_H → Option (am_O × am_H)} {len x y z w : Nat} {v : Value} {pc : Nat} {lv st : List Value} {h : am_H} {H : Heap} {locs : List Loc} {ls : Array Slot} (C : so_Cx p R s m args meth c D cA H0 b L xs μ) (G : so_G p l e R s m args below meth c D cA H0 b L xs μ h0 r k) (hR : so_Rp D cA H0 b L xs h H) (hL : so_L H0.size b ls μ.2.2.1 lv) (hnd : so_nd lv) (hlo : ∀ q ∈ locs, H0.size ≤ q.base) (hce : am_ce h0 ≤ am_ce h) (hsl : am_sl h0 ≤ am_sl h) (hkr : kr = fun o h => some (o, h)) (hck : so_ck μ pc (.ireturn, len, x, y, z, w, v) = true) (hr : am_stp k kc kr none (.ireturn, len, x, y, z, w, v) (pc, lv, st, h) = some r) : W p l e R s m args below meth c H locs (am_ce h - am_ce h0) (am_sl h - am_sl h0) (so_Z D cA H0 b L xs below s h0 r) (F0 m pc ls (st.map (so_cv H0.size b))) := by
  delta so_ck at hck
  dsimp only at hck
  simp only [Bool.and_eq_true, decide_eq_true_eq] at hck
  obtain ⟨hdg, rfl, hrt⟩ := hck
  simp only [am_stp] at hr
  subst hkr
  split at hr
  · rename_i a st'
    split at hr
    · rename_i hx
      split at hrt
      · rename_i hi
        exact so_retZ (v := some (.int a)) (Option.some.inj hr).symm hR hlo (fun Qc hq => so_Wiret (ty := .int) C.1 C.2.1 (by rw [C.2.2.2.2.2.2.2.1]; exact hi) rfl hq hlo hdg C.2.2.2.2.2.2.1)
      · rename_i hi
        simp only [decide_eq_true_eq] at hrt
        have hb : narrow .boolean (.int a) = .int a := by
          rcases hx with q | rfl | rfl
          · omega
          · decide +kernel
          · decide +kernel
        exact so_retZ (v := some (.int a)) (Option.some.inj hr).symm hR hlo (fun Qc hq => so_Wiret (ty := .boolean) C.1 C.2.1 (by rw [C.2.2.2.2.2.2.2.1]; exact hi) hb hq hlo hdg C.2.2.2.2.2.2.1)
      · cases hrt
    · cases hr
  · cases hr
theorem sw_areturn {k : am_C → Option (am_O × am_H)} {kc : Nat → List Value → am_C → Option (am_O × am_H)} {kr : am_O → am_H → Option (am_O × am_H)} {len x y z w : Nat} {v : Value} {pc : Nat} {lv st : List Value} {h : am_H} {H : Heap} {locs : List Loc} {ls : Array Slot} (C : so_Cx p R s m args meth c D cA H0 b L xs μ) (G : so_G p l e R s m args below meth c D cA H0 b L xs μ h0 r k) (hR : so_Rp D cA H0 b L xs h H) (hL : so_L H0.size b ls μ.2.2.1 lv) (hnd : so_nd lv) (hlo : ∀ q ∈ locs, H0.size ≤ q.base) (hce : am_ce h0 ≤ am_ce h) (hsl : am_sl h0 ≤ am_sl h) (hkr : kr = fun o h => some (o, h)) (hck : so_ck μ pc (.areturn, len, x, y, z, w, v) = true) (hr : am_stp k kc kr none (.areturn, len, x, y, z, w, v) (pc, lv, st, h) = some r) : W p l e R s m args below meth c H locs (am_ce h - am_ce h0) (am_sl h - am_sl h0) (so_Z D cA H0 b L xs below s h0 r) (F0 m pc ls (st.map (so_cv H0.size b))) := by
  delta so_ck at hck
  dsimp only at hck
  simp only [Bool.and_eq_true, decide_eq_true_eq] at hck
  obtain ⟨hdg, rfl, hrt⟩ := hck
  simp only [am_stp] at hr
  subst hkr
  split at hr
  · rename_i a st'
    split at hrt
    · rename_i C' hi
      exact so_retZ (v := some (.ref a)) (Option.some.inj hr).symm hR hlo (fun Qc hq => so_Waret C.1 C.2.1 (by rw [C.2.2.2.2.2.2.2.1]; exact hi) (Or.inl ⟨_, rfl⟩) (by cases a; exact Or.inl rfl; exact Or.inr ⟨_, rfl⟩) hq hlo hdg C.2.2.2.2.2.2.1)
    · cases hrt
  · cases hr
end SOV
