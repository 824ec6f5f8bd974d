section SOZ3
variable {p : Program} {l : Launch} {e : Env} {R : Room} {s : State} {m : MethodId} {args : Array Value} {below : List Frame} {meth : Method} {c : Code}
variable {D : va_G} {cA : Nat → ClassId} {H0 : Heap} {b L : Nat} {xs : Nat → Int32} {μ : so_I} {h0 : am_H} {r : am_O × am_H}
theorem so_ns1 {q : MethodName} (h : Cond.declares q ∈ so_NS) (hs : ∃ C y, Cond.selects C q y ∈ nm_dy.map (·.1)) : Cond.sameMethod q.cls q.cls q.name q.desc ∈ so_TB := by
  obtain ⟨C, y, hs⟩ := hs
  have e : q = ⟨"SortedRuns$Stream", "step", "()V"⟩ := by
    simp only [nm_dy, List.map_cons, List.map_nil, List.mem_cons, List.not_mem_nil, or_false, Cond.selects.injEq] at hs
    rcases hs with h | h
    · exact h.2.1
    · exact h.2.1
  rw [e]
  exact so_sm
theorem sw_invokevirtual {k : am_C → Option (am_O × am_H)} {kc : Nat → List Value → am_C → Option (am_O × am_H)} {kr : am_O → am_H → Option (am_O × am_H)} {len x y z w : Nat} {v : Value} {pc : Nat} {lv st : List Value} {h : am_H} {H : Heap} {locs : List Loc} {ls : Array Slot} (C : so_Cx p R s m args meth c D cA H0 b L xs μ) (G : so_G p l e R s m args below meth c D cA H0 b L xs μ h0 r k) (hR : so_Rp D cA H0 b L xs h H) (hL : so_L H0.size b ls μ.2.2.1 lv) (hnd : so_nd lv) (hlo : ∀ q ∈ locs, H0.size ≤ q.base) (hce : am_ce h0 ≤ am_ce h) (hsl : am_sl h0 ≤ am_sl h) {n : Nat} {M : am_M} {call : Nat → List Value → am_H → Option (am_O × am_H)} (GT : so_GT p l e R s m args below meth c D cA H0 b L xs μ h0 r (am_kt M k)) (hcall : ∀ m' as h o h', m' < nm_n → call m' as h = some (o, h') → so_Met l D cA H0 b L xs m' as h o h' ∧ am_ce h ≤ am_ce h' ∧ am_sl h ≤ am_sl h') (hkc : kc = am_kk M call k)
    (hmk : ∀ c, k c = some r → am_ce c.2.2.2 ≤ am_ce r.2 ∧ am_sl c.2.2.2 ≤ am_sl r.2) (hmt : ∀ pc lv q h, am_kt M k pc lv q h = some r → am_ce h ≤ am_ce r.2 ∧ am_sl h ≤ am_sl r.2) (hb1 : am_ce r.2 - am_ce h0 ≤ R.cells) (hb2 : am_sl r.2 - am_sl h0 ≤ R.slots) (hck : so_ck μ pc (.invokevirtual n, len, x, y, z, w, v) = true) (hr : am_stp k kc kr none (.invokevirtual n, len, x, y, z, w, v) (pc, lv, st, h) = some r) : W p l e R s m args below meth c H locs (am_ce h - am_ce h0) (am_sl h - am_sl h0) (so_Z D cA H0 b L xs below s h0 r) (F0 m pc ls (st.map (so_cv H0.size b))) := by
  delta so_ck at hck
  dsimp only at hck
  simp only [Bool.and_eq_true, decide_eq_true_eq] at hck
  obtain ⟨hdg, ⟨⟨⟨⟨⟨⟨⟨⟨rfl, h1⟩, h2⟩, h3⟩, h4⟩, h5⟩, h6⟩, h7⟩, h8⟩⟩ := hck
  simp only [am_stp] at hr
  split at hr
  · rename_i a as st' ht
    obtain ⟨e1, e2⟩ := am_tk_nil ht
    subst e1
    split at hr
    · rename_i hwt
      split at hr
      · rename_i hk
        subst hkc
        have hx := so_cke_lt h3
        split at h7
        · rename_i C1 T N hc
          simp only [decide_eq_true_eq] at h7
          split at h8
          · rename_i m'
            simp only [Bool.and_eq_true, decide_eq_true_eq] at h8
            obtain ⟨-, h9⟩ := h8
            split at h9
            · rename_i C2 T2 N2 o2 j2 q hc2 hp
              simp only [Bool.and_eq_true, decide_eq_true_eq] at h9
              obtain ⟨⟨⟨⟨⟨⟨⟨g1, rfl⟩, rfl⟩, g2⟩, g3⟩, g4⟩, g5⟩, g6⟩ := h9
              exact so_inv (ig := .invokevirtual _) C G GT hcall hmk hmt hb1 hb2 hR hL hnd hlo hce hsl h3 hwt hdg (so_lkD C hR hk h1 h2 hc h7 hx hp h4 g2 (so_dy_mem g3) g5 (so_ns1 g2 ⟨_, _, g3⟩) g6 h6 e2 hdg) hr
            · cases h9
          · simp only [decide_eq_true_eq] at h8
            exact so_inv (ig := .invokevirtual n) C G GT hcall hmk hmt hb1 hb2 hR hL hnd hlo hce hsl h3 hwt hdg (so_lkV C hR hk h1 h2 hc h7 hx h8 h4 h5 h6 e2 hdg) hr
        · cases h7
      · split at hr
        · rename_i m'
          split at hr
          · rename_i hk
            subst hkc
            simp only [Bool.and_eq_true, decide_eq_true_eq] at h8
            obtain ⟨⟨⟨⟨⟨⟨k1, k2⟩, k3⟩, k4⟩, k5⟩, k6⟩, h9⟩ := h8
            have hx := so_cke_lt k3
            split at h9
            · rename_i C2 T2 N2 o2 j2 q hc2 hp
              simp only [Bool.and_eq_true, decide_eq_true_eq] at h9
              obtain ⟨⟨⟨⟨⟨⟨⟨g1, rfl⟩, rfl⟩, g2⟩, g3⟩, g4⟩, g5⟩, g6⟩ := h9
              have g7 : so_pn q.desc = so_pn (nm_mi m').1.desc := by
                have q1 := k6
                have q2 := h6
                rw [g5]
                cases hA : so_pn (nm_mi x).1.desc <;> cases hB : so_pn (nm_mi m').1.desc <;> rw [hA] at q2 <;> rw [hB] at q1 <;> simp_all
                omega
              exact so_inv (ig := .invokevirtual _) C G GT hcall hmk hmt hb1 hb2 hR hL hnd hlo hce hsl k3 hwt hdg (so_lkD C hR hk k1 k2 hc2 g1 hx hp k4 g2 (so_dy_mem g4) g7 (so_ns1 g2 ⟨_, _, g3⟩) g6 k6 e2 hdg) hr
            · cases h9
          · cases hr
        · cases hr
    · cases hr
  · cases hr
end SOZ3
