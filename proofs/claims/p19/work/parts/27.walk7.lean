section SOZ2
variable {p : Program} {l : Launch} {e : Env} {R : Room} {s : State} {m : MethodId} {args : Array Value} {below : List Frame} {meth : Method} {c : Code}
variable {D : va_G} {cA : Nat → ClassId} {H0 : Heap} {b L : Nat} {xs : Nat → Int32} {μ : so_I} {h0 : am_H} {r : am_O × am_H}
theorem so_cke_lt {x : Nat} (h1 : so_cke μ x = true) : x < nm_n := by
  unfold so_cke at h1
  simp only [Bool.and_eq_true, decide_eq_true_eq] at h1
  exact h1.1.1
theorem so_ini {x : Nat} (hx : x < nm_n) (hn : (nm_mi x).1.name = "<init>") : (nm_mi x).2.2.2.1 = none ∧ (nm_mi x).2.2.2.2.1 = [] := by
  have h : ((List.range nm_n).all fun x => decide ((nm_mi x).1.name ≠ "<init>") || (decide ((nm_mi x).2.2.2.1 = none) && decide ((nm_mi x).2.2.2.2.1 = []))) = true := by decide +kernel
  have h1 := List.all_eq_true.mp h x (List.mem_range.mpr hx)
  simp only [Bool.and_eq_true, decide_eq_true_eq, Bool.or_eq_true] at h1
  rcases h1 with q | q
  · exact absurd hn q
  · exact q
theorem sw_math_max {k : am_C → Option (am_O × am_H)} {kc : Nat → List Value → am_C → Option (am_O × am_H)} {kr : am_O → am_H → Option (am_O × am_H)} {len x y z w : Nat} {v : Value} {pc : Nat} {lv st : List Value} {h : am_H} {H : Heap} {locs : List Loc} {ls : Array Slot} (C : so_Cx p R s m args meth c D cA H0 b L xs μ) (G : so_G p l e R s m args below meth c D cA H0 b L xs μ h0 r k) (hR : so_Rp D cA H0 b L xs h H) (hL : so_L H0.size b ls μ.2.2.1 lv) (hnd : so_nd lv) (hlo : ∀ q ∈ locs, H0.size ≤ q.base) (hce : am_ce h0 ≤ am_ce h) (hsl : am_sl h0 ≤ am_sl h) {n : Nat} (hz : z = 1) (hmk : ∀ c, k c = some r → am_ce c.2.2.2 ≤ am_ce r.2 ∧ am_sl c.2.2.2 ≤ am_sl r.2) (hb1 : am_ce r.2 - am_ce h0 ≤ R.cells) (hb2 : am_sl r.2 - am_sl h0 ≤ R.slots) (hck : so_ck μ pc (.invokestatic n, len, x, y, z, w, v) = true) (hr : am_stp k kc kr none (.invokestatic n, len, x, y, z, w, v) (pc, lv, st, h) = some r) : W p l e R s m args below meth c H locs (am_ce h - am_ce h0) (am_sl h - am_sl h0) (so_Z D cA H0 b L xs below s h0 r) (F0 m pc ls (st.map (so_cv H0.size b))) := by
  have hck : (decide (decode μ.2.1 pc = .ok (.invokestatic n, len)) && (decide (len = 3) && (decide (so_pl (so_on μ) n = some (.methodLink (so_ow μ) n Lib.Math.max.name)) && decide (1 ≤ so_fr μ) && decide (21 ≤ so_lo μ)))) = true := by
    subst hz
    exact hck
  simp only [Bool.and_eq_true, decide_eq_true_eq] at hck
  obtain ⟨hdg, rfl, ⟨h1, h2⟩, h3⟩ := hck
  subst hz
  simp only [am_stp] at hr
  split at hr
  · rename_i b' a st'
    split at hr
    · rename_i hwt
      have hcat := so_cats H0.size b st'
      have hfr := C.2.2.2.2.2.2.2.2.2.1
      have hlc := C.2.2.2.2.2.2.2.2.2.2.1
      obtain ⟨m1, m2⟩ := hmk _ hr
      dsimp only at m1 m2
      exact va_mmax C.1 C.2.1 (by rw [C.2.2.1]; exact hL.2.1.symm) C.2.2.2.1 (C.2.2.2.2.1 _ (so_pl_mem h1)) (C.2.2.2.2.1 _ so_mth.1.1) (C.2.2.2.2.1 _ so_mth.2.2) (C.2.2.2.2.1 _ so_mth.1.2) (by omega) (by omega) (by omega) (by omega) hdg (G _ _ _ _ _ _ _ hr hR hL hnd hlo hce hsl)
    · cases hr
  · cases hr
theorem sw_math_min {k : am_C → Option (am_O × am_H)} {kc : Nat → List Value → am_C → Option (am_O × am_H)} {kr : am_O → am_H → Option (am_O × am_H)} {len x y z w : Nat} {v : Value} {pc : Nat} {lv st : List Value} {h : am_H} {H : Heap} {locs : List Loc} {ls : Array Slot} (C : so_Cx p R s m args meth c D cA H0 b L xs μ) (G : so_G p l e R s m args below meth c D cA H0 b L xs μ h0 r k) (hR : so_Rp D cA H0 b L xs h H) (hL : so_L H0.size b ls μ.2.2.1 lv) (hnd : so_nd lv) (hlo : ∀ q ∈ locs, H0.size ≤ q.base) (hce : am_ce h0 ≤ am_ce h) (hsl : am_sl h0 ≤ am_sl h) {n : Nat} (hz : z = 2) (hmk : ∀ c, k c = some r → am_ce c.2.2.2 ≤ am_ce r.2 ∧ am_sl c.2.2.2 ≤ am_sl r.2) (hb1 : am_ce r.2 - am_ce h0 ≤ R.cells) (hb2 : am_sl r.2 - am_sl h0 ≤ R.slots) (hck : so_ck μ pc (.invokestatic n, len, x, y, z, w, v) = true) (hr : am_stp k kc kr none (.invokestatic n, len, x, y, z, w, v) (pc, lv, st, h) = some r) : W p l e R s m args below meth c H locs (am_ce h - am_ce h0) (am_sl h - am_sl h0) (so_Z D cA H0 b L xs below s h0 r) (F0 m pc ls (st.map (so_cv H0.size b))) := by
  have hck : (decide (decode μ.2.1 pc = .ok (.invokestatic n, len)) && (decide (len = 3) && (decide (so_pl (so_on μ) n = some (.methodLink (so_ow μ) n Lib.Math.min.name)) && decide (1 ≤ so_fr μ) && decide (21 ≤ so_lo μ)))) = true := by
    subst hz
    exact hck
  simp only [Bool.and_eq_true, decide_eq_true_eq] at hck
  obtain ⟨hdg, rfl, ⟨h1, h2⟩, h3⟩ := hck
  subst hz
  simp only [am_stp] at hr
  split at hr
  · rename_i b' a st'
    split at hr
    · rename_i hwt
      have hcat := so_cats H0.size b st'
      have hfr := C.2.2.2.2.2.2.2.2.2.1
      have hlc := C.2.2.2.2.2.2.2.2.2.2.1
      obtain ⟨m1, m2⟩ := hmk _ hr
      dsimp only at m1 m2
      exact va_mmin C.1 C.2.1 (by rw [C.2.2.1]; exact hL.2.1.symm) C.2.2.2.1 (C.2.2.2.2.1 _ (so_pl_mem h1)) (C.2.2.2.2.1 _ so_mth.2.1.1) (C.2.2.2.2.1 _ so_mth.2.2) (C.2.2.2.2.1 _ so_mth.2.1.2) (by omega) (by omega) (by omega) (by omega) hdg (G _ _ _ _ _ _ _ hr hR hL hnd hlo hce hsl)
    · cases hr
  · cases hr
theorem sw_objinit {k : am_C → Option (am_O × am_H)} {kc : Nat → List Value → am_C → Option (am_O × am_H)} {kr : am_O → am_H → Option (am_O × am_H)} {len x y z w : Nat} {v : Value} {pc : Nat} {lv st : List Value} {h : am_H} {H : Heap} {locs : List Loc} {ls : Array Slot} (C : so_Cx p R s m args meth c D cA H0 b L xs μ) (G : so_G p l e R s m args below meth c D cA H0 b L xs μ h0 r k) (hR : so_Rp D cA H0 b L xs h H) (hL : so_L H0.size b ls μ.2.2.1 lv) (hnd : so_nd lv) (hlo : ∀ q ∈ locs, H0.size ≤ q.base) (hce : am_ce h0 ≤ am_ce h) (hsl : am_sl h0 ≤ am_sl h) {n : Nat} (hw : w = 1) (hck : so_ck μ pc (.invokespecial n, len, x, y, z, w, v) = true) (hr : am_stp k kc kr none (.invokespecial n, len, x, y, z, w, v) (pc, lv, st, h) = some r) : W p l e R s m args below meth c H locs (am_ce h - am_ce h0) (am_sl h - am_sl h0) (so_Z D cA H0 b L xs below s h0 r) (F0 m pc ls (st.map (so_cv H0.size b))) := by
  have hck : (decide (decode μ.2.1 pc = .ok (.invokespecial n, len)) && (decide (len = 3) && (decide (so_pl (so_on μ) n = some (.methodLink (so_ow μ) n objectInit)) && decide (1 ≤ so_fr μ) && decide (20 ≤ so_lo μ)))) = true := by
    subst hw
    exact hck
  simp only [Bool.and_eq_true, decide_eq_true_eq] at hck
  obtain ⟨hdg, rfl, ⟨h1, h2⟩, h3⟩ := hck
  subst hw
  simp only [am_stp] at hr
  split at hr
  · rename_i a st'
    split at hr
    · rename_i hwt
      split at hr
      · cases hr
      · rename_i ha
        have hcat := so_cats H0.size b st'
        have hfr := C.2.2.2.2.2.2.2.2.2.1
        have hlc := C.2.2.2.2.2.2.2.2.2.2.1
        rw [List.map_cons, so_cv_ref ha]
        exact W.objInit C.1 C.2.1 C.2.2.2.1 (C.2.2.2.2.1 _ (so_pl_mem h1)) (C.2.2.2.2.1 _ so_oj.1) (C.2.2.2.2.1 _ so_oj.2) rfl (by rw [C.2.2.1]; exact hL.2.1) rfl hdg (by omega) (show 2 * 0 + _ + 12 ≤ _ by omega) (G _ _ _ _ _ _ _ hr hR hL hnd hlo hce hsl)
    · cases hr
  · cases hr
theorem sw_invokespecial {k : am_C → Option (am_O × am_H)} {kc : Nat → List Value → am_C → Option (am_O × am_H)} {kr : am_O → am_H → Option (am_O × am_H)} {len x y z w : Nat} {v : Value} {pc : Nat} {lv st : List Value} {h : am_H} {H : Heap} {locs : List Loc} {ls : Array Slot} (C : so_Cx p R s m args meth c D cA H0 b L xs μ) (G : so_G p l e R s m args below meth c D cA H0 b L xs μ h0 r k) (hR : so_Rp D cA H0 b L xs h H) (hL : so_L H0.size b ls μ.2.2.1 lv) (hnd : so_nd lv) (hlo : ∀ q ∈ locs, H0.size ≤ q.base) (hce : am_ce h0 ≤ am_ce h) (hsl : am_sl h0 ≤ am_sl h) {n : Nat} (hw : w = 0 ∨ 2 ≤ w) {M : am_M} {call : Nat → List Value → am_H → Option (am_O × am_H)} (GT : so_GT p l e R s m args below meth c D cA H0 b L xs μ h0 r (am_kt M k)) (hcall : ∀ m' as h o h', m' < nm_n → call m' as h = some (o, h') → so_Met l D cA H0 b L xs m' as h o h' ∧ am_ce h ≤ am_ce h' ∧ am_sl h ≤ am_sl h') (hkc : kc = am_kk M call k)
    (hmk : ∀ c, k c = some r → am_ce c.2.2.2 ≤ am_ce r.2 ∧ am_sl c.2.2.2 ≤ am_sl r.2) (hmt : ∀ pc lv q h, am_kt M k pc lv q h = some r → am_ce h ≤ am_ce r.2 ∧ am_sl h ≤ am_sl r.2) (hb1 : am_ce r.2 - am_ce h0 ≤ R.cells) (hb2 : am_sl r.2 - am_sl h0 ≤ R.slots) (hck : so_ck μ pc (.invokespecial n, len, x, y, z, w, v) = true) (hr : am_stp k kc kr none (.invokespecial n, len, x, y, z, w, v) (pc, lv, st, h) = some r) : W p l e R s m args below meth c H locs (am_ce h - am_ce h0) (am_sl h - am_sl h0) (so_Z D cA H0 b L xs below s h0 r) (F0 m pc ls (st.map (so_cv H0.size b))) := by
  have hck : (decide (decode μ.2.1 pc = .ok (.invokespecial n, len)) && (decide (len = 3) && (so_cke μ x && decide ((nm_mi x).1.name = "<init>") && decide ((nm_mw[x]?).map (·.2.1) = some 1) && decide ((so_pn (nm_mi x).1.desc).map (· + 1) = some y) && decide (z ≠ 0) && decide (z < 99) &&
        (decide (so_pl (so_on μ) n = some (.methodLink (so_ow μ) n (nm_mi x).1)) || decide (so_ln nm_pn (so_on μ) n = some (.methodLinkNest (so_ow μ) n (nm_mi x).1 "SortedRuns")))))) = true := by
    rcases hw with rfl | hw
    · exact hck
    · obtain ⟨w', rfl⟩ : ∃ w', w = w' + 2 := ⟨w - 2, by omega⟩
      exact hck
  simp only [Bool.and_eq_true, decide_eq_true_eq, Bool.or_eq_true] at hck
  obtain ⟨hdg, rfl, ⟨⟨⟨⟨⟨h1, h2⟩, h3⟩, h4⟩, h5⟩, h6⟩, h7⟩ := hck
  replace hr : (match am_tk y [] st with
      | some (.ref a :: as, st) => if am_wt st ≤ 8 then (if am_kd h a = z then kc x (.ref a :: as) (pc, lv, st, h) else none) else none
      | _ => none) = some r := by
    rcases hw with rfl | hw
    · exact hr
    · obtain ⟨w', rfl⟩ : ∃ w', w = w' + 2 := ⟨w - 2, by omega⟩
      exact hr
  split at hr
  · rename_i a as st' ht
    split at hr
    · rename_i hwt
      split at hr
      · rename_i hk
        subst hkc
        obtain ⟨e1, e2⟩ := am_tk_nil ht
        subst e1
        have hx := so_cke_lt h1
        have ha : a ≠ 0 := by
          obtain ⟨r1, r2, r3, r4, r5, r6, r7⟩ := hR
          rcases r5 a (by rw [hk]; exact h5) with ⟨q, -⟩ | ⟨q, -, -⟩
          · rw [q]; decide
          · exact Nat.ne_of_gt (Nat.lt_of_lt_of_le (by decide) q)
        exact so_inv (ig := .invokespecial n) C G GT hcall hmk hmt hb1 hb2 hR hL hnd hlo hce hsl h1 hwt hdg (so_lkI C ha hx h7 h3 h2 (so_ini hx h2).1 (so_ini hx h2).2 h4 e2 hdg) hr
      · cases hr
    · cases hr
  · cases hr
end SOZ2
