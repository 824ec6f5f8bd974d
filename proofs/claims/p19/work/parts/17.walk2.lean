section SOX
variable {p : Program} {l : Launch} {e : Env} {R : Room} {s : State} {m : MethodId} {args : Array Value} {below : List Frame} {meth : Method} {c : Code}
variable {D : va_G} {cA : Nat → ClassId} {H0 : Heap} {b L : Nat} {xs : Nat → Int32} {μ : so_I} {h0 : am_H} {r : am_O × am_H}
theorem sw_iconst {k : am_C → Option (am_O × am_H)} {kc : Nat → List Value → am_C → Option (am_O × am_H)} {kr : am_O → am_H → Option (am_O × am_H)} {len x y z w : Nat} {v : Value} {pc : Nat} {lv st : List Value} {h : am_H} {H : Heap} {locs : List Loc} {ls : Array Slot} (C : so_Cx p R s m args meth c D cA H0 b L xs μ) (G : so_G p l e R s m args below meth c D cA H0 b L xs μ h0 r k) (hR : so_Rp D cA H0 b L xs h H) (hL : so_L H0.size b ls μ.2.2.1 lv) (hnd : so_nd lv) (hlo : ∀ q ∈ locs, H0.size ≤ q.base) (hce : am_ce h0 ≤ am_ce h) (hsl : am_sl h0 ≤ am_sl h) {n : Int} (hck : so_ck μ pc (.iconst n, len, x, y, z, w, v) = true) (hr : am_stp k kc kr none (.iconst n, len, x, y, z, w, v) (pc, lv, st, h) = some r) : W p l e R s m args below meth c H locs (am_ce h - am_ce h0) (am_sl h - am_sl h0) (so_Z D cA H0 b L xs below s h0 r) (F0 m pc ls (st.map (so_cv H0.size b))) := by
  have hck : (decide (decode μ.2.1 pc = .ok (.iconst n, len)) && (decide (len = 1) && decide (v = .int (Int32.ofInt n)))) = true := hck
  simp only [Bool.and_eq_true, decide_eq_true_eq] at hck
  obtain ⟨hdg, rfl, rfl⟩ := hck
  exact lv_iconst C.1 C.2.1 hdg rfl (G _ _ _ _ _ _ _ hr hR hL hnd hlo hce hsl)
theorem sw_bipush {k : am_C → Option (am_O × am_H)} {kc : Nat → List Value → am_C → Option (am_O × am_H)} {kr : am_O → am_H → Option (am_O × am_H)} {len x y z w : Nat} {v : Value} {pc : Nat} {lv st : List Value} {h : am_H} {H : Heap} {locs : List Loc} {ls : Array Slot} (C : so_Cx p R s m args meth c D cA H0 b L xs μ) (G : so_G p l e R s m args below meth c D cA H0 b L xs μ h0 r k) (hR : so_Rp D cA H0 b L xs h H) (hL : so_L H0.size b ls μ.2.2.1 lv) (hnd : so_nd lv) (hlo : ∀ q ∈ locs, H0.size ≤ q.base) (hce : am_ce h0 ≤ am_ce h) (hsl : am_sl h0 ≤ am_sl h) {n : Int} (hck : so_ck μ pc (.bipush n, len, x, y, z, w, v) = true) (hr : am_stp k kc kr none (.bipush n, len, x, y, z, w, v) (pc, lv, st, h) = some r) : W p l e R s m args below meth c H locs (am_ce h - am_ce h0) (am_sl h - am_sl h0) (so_Z D cA H0 b L xs below s h0 r) (F0 m pc ls (st.map (so_cv H0.size b))) := by
  have hck : (decide (decode μ.2.1 pc = .ok (.bipush n, len)) && (decide (len = 2) && decide (v = .int (Int8.ofInt n).toInt32))) = true := hck
  simp only [Bool.and_eq_true, decide_eq_true_eq] at hck
  obtain ⟨hdg, rfl, rfl⟩ := hck
  exact lv_bipush C.1 C.2.1 hdg rfl (G _ _ _ _ _ _ _ hr hR hL hnd hlo hce hsl)
theorem sw_sipush {k : am_C → Option (am_O × am_H)} {kc : Nat → List Value → am_C → Option (am_O × am_H)} {kr : am_O → am_H → Option (am_O × am_H)} {len x y z w : Nat} {v : Value} {pc : Nat} {lv st : List Value} {h : am_H} {H : Heap} {locs : List Loc} {ls : Array Slot} (C : so_Cx p R s m args meth c D cA H0 b L xs μ) (G : so_G p l e R s m args below meth c D cA H0 b L xs μ h0 r k) (hR : so_Rp D cA H0 b L xs h H) (hL : so_L H0.size b ls μ.2.2.1 lv) (hnd : so_nd lv) (hlo : ∀ q ∈ locs, H0.size ≤ q.base) (hce : am_ce h0 ≤ am_ce h) (hsl : am_sl h0 ≤ am_sl h) {n : Int} (hck : so_ck μ pc (.sipush n, len, x, y, z, w, v) = true) (hr : am_stp k kc kr none (.sipush n, len, x, y, z, w, v) (pc, lv, st, h) = some r) : W p l e R s m args below meth c H locs (am_ce h - am_ce h0) (am_sl h - am_sl h0) (so_Z D cA H0 b L xs below s h0 r) (F0 m pc ls (st.map (so_cv H0.size b))) := by
  have hck : (decide (decode μ.2.1 pc = .ok (.sipush n, len)) && (decide (len = 3) && decide (v = .int (Int16.ofInt n).toInt32))) = true := hck
  simp only [Bool.and_eq_true, decide_eq_true_eq] at hck
  obtain ⟨hdg, rfl, rfl⟩ := hck
  exact lv_sipush C.1 C.2.1 hdg rfl (G _ _ _ _ _ _ _ hr hR hL hnd hlo hce hsl)
theorem sw_lconst {k : am_C → Option (am_O × am_H)} {kc : Nat → List Value → am_C → Option (am_O × am_H)} {kr : am_O → am_H → Option (am_O × am_H)} {len x y z w : Nat} {v : Value} {pc : Nat} {lv st : List Value} {h : am_H} {H : Heap} {locs : List Loc} {ls : Array Slot} (C : so_Cx p R s m args meth c D cA H0 b L xs μ) (G : so_G p l e R s m args below meth c D cA H0 b L xs μ h0 r k) (hR : so_Rp D cA H0 b L xs h H) (hL : so_L H0.size b ls μ.2.2.1 lv) (hnd : so_nd lv) (hlo : ∀ q ∈ locs, H0.size ≤ q.base) (hce : am_ce h0 ≤ am_ce h) (hsl : am_sl h0 ≤ am_sl h) {n : Fin 2} (hck : so_ck μ pc (.lconst n, len, x, y, z, w, v) = true) (hr : am_stp k kc kr none (.lconst n, len, x, y, z, w, v) (pc, lv, st, h) = some r) : W p l e R s m args below meth c H locs (am_ce h - am_ce h0) (am_sl h - am_sl h0) (so_Z D cA H0 b L xs below s h0 r) (F0 m pc ls (st.map (so_cv H0.size b))) := by
  have hck : (decide (decode μ.2.1 pc = .ok (.lconst n, len)) && (decide (len = 1) && decide (v = .long (Int64.ofNat n)))) = true := hck
  simp only [Bool.and_eq_true, decide_eq_true_eq] at hck
  obtain ⟨hdg, rfl, rfl⟩ := hck
  exact lv_lconst C.1 C.2.1 hdg rfl (G _ _ _ _ _ _ _ hr hR hL hnd hlo hce hsl)
theorem sw_ldc {k : am_C → Option (am_O × am_H)} {kc : Nat → List Value → am_C → Option (am_O × am_H)} {kr : am_O → am_H → Option (am_O × am_H)} {len x y z w : Nat} {v : Value} {pc : Nat} {lv st : List Value} {h : am_H} {H : Heap} {locs : List Loc} {ls : Array Slot} (C : so_Cx p R s m args meth c D cA H0 b L xs μ) (G : so_G p l e R s m args below meth c D cA H0 b L xs μ h0 r k) (hR : so_Rp D cA H0 b L xs h H) (hL : so_L H0.size b ls μ.2.2.1 lv) (hnd : so_nd lv) (hlo : ∀ q ∈ locs, H0.size ≤ q.base) (hce : am_ce h0 ≤ am_ce h) (hsl : am_sl h0 ≤ am_sl h) {n : Nat} (hck : so_ck μ pc (.ldc n, len, x, y, z, w, v) = true) (hr : am_stp k kc kr none (.ldc n, len, x, y, z, w, v) (pc, lv, st, h) = some r) : W p l e R s m args below meth c H locs (am_ce h - am_ce h0) (am_sl h - am_sl h0) (so_Z D cA H0 b L xs below s h0 r) (F0 m pc ls (st.map (so_cv H0.size b))) := by
  delta so_ck at hck
  dsimp only at hck
  simp only [Bool.and_eq_true, decide_eq_true_eq] at hck
  obtain ⟨hdg, rfl, hck⟩ := hck
  split at hck
  · rename_i o j q q' hp
    simp only [Bool.and_eq_true, decide_eq_true_eq] at hck
    obtain ⟨⟨rfl, rfl⟩, rfl⟩ := hck
    exact lv_ldc C.1 C.2.1 C.2.2.2.1 (C.2.2.2.2.1 _ (so_pl_mem hp)) hdg (G _ _ _ _ _ _ _ hr hR hL hnd hlo hce hsl)
  · cases hck
theorem sw_ldc_w {k : am_C → Option (am_O × am_H)} {kc : Nat → List Value → am_C → Option (am_O × am_H)} {kr : am_O → am_H → Option (am_O × am_H)} {len x y z w : Nat} {v : Value} {pc : Nat} {lv st : List Value} {h : am_H} {H : Heap} {locs : List Loc} {ls : Array Slot} (C : so_Cx p R s m args meth c D cA H0 b L xs μ) (G : so_G p l e R s m args below meth c D cA H0 b L xs μ h0 r k) (hR : so_Rp D cA H0 b L xs h H) (hL : so_L H0.size b ls μ.2.2.1 lv) (hnd : so_nd lv) (hlo : ∀ q ∈ locs, H0.size ≤ q.base) (hce : am_ce h0 ≤ am_ce h) (hsl : am_sl h0 ≤ am_sl h) {n : Nat} (hck : so_ck μ pc (.ldc_w n, len, x, y, z, w, v) = true) (hr : am_stp k kc kr none (.ldc_w n, len, x, y, z, w, v) (pc, lv, st, h) = some r) : W p l e R s m args below meth c H locs (am_ce h - am_ce h0) (am_sl h - am_sl h0) (so_Z D cA H0 b L xs below s h0 r) (F0 m pc ls (st.map (so_cv H0.size b))) := by
  delta so_ck at hck
  dsimp only at hck
  simp only [Bool.and_eq_true, decide_eq_true_eq] at hck
  obtain ⟨hdg, rfl, hck⟩ := hck
  split at hck
  · rename_i o j q q' hp
    simp only [Bool.and_eq_true, decide_eq_true_eq] at hck
    obtain ⟨⟨rfl, rfl⟩, rfl⟩ := hck
    exact lv_ldcw C.1 C.2.1 C.2.2.2.1 (C.2.2.2.2.1 _ (so_pl_mem hp)) hdg (G _ _ _ _ _ _ _ hr hR hL hnd hlo hce hsl)
  · cases hck
theorem sw_ldc2_w {k : am_C → Option (am_O × am_H)} {kc : Nat → List Value → am_C → Option (am_O × am_H)} {kr : am_O → am_H → Option (am_O × am_H)} {len x y z w : Nat} {v : Value} {pc : Nat} {lv st : List Value} {h : am_H} {H : Heap} {locs : List Loc} {ls : Array Slot} (C : so_Cx p R s m args meth c D cA H0 b L xs μ) (G : so_G p l e R s m args below meth c D cA H0 b L xs μ h0 r k) (hR : so_Rp D cA H0 b L xs h H) (hL : so_L H0.size b ls μ.2.2.1 lv) (hnd : so_nd lv) (hlo : ∀ q ∈ locs, H0.size ≤ q.base) (hce : am_ce h0 ≤ am_ce h) (hsl : am_sl h0 ≤ am_sl h) {n : Nat} (hck : so_ck μ pc (.ldc2_w n, len, x, y, z, w, v) = true) (hr : am_stp k kc kr none (.ldc2_w n, len, x, y, z, w, v) (pc, lv, st, h) = some r) : W p l e R s m args below meth c H locs (am_ce h - am_ce h0) (am_sl h - am_sl h0) (so_Z D cA H0 b L xs below s h0 r) (F0 m pc ls (st.map (so_cv H0.size b))) := by
  delta so_ck at hck
  dsimp only at hck
  simp only [Bool.and_eq_true, decide_eq_true_eq] at hck
  obtain ⟨hdg, rfl, hck⟩ := hck
  split at hck
  · rename_i o j q q' hp
    simp only [Bool.and_eq_true, decide_eq_true_eq] at hck
    obtain ⟨⟨rfl, rfl⟩, rfl⟩ := hck
    exact lv_ldc2 C.1 C.2.1 C.2.2.2.1 (C.2.2.2.2.1 _ (so_pl_mem hp)) hdg (G _ _ _ _ _ _ _ hr hR hL hnd hlo hce hsl)
  · cases hck
theorem sw_iload {k : am_C → Option (am_O × am_H)} {kc : Nat → List Value → am_C → Option (am_O × am_H)} {kr : am_O → am_H → Option (am_O × am_H)} {len x y z w : Nat} {v : Value} {pc : Nat} {lv st : List Value} {h : am_H} {H : Heap} {locs : List Loc} {ls : Array Slot} (C : so_Cx p R s m args meth c D cA H0 b L xs μ) (G : so_G p l e R s m args below meth c D cA H0 b L xs μ h0 r k) (hR : so_Rp D cA H0 b L xs h H) (hL : so_L H0.size b ls μ.2.2.1 lv) (hnd : so_nd lv) (hlo : ∀ q ∈ locs, H0.size ≤ q.base) (hce : am_ce h0 ≤ am_ce h) (hsl : am_sl h0 ≤ am_sl h) {n : Nat} (hck : so_ck μ pc (.iload n, len, x, y, z, w, v) = true) (hr : am_stp k kc kr none (.iload n, len, x, y, z, w, v) (pc, lv, st, h) = some r) : W p l e R s m args below meth c H locs (am_ce h - am_ce h0) (am_sl h - am_sl h0) (so_Z D cA H0 b L xs below s h0 r) (F0 m pc ls (st.map (so_cv H0.size b))) := by
  have hck : (decide (decode μ.2.1 pc = .ok (.iload n, len)) && (decide (len = 2) && decide (x = n))) = true := hck
  simp only [Bool.and_eq_true, decide_eq_true_eq] at hck
  obtain ⟨hdg, rfl, rfl⟩ := hck
  simp only [am_stp] at hr
  split at hr
  · rename_i hv
    exact lv_iload C.1 C.2.1 hdg (hL.get hv (fun q => by cases q)) (G _ _ _ _ _ _ _ hr hR hL hnd hlo hce hsl)
  · cases hr
theorem sw_iload_n {k : am_C → Option (am_O × am_H)} {kc : Nat → List Value → am_C → Option (am_O × am_H)} {kr : am_O → am_H → Option (am_O × am_H)} {len x y z w : Nat} {v : Value} {pc : Nat} {lv st : List Value} {h : am_H} {H : Heap} {locs : List Loc} {ls : Array Slot} (C : so_Cx p R s m args meth c D cA H0 b L xs μ) (G : so_G p l e R s m args below meth c D cA H0 b L xs μ h0 r k) (hR : so_Rp D cA H0 b L xs h H) (hL : so_L H0.size b ls μ.2.2.1 lv) (hnd : so_nd lv) (hlo : ∀ q ∈ locs, H0.size ≤ q.base) (hce : am_ce h0 ≤ am_ce h) (hsl : am_sl h0 ≤ am_sl h) {n : Fin 4} (hck : so_ck μ pc (.iload_n n, len, x, y, z, w, v) = true) (hr : am_stp k kc kr none (.iload_n n, len, x, y, z, w, v) (pc, lv, st, h) = some r) : W p l e R s m args below meth c H locs (am_ce h - am_ce h0) (am_sl h - am_sl h0) (so_Z D cA H0 b L xs below s h0 r) (F0 m pc ls (st.map (so_cv H0.size b))) := by
  have hck : (decide (decode μ.2.1 pc = .ok (.iload_n n, len)) && (decide (len = 1) && decide (x = (n : Nat)))) = true := hck
  simp only [Bool.and_eq_true, decide_eq_true_eq] at hck
  obtain ⟨hdg, rfl, rfl⟩ := hck
  simp only [am_stp] at hr
  split at hr
  · rename_i hv
    exact lv_iload_n C.1 C.2.1 hdg rfl (hL.get hv (fun q => by cases q)) (G _ _ _ _ _ _ _ hr hR hL hnd hlo hce hsl)
  · cases hr
theorem sw_lload {k : am_C → Option (am_O × am_H)} {kc : Nat → List Value → am_C → Option (am_O × am_H)} {kr : am_O → am_H → Option (am_O × am_H)} {len x y z w : Nat} {v : Value} {pc : Nat} {lv st : List Value} {h : am_H} {H : Heap} {locs : List Loc} {ls : Array Slot} (C : so_Cx p R s m args meth c D cA H0 b L xs μ) (G : so_G p l e R s m args below meth c D cA H0 b L xs μ h0 r k) (hR : so_Rp D cA H0 b L xs h H) (hL : so_L H0.size b ls μ.2.2.1 lv) (hnd : so_nd lv) (hlo : ∀ q ∈ locs, H0.size ≤ q.base) (hce : am_ce h0 ≤ am_ce h) (hsl : am_sl h0 ≤ am_sl h) {n : Nat} (hck : so_ck μ pc (.lload n, len, x, y, z, w, v) = true) (hr : am_stp k kc kr none (.lload n, len, x, y, z, w, v) (pc, lv, st, h) = some r) : W p l e R s m args below meth c H locs (am_ce h - am_ce h0) (am_sl h - am_sl h0) (so_Z D cA H0 b L xs below s h0 r) (F0 m pc ls (st.map (so_cv H0.size b))) := by
  have hck : (decide (decode μ.2.1 pc = .ok (.lload n, len)) && (decide (len = 2) && decide (x = n))) = true := hck
  simp only [Bool.and_eq_true, decide_eq_true_eq] at hck
  obtain ⟨hdg, rfl, rfl⟩ := hck
  simp only [am_stp] at hr
  split at hr
  · rename_i hv
    exact lv_lload C.1 C.2.1 hdg (hL.get hv (fun q => by cases q)) (G _ _ _ _ _ _ _ hr hR hL hnd hlo hce hsl)
  · cases hr
theorem sw_lload_n {k : am_C → Option (am_O × am_H)} {kc : Nat → List Value → am_C → Option (am_O × am_H)} {kr : am_O → am_H → Option (am_O × am_H)} {len x y z w : Nat} {v : Value} {pc : Nat} {lv st : List Value} {h : am_H} {H : Heap} {locs : List Loc} {ls : Array Slot} (C : so_Cx p R s m args meth c D cA H0 b L xs μ) (G : so_G p l e R s m args below meth c D cA H0 b L xs μ h0 r k) (hR : so_Rp D cA H0 b L xs h H) (hL : so_L H0.size b ls μ.2.2.1 lv) (hnd : so_nd lv) (hlo : ∀ q ∈ locs, H0.size ≤ q.base) (hce : am_ce h0 ≤ am_ce h) (hsl : am_sl h0 ≤ am_sl h) {n : Fin 4} (hck : so_ck μ pc (.lload_n n, len, x, y, z, w, v) = true) (hr : am_stp k kc kr none (.lload_n n, len, x, y, z, w, v) (pc, lv, st, h) = some r) : W p l e R s m args below meth c H locs (am_ce h - am_ce h0) (am_sl h - am_sl h0) (so_Z D cA H0 b L xs below s h0 r) (F0 m pc ls (st.map (so_cv H0.size b))) := by
  have hck : (decide (decode μ.2.1 pc = .ok (.lload_n n, len)) && (decide (len = 1) && decide (x = (n : Nat)))) = true := hck
  simp only [Bool.and_eq_true, decide_eq_true_eq] at hck
  obtain ⟨hdg, rfl, rfl⟩ := hck
  simp only [am_stp] at hr
  split at hr
  · rename_i hv
    exact lv_lload_n C.1 C.2.1 hdg rfl (hL.get hv (fun q => by cases q)) (G _ _ _ _ _ _ _ hr hR hL hnd hlo hce hsl)
  · cases hr
theorem sw_aload {k : am_C → Option (am_O × am_H)} {kc : Nat → List Value → am_C → Option (am_O × am_H)} {kr : am_O → am_H → Option (am_O × am_H)} {len x y z w : Nat} {v : Value} {pc : Nat} {lv st : List Value} {h : am_H} {H : Heap} {locs : List Loc} {ls : Array Slot} (C : so_Cx p R s m args meth c D cA H0 b L xs μ) (G : so_G p l e R s m args below meth c D cA H0 b L xs μ h0 r k) (hR : so_Rp D cA H0 b L xs h H) (hL : so_L H0.size b ls μ.2.2.1 lv) (hnd : so_nd lv) (hlo : ∀ q ∈ locs, H0.size ≤ q.base) (hce : am_ce h0 ≤ am_ce h) (hsl : am_sl h0 ≤ am_sl h) {n : Nat} (hck : so_ck μ pc (.aload n, len, x, y, z, w, v) = true) (hr : am_stp k kc kr none (.aload n, len, x, y, z, w, v) (pc, lv, st, h) = some r) : W p l e R s m args below meth c H locs (am_ce h - am_ce h0) (am_sl h - am_sl h0) (so_Z D cA H0 b L xs below s h0 r) (F0 m pc ls (st.map (so_cv H0.size b))) := by
  have hck : (decide (decode μ.2.1 pc = .ok (.aload n, len)) && (decide (len = 2) && decide (x = n))) = true := hck
  simp only [Bool.and_eq_true, decide_eq_true_eq] at hck
  obtain ⟨hdg, rfl, rfl⟩ := hck
  simp only [am_stp] at hr
  split at hr
  · rename_i a hv
    have hl := hL.get hv (fun q => by cases q)
    have hw := G _ _ _ _ _ _ _ hr hR hL hnd hlo hce hsl
    cases a with
    | zero => exact lv_aloadN C.1 C.2.1 hdg hl hw
    | succ a => exact lv_aload C.1 C.2.1 hdg hl hw
  · cases hr
theorem sw_aload_n {k : am_C → Option (am_O × am_H)} {kc : Nat → List Value → am_C → Option (am_O × am_H)} {kr : am_O → am_H → Option (am_O × am_H)} {len x y z w : Nat} {v : Value} {pc : Nat} {lv st : List Value} {h : am_H} {H : Heap} {locs : List Loc} {ls : Array Slot} (C : so_Cx p R s m args meth c D cA H0 b L xs μ) (G : so_G p l e R s m args below meth c D cA H0 b L xs μ h0 r k) (hR : so_Rp D cA H0 b L xs h H) (hL : so_L H0.size b ls μ.2.2.1 lv) (hnd : so_nd lv) (hlo : ∀ q ∈ locs, H0.size ≤ q.base) (hce : am_ce h0 ≤ am_ce h) (hsl : am_sl h0 ≤ am_sl h) {n : Fin 4} (hck : so_ck μ pc (.aload_n n, len, x, y, z, w, v) = true) (hr : am_stp k kc kr none (.aload_n n, len, x, y, z, w, v) (pc, lv, st, h) = some r) : W p l e R s m args below meth c H locs (am_ce h - am_ce h0) (am_sl h - am_sl h0) (so_Z D cA H0 b L xs below s h0 r) (F0 m pc ls (st.map (so_cv H0.size b))) := by
  have hck : (decide (decode μ.2.1 pc = .ok (.aload_n n, len)) && (decide (len = 1) && decide (x = (n : Nat)))) = true := hck
  simp only [Bool.and_eq_true, decide_eq_true_eq] at hck
  obtain ⟨hdg, rfl, rfl⟩ := hck
  simp only [am_stp] at hr
  split at hr
  · rename_i a hv
    have hl := hL.get hv (fun q => by cases q)
    have hw := G _ _ _ _ _ _ _ hr hR hL hnd hlo hce hsl
    cases a with
    | zero => exact lv_aload_nN C.1 C.2.1 hdg rfl hl hw
    | succ a => exact lv_aload_n C.1 C.2.1 hdg rfl hl hw
  · cases hr
theorem sw_istore {k : am_C → Option (am_O × am_H)} {kc : Nat → List Value → am_C → Option (am_O × am_H)} {kr : am_O → am_H → Option (am_O × am_H)} {len x y z w : Nat} {v : Value} {pc : Nat} {lv st : List Value} {h : am_H} {H : Heap} {locs : List Loc} {ls : Array Slot} (C : so_Cx p R s m args meth c D cA H0 b L xs μ) (G : so_G p l e R s m args below meth c D cA H0 b L xs μ h0 r k) (hR : so_Rp D cA H0 b L xs h H) (hL : so_L H0.size b ls μ.2.2.1 lv) (hnd : so_nd lv) (hlo : ∀ q ∈ locs, H0.size ≤ q.base) (hce : am_ce h0 ≤ am_ce h) (hsl : am_sl h0 ≤ am_sl h) {n : Nat} (hck : so_ck μ pc (.istore n, len, x, y, z, w, v) = true) (hr : am_stp k kc kr none (.istore n, len, x, y, z, w, v) (pc, lv, st, h) = some r) : W p l e R s m args below meth c H locs (am_ce h - am_ce h0) (am_sl h - am_sl h0) (so_Z D cA H0 b L xs below s h0 r) (F0 m pc ls (st.map (so_cv H0.size b))) := by
  have hck : (decide (decode μ.2.1 pc = .ok (.istore n, len)) && (decide (len = 2) && decide (x = n) && decide (x < μ.2.2.1))) = true := hck
  simp only [Bool.and_eq_true, decide_eq_true_eq] at hck
  obtain ⟨hdg, ⟨rfl, rfl⟩, hx⟩ := hck
  simp only [am_stp] at hr
  split at hr
  · refine lv_istore C.1 C.2.1 hdg hL.2 hx rfl (fun ls' hl' => ?_)
    exact G _ _ _ _ _ _ _ hr hR (so_L.st1 hL.1 hnd hx hl') (hnd.st1 _ (fun q hq => by cases hq)) hlo hce hsl
  · cases hr
theorem sw_istore_n {k : am_C → Option (am_O × am_H)} {kc : Nat → List Value → am_C → Option (am_O × am_H)} {kr : am_O → am_H → Option (am_O × am_H)} {len x y z w : Nat} {v : Value} {pc : Nat} {lv st : List Value} {h : am_H} {H : Heap} {locs : List Loc} {ls : Array Slot} (C : so_Cx p R s m args meth c D cA H0 b L xs μ) (G : so_G p l e R s m args below meth c D cA H0 b L xs μ h0 r k) (hR : so_Rp D cA H0 b L xs h H) (hL : so_L H0.size b ls μ.2.2.1 lv) (hnd : so_nd lv) (hlo : ∀ q ∈ locs, H0.size ≤ q.base) (hce : am_ce h0 ≤ am_ce h) (hsl : am_sl h0 ≤ am_sl h) {n : Fin 4} (hck : so_ck μ pc (.istore_n n, len, x, y, z, w, v) = true) (hr : am_stp k kc kr none (.istore_n n, len, x, y, z, w, v) (pc, lv, st, h) = some r) : W p l e R s m args below meth c H locs (am_ce h - am_ce h0) (am_sl h - am_sl h0) (so_Z D cA H0 b L xs below s h0 r) (F0 m pc ls (st.map (so_cv H0.size b))) := by
  have hck : (decide (decode μ.2.1 pc = .ok (.istore_n n, len)) && (decide (len = 1) && decide (x = (n : Nat)) && decide (x < μ.2.2.1))) = true := hck
  simp only [Bool.and_eq_true, decide_eq_true_eq] at hck
  obtain ⟨hdg, ⟨rfl, rfl⟩, hx⟩ := hck
  simp only [am_stp] at hr
  split at hr
  · refine lv_istore_n C.1 C.2.1 hdg rfl hL.2 hx rfl (fun ls' hl' => ?_)
    exact G _ _ _ _ _ _ _ hr hR (so_L.st1 hL.1 hnd hx hl') (hnd.st1 _ (fun q hq => by cases hq)) hlo hce hsl
  · cases hr
theorem sw_lstore {k : am_C → Option (am_O × am_H)} {kc : Nat → List Value → am_C → Option (am_O × am_H)} {kr : am_O → am_H → Option (am_O × am_H)} {len x y z w : Nat} {v : Value} {pc : Nat} {lv st : List Value} {h : am_H} {H : Heap} {locs : List Loc} {ls : Array Slot} (C : so_Cx p R s m args meth c D cA H0 b L xs μ) (G : so_G p l e R s m args below meth c D cA H0 b L xs μ h0 r k) (hR : so_Rp D cA H0 b L xs h H) (hL : so_L H0.size b ls μ.2.2.1 lv) (hnd : so_nd lv) (hlo : ∀ q ∈ locs, H0.size ≤ q.base) (hce : am_ce h0 ≤ am_ce h) (hsl : am_sl h0 ≤ am_sl h) {n : Nat} (hck : so_ck μ pc (.lstore n, len, x, y, z, w, v) = true) (hr : am_stp k kc kr none (.lstore n, len, x, y, z, w, v) (pc, lv, st, h) = some r) : W p l e R s m args below meth c H locs (am_ce h - am_ce h0) (am_sl h - am_sl h0) (so_Z D cA H0 b L xs below s h0 r) (F0 m pc ls (st.map (so_cv H0.size b))) := by
  have hck : (decide (decode μ.2.1 pc = .ok (.lstore n, len)) && (decide (len = 2) && decide (x = n) && decide (x + 1 < μ.2.2.1))) = true := hck
  simp only [Bool.and_eq_true, decide_eq_true_eq] at hck
  obtain ⟨hdg, ⟨rfl, rfl⟩, hx⟩ := hck
  simp only [am_stp] at hr
  split at hr
  · refine lv_lstore C.1 C.2.1 hdg hL.2 hx rfl (fun ls' hl' => ?_)
    exact G _ _ _ _ _ _ _ hr hR (so_L.st2 hL.1 hnd hx hl') (hnd.st2 _ (fun q hq => by cases hq)) hlo hce hsl
  · cases hr
theorem sw_lstore_n {k : am_C → Option (am_O × am_H)} {kc : Nat → List Value → am_C → Option (am_O × am_H)} {kr : am_O → am_H → Option (am_O × am_H)} {len x y z w : Nat} {v : Value} {pc : Nat} {lv st : List Value} {h : am_H} {H : Heap} {locs : List Loc} {ls : Array Slot} (C : so_Cx p R s m args meth c D cA H0 b L xs μ) (G : so_G p l e R s m args below meth c D cA H0 b L xs μ h0 r k) (hR : so_Rp D cA H0 b L xs h H) (hL : so_L H0.size b ls μ.2.2.1 lv) (hnd : so_nd lv) (hlo : ∀ q ∈ locs, H0.size ≤ q.base) (hce : am_ce h0 ≤ am_ce h) (hsl : am_sl h0 ≤ am_sl h) {n : Fin 4} (hck : so_ck μ pc (.lstore_n n, len, x, y, z, w, v) = true) (hr : am_stp k kc kr none (.lstore_n n, len, x, y, z, w, v) (pc, lv, st, h) = some r) : W p l e R s m args below meth c H locs (am_ce h - am_ce h0) (am_sl h - am_sl h0) (so_Z D cA H0 b L xs below s h0 r) (F0 m pc ls (st.map (so_cv H0.size b))) := by
  have hck : (decide (decode μ.2.1 pc = .ok (.lstore_n n, len)) && (decide (len = 1) && decide (x = (n : Nat)) && decide (x + 1 < μ.2.2.1))) = true := hck
  simp only [Bool.and_eq_true, decide_eq_true_eq] at hck
  obtain ⟨hdg, ⟨rfl, rfl⟩, hx⟩ := hck
  simp only [am_stp] at hr
  split at hr
  · refine lv_lstore_n C.1 C.2.1 hdg rfl hL.2 hx rfl (fun ls' hl' => ?_)
    exact G _ _ _ _ _ _ _ hr hR (so_L.st2 hL.1 hnd hx hl') (hnd.st2 _ (fun q hq => by cases hq)) hlo hce hsl
  · cases hr
theorem sw_astore {k : am_C → Option (am_O × am_H)} {kc : Nat → List Value → am_C → Option (am_O × am_H)} {kr : am_O → am_H → Option (am_O × am_H)} {len x y z w : Nat} {v : Value} {pc : Nat} {lv st : List Value} {h : am_H} {H : Heap} {locs : List Loc} {ls : Array Slot} (C : so_Cx p R s m args meth c D cA H0 b L xs μ) (G : so_G p l e R s m args below meth c D cA H0 b L xs μ h0 r k) (hR : so_Rp D cA H0 b L xs h H) (hL : so_L H0.size b ls μ.2.2.1 lv) (hnd : so_nd lv) (hlo : ∀ q ∈ locs, H0.size ≤ q.base) (hce : am_ce h0 ≤ am_ce h) (hsl : am_sl h0 ≤ am_sl h) {n : Nat} (hck : so_ck μ pc (.astore n, len, x, y, z, w, v) = true) (hr : am_stp k kc kr none (.astore n, len, x, y, z, w, v) (pc, lv, st, h) = some r) : W p l e R s m args below meth c H locs (am_ce h - am_ce h0) (am_sl h - am_sl h0) (so_Z D cA H0 b L xs below s h0 r) (F0 m pc ls (st.map (so_cv H0.size b))) := by
  have hck : (decide (decode μ.2.1 pc = .ok (.astore n, len)) && (decide (len = 2) && decide (x = n) && decide (x < μ.2.2.1))) = true := hck
  simp only [Bool.and_eq_true, decide_eq_true_eq] at hck
  obtain ⟨hdg, ⟨rfl, rfl⟩, hx⟩ := hck
  simp only [am_stp] at hr
  split at hr
  · rename_i a st'
    cases a with
    | zero =>
      refine lv_astoreN C.1 C.2.1 hdg hL.2 hx rfl (fun ls' hl' => ?_)
      exact G _ _ _ _ _ _ _ hr hR (so_L.st1 (v := .ref 0) hL.1 hnd hx hl') (hnd.st1 _ (fun q hq => by cases hq)) hlo hce hsl
    | succ a =>
      refine lv_astore C.1 C.2.1 hdg hL.2 hx rfl (fun ls' hl' => ?_)
      exact G _ _ _ _ _ _ _ hr hR (so_L.st1 (v := .ref (a + 1)) hL.1 hnd hx hl') (hnd.st1 _ (fun q hq => by cases hq)) hlo hce hsl
  · cases hr
theorem sw_astore_n {k : am_C → Option (am_O × am_H)} {kc : Nat → List Value → am_C → Option (am_O × am_H)} {kr : am_O → am_H → Option (am_O × am_H)} {len x y z w : Nat} {v : Value} {pc : Nat} {lv st : List Value} {h : am_H} {H : Heap} {locs : List Loc} {ls : Array Slot} (C : so_Cx p R s m args meth c D cA H0 b L xs μ) (G : so_G p l e R s m args below meth c D cA H0 b L xs μ h0 r k) (hR : so_Rp D cA H0 b L xs h H) (hL : so_L H0.size b ls μ.2.2.1 lv) (hnd : so_nd lv) (hlo : ∀ q ∈ locs, H0.size ≤ q.base) (hce : am_ce h0 ≤ am_ce h) (hsl : am_sl h0 ≤ am_sl h) {n : Fin 4} (hck : so_ck μ pc (.astore_n n, len, x, y, z, w, v) = true) (hr : am_stp k kc kr none (.astore_n n, len, x, y, z, w, v) (pc, lv, st, h) = some r) : W p l e R s m args below meth c H locs (am_ce h - am_ce h0) (am_sl h - am_sl h0) (so_Z D cA H0 b L xs below s h0 r) (F0 m pc ls (st.map (so_cv H0.size b))) := by
  have hck : (decide (decode μ.2.1 pc = .ok (.astore_n n, len)) && (decide (len = 1) && decide (x = (n : Nat)) && decide (x < μ.2.2.1))) = true := hck
  simp only [Bool.and_eq_true, decide_eq_true_eq] at hck
  obtain ⟨hdg, ⟨rfl, rfl⟩, hx⟩ := hck
  simp only [am_stp] at hr
  split at hr
  · rename_i a st'
    cases a with
    | zero =>
      refine lv_astore_nN C.1 C.2.1 hdg rfl hL.2 hx rfl (fun ls' hl' => ?_)
      exact G _ _ _ _ _ _ _ hr hR (so_L.st1 (v := .ref 0) hL.1 hnd hx hl') (hnd.st1 _ (fun q hq => by cases hq)) hlo hce hsl
    | succ a =>
      refine lv_astore_n C.1 C.2.1 hdg rfl hL.2 hx rfl (fun ls' hl' => ?_)
      exact G _ _ _ _ _ _ _ hr hR (so_L.st1 (v := .ref (a + 1)) hL.1 hnd hx hl') (hnd.st1 _ (fun q hq => by cases hq)) hlo hce hsl
  · cases hr
theorem sw_goto {k : am_C → Option (am_O × am_H)} {kc : Nat → List Value → am_C → Option (am_O × am_H)} {kr : am_O → am_H → Option (am_O × am_H)} {len x y z w : Nat} {v : Value} {pc : Nat} {lv st : List Value} {h : am_H} {H : Heap} {locs : List Loc} {ls : Array Slot} (C : so_Cx p R s m args meth c D cA H0 b L xs μ) (G : so_G p l e R s m args below meth c D cA H0 b L xs μ h0 r k) (hR : so_Rp D cA H0 b L xs h H) (hL : so_L H0.size b ls μ.2.2.1 lv) (hnd : so_nd lv) (hlo : ∀ q ∈ locs, H0.size ≤ q.base) (hce : am_ce h0 ≤ am_ce h) (hsl : am_sl h0 ≤ am_sl h) {off : Int} (hck : so_ck μ pc (.goto off, len, x, y, z, w, v) = true) (hr : am_stp k kc kr none (.goto off, len, x, y, z, w, v) (pc, lv, st, h) = some r) : W p l e R s m args below meth c H locs (am_ce h - am_ce h0) (am_sl h - am_sl h0) (so_Z D cA H0 b L xs below s h0 r) (F0 m pc ls (st.map (so_cv H0.size b))) := by
  have hck : (decide (decode μ.2.1 pc = .ok (.goto off, len)) && (decide (len = 3) && decide ((pc : Int) + off = (x : Int)))) = true := hck
  simp only [Bool.and_eq_true, decide_eq_true_eq] at hck
  obtain ⟨hdg, rfl, ht⟩ := hck
  exact lv_goto C.1 C.2.1 hdg ht (G _ _ _ _ _ _ _ hr hR hL hnd hlo hce hsl)
theorem sw_if_eq {k : am_C → Option (am_O × am_H)} {kc : Nat → List Value → am_C → Option (am_O × am_H)} {kr : am_O → am_H → Option (am_O × am_H)} {len x y z w : Nat} {v : Value} {pc : Nat} {lv st : List Value} {h : am_H} {H : Heap} {locs : List Loc} {ls : Array Slot} (C : so_Cx p R s m args meth c D cA H0 b L xs μ) (G : so_G p l e R s m args below meth c D cA H0 b L xs μ h0 r k) (hR : so_Rp D cA H0 b L xs h H) (hL : so_L H0.size b ls μ.2.2.1 lv) (hnd : so_nd lv) (hlo : ∀ q ∈ locs, H0.size ≤ q.base) (hce : am_ce h0 ≤ am_ce h) (hsl : am_sl h0 ≤ am_sl h) {off : Int} (hck : so_ck μ pc (.ifCond .eq off, len, x, y, z, w, v) = true) (hr : am_stp k kc kr none (.ifCond .eq off, len, x, y, z, w, v) (pc, lv, st, h) = some r) : W p l e R s m args below meth c H locs (am_ce h - am_ce h0) (am_sl h - am_sl h0) (so_Z D cA H0 b L xs below s h0 r) (F0 m pc ls (st.map (so_cv H0.size b))) := by
  have hck : (decide (decode μ.2.1 pc = .ok (.ifCond .eq off, len)) && (decide (len = 3) && decide ((pc : Int) + off = (x : Int)))) = true := hck
  simp only [Bool.and_eq_true, decide_eq_true_eq] at hck
  obtain ⟨hdg, rfl, ht⟩ := hck
  simp only [am_stp] at hr
  split at hr
  · refine lv_if_eq C.1 C.2.1 hdg ht (fun hc => ?_) (fun hc => ?_)
    · rw [if_pos hc] at hr
      exact G _ _ _ _ _ _ _ hr hR hL hnd hlo hce hsl
    · rw [if_neg hc] at hr
      exact G _ _ _ _ _ _ _ hr hR hL hnd hlo hce hsl
  · cases hr
theorem sw_icmp_eq {k : am_C → Option (am_O × am_H)} {kc : Nat → List Value → am_C → Option (am_O × am_H)} {kr : am_O → am_H → Option (am_O × am_H)} {len x y z w : Nat} {v : Value} {pc : Nat} {lv st : List Value} {h : am_H} {H : Heap} {locs : List Loc} {ls : Array Slot} (C : so_Cx p R s m args meth c D cA H0 b L xs μ) (G : so_G p l e R s m args below meth c D cA H0 b L xs μ h0 r k) (hR : so_Rp D cA H0 b L xs h H) (hL : so_L H0.size b ls μ.2.2.1 lv) (hnd : so_nd lv) (hlo : ∀ q ∈ locs, H0.size ≤ q.base) (hce : am_ce h0 ≤ am_ce h) (hsl : am_sl h0 ≤ am_sl h) {off : Int} (hck : so_ck μ pc (.if_icmp .eq off, len, x, y, z, w, v) = true) (hr : am_stp k kc kr none (.if_icmp .eq off, len, x, y, z, w, v) (pc, lv, st, h) = some r) : W p l e R s m args below meth c H locs (am_ce h - am_ce h0) (am_sl h - am_sl h0) (so_Z D cA H0 b L xs below s h0 r) (F0 m pc ls (st.map (so_cv H0.size b))) := by
  have hck : (decide (decode μ.2.1 pc = .ok (.if_icmp .eq off, len)) && (decide (len = 3) && decide ((pc : Int) + off = (x : Int)))) = true := hck
  simp only [Bool.and_eq_true, decide_eq_true_eq] at hck
  obtain ⟨hdg, rfl, ht⟩ := hck
  simp only [am_stp] at hr
  split at hr
  · refine lv_icmp_eq C.1 C.2.1 hdg ht (fun hc => ?_) (fun hc => ?_)
    · rw [if_pos hc] at hr
      exact G _ _ _ _ _ _ _ hr hR hL hnd hlo hce hsl
    · rw [if_neg hc] at hr
      exact G _ _ _ _ _ _ _ hr hR hL hnd hlo hce hsl
  · cases hr
theorem sw_if_ne {k : am_C → Option (am_O × am_H)} {kc : Nat → List Value → am_C → Option (am_O × am_H)} {kr : am_O → am_H → Option (am_O × am_H)} {len x y z w : Nat} {v : Value} {pc : Nat} {lv st : List Value} {h : am_H} {H : Heap} {locs : List Loc} {ls : Array Slot} (C : so_Cx p R s m args meth c D cA H0 b L xs μ) (G : so_G p l e R s m args below meth c D cA H0 b L xs μ h0 r k) (hR : so_Rp D cA H0 b L xs h H) (hL : so_L H0.size b ls μ.2.2.1 lv) (hnd : so_nd lv) (hlo : ∀ q ∈ locs, H0.size ≤ q.base) (hce : am_ce h0 ≤ am_ce h) (hsl : am_sl h0 ≤ am_sl h) {off : Int} (hck : so_ck μ pc (.ifCond .ne off, len, x, y, z, w, v) = true) (hr : am_stp k kc kr none (.ifCond .ne off, len, x, y, z, w, v) (pc, lv, st, h) = some r) : W p l e R s m args below meth c H locs (am_ce h - am_ce h0) (am_sl h - am_sl h0) (so_Z D cA H0 b L xs below s h0 r) (F0 m pc ls (st.map (so_cv H0.size b))) := by
  have hck : (decide (decode μ.2.1 pc = .ok (.ifCond .ne off, len)) && (decide (len = 3) && decide ((pc : Int) + off = (x : Int)))) = true := hck
  simp only [Bool.and_eq_true, decide_eq_true_eq] at hck
  obtain ⟨hdg, rfl, ht⟩ := hck
  simp only [am_stp] at hr
  split at hr
  · refine lv_if_ne C.1 C.2.1 hdg ht (fun hc => ?_) (fun hc => ?_)
    · rw [if_neg hc] at hr
      exact G _ _ _ _ _ _ _ hr hR hL hnd hlo hce hsl
    · rw [if_pos hc] at hr
      exact G _ _ _ _ _ _ _ hr hR hL hnd hlo hce hsl
  · cases hr
theorem sw_icmp_ne {k : am_C → Option (am_O × am_H)} {kc : Nat → List Value → am_C → Option (am_O × am_H)} {kr : am_O → am_H → Option (am_O × am_H)} {len x y z w : Nat} {v : Value} {pc : Nat} {lv st : List Value} {h : am_H} {H : Heap} {locs : List Loc} {ls : Array Slot} (C : so_Cx p R s m args meth c D cA H0 b L xs μ) (G : so_G p l e R s m args below meth c D cA H0 b L xs μ h0 r k) (hR : so_Rp D cA H0 b L xs h H) (hL : so_L H0.size b ls μ.2.2.1 lv) (hnd : so_nd lv) (hlo : ∀ q ∈ locs, H0.size ≤ q.base) (hce : am_ce h0 ≤ am_ce h) (hsl : am_sl h0 ≤ am_sl h) {off : Int} (hck : so_ck μ pc (.if_icmp .ne off, len, x, y, z, w, v) = true) (hr : am_stp k kc kr none (.if_icmp .ne off, len, x, y, z, w, v) (pc, lv, st, h) = some r) : W p l e R s m args below meth c H locs (am_ce h - am_ce h0) (am_sl h - am_sl h0) (so_Z D cA H0 b L xs below s h0 r) (F0 m pc ls (st.map (so_cv H0.size b))) := by
  have hck : (decide (decode μ.2.1 pc = .ok (.if_icmp .ne off, len)) && (decide (len = 3) && decide ((pc : Int) + off = (x : Int)))) = true := hck
  simp only [Bool.and_eq_true, decide_eq_true_eq] at hck
  obtain ⟨hdg, rfl, ht⟩ := hck
  simp only [am_stp] at hr
  split at hr
  · refine lv_icmp_ne C.1 C.2.1 hdg ht (fun hc => ?_) (fun hc => ?_)
    · rw [if_neg hc] at hr
      exact G _ _ _ _ _ _ _ hr hR hL hnd hlo hce hsl
    · rw [if_pos hc] at hr
      exact G _ _ _ _ _ _ _ hr hR hL hnd hlo hce hsl
  · cases hr
theorem sw_if_lt {k : am_C → Option (am_O × am_H)} {kc : Nat → List Value → am_C → Option (am_O × am_H)} {kr : am_O → am_H → Option (am_O × am_H)} {len x y z w : Nat} {v : Value} {pc : Nat} {lv st : List Value} {h : am_H} {H : Heap} {locs : List Loc} {ls : Array Slot} (C : so_Cx p R s m args meth c D cA H0 b L xs μ) (G : so_G p l e R s m args below meth c D cA H0 b L xs μ h0 r k) (hR : so_Rp D cA H0 b L xs h H) (hL : so_L H0.size b ls μ.2.2.1 lv) (hnd : so_nd lv) (hlo : ∀ q ∈ locs, H0.size ≤ q.base) (hce : am_ce h0 ≤ am_ce h) (hsl : am_sl h0 ≤ am_sl h) {off : Int} (hck : so_ck μ pc (.ifCond .lt off, len, x, y, z, w, v) = true) (hr : am_stp k kc kr none (.ifCond .lt off, len, x, y, z, w, v) (pc, lv, st, h) = some r) : W p l e R s m args below meth c H locs (am_ce h - am_ce h0) (am_sl h - am_sl h0) (so_Z D cA H0 b L xs below s h0 r) (F0 m pc ls (st.map (so_cv H0.size b))) := by
  have hck : (decide (decode μ.2.1 pc = .ok (.ifCond .lt off, len)) && (decide (len = 3) && decide ((pc : Int) + off = (x : Int)))) = true := hck
  simp only [Bool.and_eq_true, decide_eq_true_eq] at hck
  obtain ⟨hdg, rfl, ht⟩ := hck
  simp only [am_stp] at hr
  split at hr
  · refine lv_if_lt C.1 C.2.1 hdg ht (fun hc => ?_) (fun hc => ?_)
    · rw [if_pos hc] at hr
      exact G _ _ _ _ _ _ _ hr hR hL hnd hlo hce hsl
    · rw [if_neg hc] at hr
      exact G _ _ _ _ _ _ _ hr hR hL hnd hlo hce hsl
  · cases hr
theorem sw_icmp_lt {k : am_C → Option (am_O × am_H)} {kc : Nat → List Value → am_C → Option (am_O × am_H)} {kr : am_O → am_H → Option (am_O × am_H)} {len x y z w : Nat} {v : Value} {pc : Nat} {lv st : List Value} {h : am_H} {H : Heap} {locs : List Loc} {ls : Array Slot} (C : so_Cx p R s m args meth c D cA H0 b L xs μ) (G : so_G p l e R s m args below meth c D cA H0 b L xs μ h0 r k) (hR : so_Rp D cA H0 b L xs h H) (hL : so_L H0.size b ls μ.2.2.1 lv) (hnd : so_nd lv) (hlo : ∀ q ∈ locs, H0.size ≤ q.base) (hce : am_ce h0 ≤ am_ce h) (hsl : am_sl h0 ≤ am_sl h) {off : Int} (hck : so_ck μ pc (.if_icmp .lt off, len, x, y, z, w, v) = true) (hr : am_stp k kc kr none (.if_icmp .lt off, len, x, y, z, w, v) (pc, lv, st, h) = some r) : W p l e R s m args below meth c H locs (am_ce h - am_ce h0) (am_sl h - am_sl h0) (so_Z D cA H0 b L xs below s h0 r) (F0 m pc ls (st.map (so_cv H0.size b))) := by
  have hck : (decide (decode μ.2.1 pc = .ok (.if_icmp .lt off, len)) && (decide (len = 3) && decide ((pc : Int) + off = (x : Int)))) = true := hck
  simp only [Bool.and_eq_true, decide_eq_true_eq] at hck
  obtain ⟨hdg, rfl, ht⟩ := hck
  simp only [am_stp] at hr
  split at hr
  · refine lv_icmp_lt C.1 C.2.1 hdg ht (fun hc => ?_) (fun hc => ?_)
    · rw [if_pos hc] at hr
      exact G _ _ _ _ _ _ _ hr hR hL hnd hlo hce hsl
    · rw [if_neg hc] at hr
      exact G _ _ _ _ _ _ _ hr hR hL hnd hlo hce hsl
  · cases hr
theorem sw_if_gt {k : am_C → Option (am_O × am_H)} {kc : Nat → List Value → am_C → Option (am_O × am_H)} {kr : am_O → am_H → Option (am_O × am_H)} {len x y z w : Nat} {v : Value} {pc : Nat} {lv st : List Value} {h : am_H} {H : Heap} {locs : List Loc} {ls : Array Slot} (C : so_Cx p R s m args meth c D cA H0 b L xs μ) (G : so_G p l e R s m args below meth c D cA H0 b L xs μ h0 r k) (hR : so_Rp D cA H0 b L xs h H) (hL : so_L H0.size b ls μ.2.2.1 lv) (hnd : so_nd lv) (hlo : ∀ q ∈ locs, H0.size ≤ q.base) (hce : am_ce h0 ≤ am_ce h) (hsl : am_sl h0 ≤ am_sl h) {off : Int} (hck : so_ck μ pc (.ifCond .gt off, len, x, y, z, w, v) = true) (hr : am_stp k kc kr none (.ifCond .gt off, len, x, y, z, w, v) (pc, lv, st, h) = some r) : W p l e R s m args below meth c H locs (am_ce h - am_ce h0) (am_sl h - am_sl h0) (so_Z D cA H0 b L xs below s h0 r) (F0 m pc ls (st.map (so_cv H0.size b))) := by
  have hck : (decide (decode μ.2.1 pc = .ok (.ifCond .gt off, len)) && (decide (len = 3) && decide ((pc : Int) + off = (x : Int)))) = true := hck
  simp only [Bool.and_eq_true, decide_eq_true_eq] at hck
  obtain ⟨hdg, rfl, ht⟩ := hck
  simp only [am_stp] at hr
  split at hr
  · refine lv_if_gt C.1 C.2.1 hdg ht (fun hc => ?_) (fun hc => ?_)
    · rw [if_pos hc] at hr
      exact G _ _ _ _ _ _ _ hr hR hL hnd hlo hce hsl
    · rw [if_neg hc] at hr
      exact G _ _ _ _ _ _ _ hr hR hL hnd hlo hce hsl
  · cases hr
theorem sw_icmp_gt {k : am_C → Option (am_O × am_H)} {kc : Nat → List Value → am_C → Option (am_O × am_H)} {kr : am_O → am_H → Option (am_O × am_H)} {len x y z w : Nat} {v : Value} {pc : Nat} {lv st : List Value} {h : am_H} {H : Heap} {locs : List Loc} {ls : Array Slot} (C : so_Cx p R s m args meth c D cA H0 b L xs μ) (G : so_G p l e R s m args below meth c D cA H0 b L xs μ h0 r k) (hR : so_Rp D cA H0 b L xs h H) (hL : so_L H0.size b ls μ.2.2.1 lv) (hnd : so_nd lv) (hlo : ∀ q ∈ locs, H0.size ≤ q.base) (hce : am_ce h0 ≤ am_ce h) (hsl : am_sl h0 ≤ am_sl h) {off : Int} (hck : so_ck μ pc (.if_icmp .gt off, len, x, y, z, w, v) = true) (hr : am_stp k kc kr none (.if_icmp .gt off, len, x, y, z, w, v) (pc, lv, st, h) = some r) : W p l e R s m args below meth c H locs (am_ce h - am_ce h0) (am_sl h - am_sl h0) (so_Z D cA H0 b L xs below s h0 r) (F0 m pc ls (st.map (so_cv H0.size b))) := by
  have hck : (decide (decode μ.2.1 pc = .ok (.if_icmp .gt off, len)) && (decide (len = 3) && decide ((pc : Int) + off = (x : Int)))) = true := hck
  simp only [Bool.and_eq_true, decide_eq_true_eq] at hck
  obtain ⟨hdg, rfl, ht⟩ := hck
  simp only [am_stp] at hr
  split at hr
  · refine lv_icmp_gt C.1 C.2.1 hdg ht (fun hc => ?_) (fun hc => ?_)
    · rw [if_pos hc] at hr
      exact G _ _ _ _ _ _ _ hr hR hL hnd hlo hce hsl
    · rw [if_neg hc] at hr
      exact G _ _ _ _ _ _ _ hr hR hL hnd hlo hce hsl
  · cases hr
theorem sw_if_ge {k : am_C → Option (am_O × am_H)} {kc : Nat → List Value → am_C → Option (am_O × am_H)} {kr : am_O → am_H → Option (am_O × am_H)} {len x y z w : Nat} {v : Value} {pc : Nat} {lv st : List Value} {h : am_H} {H : Heap} {locs : List Loc} {ls : Array Slot} (C : so_Cx p R s m args meth c D cA H0 b L xs μ) (G : so_G p l e R s m args below meth c D cA H0 b L xs μ h0 r k) (hR : so_Rp D cA H0 b L xs h H) (hL : so_L H0.size b ls μ.2.2.1 lv) (hnd : so_nd lv) (hlo : ∀ q ∈ locs, H0.size ≤ q.base) (hce : am_ce h0 ≤ am_ce h) (hsl : am_sl h0 ≤ am_sl h) {off : Int} (hck : so_ck μ pc (.ifCond .ge off, len, x, y, z, w, v) = true) (hr : am_stp k kc kr none (.ifCond .ge off, len, x, y, z, w, v) (pc, lv, st, h) = some r) : W p l e R s m args below meth c H locs (am_ce h - am_ce h0) (am_sl h - am_sl h0) (so_Z D cA H0 b L xs below s h0 r) (F0 m pc ls (st.map (so_cv H0.size b))) := by
  have hck : (decide (decode μ.2.1 pc = .ok (.ifCond .ge off, len)) && (decide (len = 3) && decide ((pc : Int) + off = (x : Int)))) = true := hck
  simp only [Bool.and_eq_true, decide_eq_true_eq] at hck
  obtain ⟨hdg, rfl, ht⟩ := hck
  simp only [am_stp] at hr
  split at hr
  · refine lv_if_ge C.1 C.2.1 hdg ht (fun hc => ?_) (fun hc => ?_)
    · rw [if_neg (Int32.not_lt.mpr hc)] at hr
      exact G _ _ _ _ _ _ _ hr hR hL hnd hlo hce hsl
    · rw [if_pos (Int32.not_le.mp hc)] at hr
      exact G _ _ _ _ _ _ _ hr hR hL hnd hlo hce hsl
  · cases hr
theorem sw_icmp_ge {k : am_C → Option (am_O × am_H)} {kc : Nat → List Value → am_C → Option (am_O × am_H)} {kr : am_O → am_H → Option (am_O × am_H)} {len x y z w : Nat} {v : Value} {pc : Nat} {lv st : List Value} {h : am_H} {H : Heap} {locs : List Loc} {ls : Array Slot} (C : so_Cx p R s m args meth c D cA H0 b L xs μ) (G : so_G p l e R s m args below meth c D cA H0 b L xs μ h0 r k) (hR : so_Rp D cA H0 b L xs h H) (hL : so_L H0.size b ls μ.2.2.1 lv) (hnd : so_nd lv) (hlo : ∀ q ∈ locs, H0.size ≤ q.base) (hce : am_ce h0 ≤ am_ce h) (hsl : am_sl h0 ≤ am_sl h) {off : Int} (hck : so_ck μ pc (.if_icmp .ge off, len, x, y, z, w, v) = true) (hr : am_stp k kc kr none (.if_icmp .ge off, len, x, y, z, w, v) (pc, lv, st, h) = some r) : W p l e R s m args below meth c H locs (am_ce h - am_ce h0) (am_sl h - am_sl h0) (so_Z D cA H0 b L xs below s h0 r) (F0 m pc ls (st.map (so_cv H0.size b))) := by
  have hck : (decide (decode μ.2.1 pc = .ok (.if_icmp .ge off, len)) && (decide (len = 3) && decide ((pc : Int) + off = (x : Int)))) = true := hck
  simp only [Bool.and_eq_true, decide_eq_true_eq] at hck
  obtain ⟨hdg, rfl, ht⟩ := hck
  simp only [am_stp] at hr
  split at hr
  · refine lv_icmp_ge C.1 C.2.1 hdg ht (fun hc => ?_) (fun hc => ?_)
    · rw [if_neg (Int32.not_lt.mpr hc)] at hr
      exact G _ _ _ _ _ _ _ hr hR hL hnd hlo hce hsl
    · rw [if_pos (Int32.not_le.mp hc)] at hr
      exact G _ _ _ _ _ _ _ hr hR hL hnd hlo hce hsl
  · cases hr
theorem sw_if_le {k : am_C → Option (am_O × am_H)} {kc : Nat → List Value → am_C → Option (am_O × am_H)} {kr : am_O → am_H → Option (am_O × am_H)} {len x y z w : Nat} {v : Value} {pc : Nat} {lv st : List Value} {h : am_H} {H : Heap} {locs : List Loc} {ls : Array Slot} (C : so_Cx p R s m args meth c D cA H0 b L xs μ) (G : so_G p l e R s m args below meth c D cA H0 b L xs μ h0 r k) (hR : so_Rp D cA H0 b L xs h H) (hL : so_L H0.size b ls μ.2.2.1 lv) (hnd : so_nd lv) (hlo : ∀ q ∈ locs, H0.size ≤ q.base) (hce : am_ce h0 ≤ am_ce h) (hsl : am_sl h0 ≤ am_sl h) {off : Int} (hck : so_ck μ pc (.ifCond .le off, len, x, y, z, w, v) = true) (hr : am_stp k kc kr none (.ifCond .le off, len, x, y, z, w, v) (pc, lv, st, h) = some r) : W p l e R s m args below meth c H locs (am_ce h - am_ce h0) (am_sl h - am_sl h0) (so_Z D cA H0 b L xs below s h0 r) (F0 m pc ls (st.map (so_cv H0.size b))) := by
  have hck : (decide (decode μ.2.1 pc = .ok (.ifCond .le off, len)) && (decide (len = 3) && decide ((pc : Int) + off = (x : Int)))) = true := hck
  simp only [Bool.and_eq_true, decide_eq_true_eq] at hck
  obtain ⟨hdg, rfl, ht⟩ := hck
  simp only [am_stp] at hr
  split at hr
  · refine lv_if_le C.1 C.2.1 hdg ht (fun hc => ?_) (fun hc => ?_)
    · rw [if_neg (Int32.not_lt.mpr hc)] at hr
      exact G _ _ _ _ _ _ _ hr hR hL hnd hlo hce hsl
    · rw [if_pos (Int32.not_le.mp hc)] at hr
      exact G _ _ _ _ _ _ _ hr hR hL hnd hlo hce hsl
  · cases hr
theorem sw_icmp_le {k : am_C → Option (am_O × am_H)} {kc : Nat → List Value → am_C → Option (am_O × am_H)} {kr : am_O → am_H → Option (am_O × am_H)} {len x y z w : Nat} {v : Value} {pc : Nat} {lv st : List Value} {h : am_H} {H : Heap} {locs : List Loc} {ls : Array Slot} (C : so_Cx p R s m args meth c D cA H0 b L xs μ) (G : so_G p l e R s m args below meth c D cA H0 b L xs μ h0 r k) (hR : so_Rp D cA H0 b L xs h H) (hL : so_L H0.size b ls μ.2.2.1 lv) (hnd : so_nd lv) (hlo : ∀ q ∈ locs, H0.size ≤ q.base) (hce : am_ce h0 ≤ am_ce h) (hsl : am_sl h0 ≤ am_sl h) {off : Int} (hck : so_ck μ pc (.if_icmp .le off, len, x, y, z, w, v) = true) (hr : am_stp k kc kr none (.if_icmp .le off, len, x, y, z, w, v) (pc, lv, st, h) = some r) : W p l e R s m args below meth c H locs (am_ce h - am_ce h0) (am_sl h - am_sl h0) (so_Z D cA H0 b L xs below s h0 r) (F0 m pc ls (st.map (so_cv H0.size b))) := by
  have hck : (decide (decode μ.2.1 pc = .ok (.if_icmp .le off, len)) && (decide (len = 3) && decide ((pc : Int) + off = (x : Int)))) = true := hck
  simp only [Bool.and_eq_true, decide_eq_true_eq] at hck
  obtain ⟨hdg, rfl, ht⟩ := hck
  simp only [am_stp] at hr
  split at hr
  · refine lv_icmp_le C.1 C.2.1 hdg ht (fun hc => ?_) (fun hc => ?_)
    · rw [if_neg (Int32.not_lt.mpr hc)] at hr
      exact G _ _ _ _ _ _ _ hr hR hL hnd hlo hce hsl
    · rw [if_pos (Int32.not_le.mp hc)] at hr
      exact G _ _ _ _ _ _ _ hr hR hL hnd hlo hce hsl
  · cases hr
theorem sw_pop {k : am_C → Option (am_O × am_H)} {kc : Nat → List Value → am_C → Option (am_O × am_H)} {kr : am_O → am_H → Option (am_O × am_H)} {len x y z w : Nat} {v : Value} {pc : Nat} {lv st : List Value} {h : am_H} {H : Heap} {locs : List Loc} {ls : Array Slot} (C : so_Cx p R s m args meth c D cA H0 b L xs μ) (G : so_G p l e R s m args below meth c D cA H0 b L xs μ h0 r k) (hR : so_Rp D cA H0 b L xs h H) (hL : so_L H0.size b ls μ.2.2.1 lv) (hnd : so_nd lv) (hlo : ∀ q ∈ locs, H0.size ≤ q.base) (hce : am_ce h0 ≤ am_ce h) (hsl : am_sl h0 ≤ am_sl h)  (hck : so_ck μ pc (.pop, len, x, y, z, w, v) = true) (hr : am_stp k kc kr none (.pop, len, x, y, z, w, v) (pc, lv, st, h) = some r) : W p l e R s m args below meth c H locs (am_ce h - am_ce h0) (am_sl h - am_sl h0) (so_Z D cA H0 b L xs below s h0 r) (F0 m pc ls (st.map (so_cv H0.size b))) := by
  have hck : (decide (decode μ.2.1 pc = .ok (.pop, len)) && (decide (len = 1))) = true := hck
  simp only [Bool.and_eq_true, decide_eq_true_eq] at hck
  obtain ⟨hdg, rfl⟩ := hck
  simp only [am_stp] at hr
  split at hr
  · exact lv_pop C.1 C.2.1 hdg rfl (G _ _ _ _ _ _ _ hr hR hL hnd hlo hce hsl)
  · rename_i a st'
    exact lv_pop C.1 C.2.1 hdg (by cases a <;> rfl) (G _ _ _ _ _ _ _ hr hR hL hnd hlo hce hsl)
  · cases hr
theorem sw_dup {k : am_C → Option (am_O × am_H)} {kc : Nat → List Value → am_C → Option (am_O × am_H)} {kr : am_O → am_H → Option (am_O × am_H)} {len x y z w : Nat} {v : Value} {pc : Nat} {lv st : List Value} {h : am_H} {H : Heap} {locs : List Loc} {ls : Array Slot} (C : so_Cx p R s m args meth c D cA H0 b L xs μ) (G : so_G p l e R s m args below meth c D cA H0 b L xs μ h0 r k) (hR : so_Rp D cA H0 b L xs h H) (hL : so_L H0.size b ls μ.2.2.1 lv) (hnd : so_nd lv) (hlo : ∀ q ∈ locs, H0.size ≤ q.base) (hce : am_ce h0 ≤ am_ce h) (hsl : am_sl h0 ≤ am_sl h)  (hck : so_ck μ pc (.dup, len, x, y, z, w, v) = true) (hr : am_stp k kc kr none (.dup, len, x, y, z, w, v) (pc, lv, st, h) = some r) : W p l e R s m args below meth c H locs (am_ce h - am_ce h0) (am_sl h - am_sl h0) (so_Z D cA H0 b L xs below s h0 r) (F0 m pc ls (st.map (so_cv H0.size b))) := by
  have hck : (decide (decode μ.2.1 pc = .ok (.dup, len)) && (decide (len = 1))) = true := hck
  simp only [Bool.and_eq_true, decide_eq_true_eq] at hck
  obtain ⟨hdg, rfl⟩ := hck
  simp only [am_stp] at hr
  split at hr
  · exact lv_dup C.1 C.2.1 hdg rfl (G _ _ _ _ _ _ _ hr hR hL hnd hlo hce hsl)
  · rename_i a st'
    exact lv_dup C.1 C.2.1 hdg (by cases a <;> rfl) (G _ _ _ _ _ _ _ hr hR hL hnd hlo hce hsl)
  · cases hr
theorem sw_dup2 {k : am_C → Option (am_O × am_H)} {kc : Nat → List Value → am_C → Option (am_O × am_H)} {kr : am_O → am_H → Option (am_O × am_H)} {len x y z w : Nat} {v : Value} {pc : Nat} {lv st : List Value} {h : am_H} {H : Heap} {locs : List Loc} {ls : Array Slot} (C : so_Cx p R s m args meth c D cA H0 b L xs μ) (G : so_G p l e R s m args below meth c D cA H0 b L xs μ h0 r k) (hR : so_Rp D cA H0 b L xs h H) (hL : so_L H0.size b ls μ.2.2.1 lv) (hnd : so_nd lv) (hlo : ∀ q ∈ locs, H0.size ≤ q.base) (hce : am_ce h0 ≤ am_ce h) (hsl : am_sl h0 ≤ am_sl h)  (hck : so_ck μ pc (.dup2, len, x, y, z, w, v) = true) (hr : am_stp k kc kr none (.dup2, len, x, y, z, w, v) (pc, lv, st, h) = some r) : W p l e R s m args below meth c H locs (am_ce h - am_ce h0) (am_sl h - am_sl h0) (so_Z D cA H0 b L xs below s h0 r) (F0 m pc ls (st.map (so_cv H0.size b))) := by
  have hck : (decide (decode μ.2.1 pc = .ok (.dup2, len)) && (decide (len = 1))) = true := hck
  simp only [Bool.and_eq_true, decide_eq_true_eq] at hck
  obtain ⟨hdg, rfl⟩ := hck
  simp only [am_stp] at hr
  split at hr
  · rename_i a' a st'
    exact lv_dup2_11 C.1 C.2.1 hdg rfl (by cases a <;> rfl) (G _ _ _ _ _ _ _ hr hR hL hnd hlo hce hsl)
  · exact lv_dup2_2 C.1 C.2.1 hdg rfl (G _ _ _ _ _ _ _ hr hR hL hnd hlo hce hsl)
  · cases hr
theorem sw_iaload {k : am_C → Option (am_O × am_H)} {kc : Nat → List Value → am_C → Option (am_O × am_H)} {kr : am_O → am_H → Option (am_O × am_H)} {len x y z w : Nat} {v : Value} {pc : Nat} {lv st : List Value} {h : am_H} {H : Heap} {locs : List Loc} {ls : Array Slot} (C : so_Cx p R s m args meth c D cA H0 b L xs μ) (G : so_G p l e R s m args below meth c D cA H0 b L xs μ h0 r k) (hR : so_Rp D cA H0 b L xs h H) (hL : so_L H0.size b ls μ.2.2.1 lv) (hnd : so_nd lv) (hlo : ∀ q ∈ locs, H0.size ≤ q.base) (hce : am_ce h0 ≤ am_ce h) (hsl : am_sl h0 ≤ am_sl h)  (hck : so_ck μ pc (.iaload, len, x, y, z, w, v) = true) (hr : am_stp k kc kr none (.iaload, len, x, y, z, w, v) (pc, lv, st, h) = some r) : W p l e R s m args below meth c H locs (am_ce h - am_ce h0) (am_sl h - am_sl h0) (so_Z D cA H0 b L xs below s h0 r) (F0 m pc ls (st.map (so_cv H0.size b))) := by
  have hck : (decide (decode μ.2.1 pc = .ok (.iaload, len)) && (decide (len = 1))) = true := hck
  simp only [Bool.and_eq_true, decide_eq_true_eq] at hck
  obtain ⟨hdg, rfl⟩ := hck
  simp only [am_stp] at hr
  split at hr
  · split at hr
    · rename_i hk
      split at hr
      · cases hr
      · rename_i hi
        exact so_iald C.1 C.2.1 C.2.2.2.2.2.1 hR hk hi hdg (G _ _ _ _ _ _ _ hr hR hL hnd hlo hce hsl)
    · cases hr
  · cases hr
theorem sw_laload {k : am_C → Option (am_O × am_H)} {kc : Nat → List Value → am_C → Option (am_O × am_H)} {kr : am_O → am_H → Option (am_O × am_H)} {len x y z w : Nat} {v : Value} {pc : Nat} {lv st : List Value} {h : am_H} {H : Heap} {locs : List Loc} {ls : Array Slot} (C : so_Cx p R s m args meth c D cA H0 b L xs μ) (G : so_G p l e R s m args below meth c D cA H0 b L xs μ h0 r k) (hR : so_Rp D cA H0 b L xs h H) (hL : so_L H0.size b ls μ.2.2.1 lv) (hnd : so_nd lv) (hlo : ∀ q ∈ locs, H0.size ≤ q.base) (hce : am_ce h0 ≤ am_ce h) (hsl : am_sl h0 ≤ am_sl h)  (hck : so_ck μ pc (.laload, len, x, y, z, w, v) = true) (hr : am_stp k kc kr none (.laload, len, x, y, z, w, v) (pc, lv, st, h) = some r) : W p l e R s m args below meth c H locs (am_ce h - am_ce h0) (am_sl h - am_sl h0) (so_Z D cA H0 b L xs below s h0 r) (F0 m pc ls (st.map (so_cv H0.size b))) := by
  have hck : (decide (decode μ.2.1 pc = .ok (.laload, len)) && (decide (len = 1))) = true := hck
  simp only [Bool.and_eq_true, decide_eq_true_eq] at hck
  obtain ⟨hdg, rfl⟩ := hck
  simp only [am_stp] at hr
  split at hr
  · split at hr
    · rename_i hk
      split at hr
      · cases hr
      · rename_i hi
        exact so_lald C.1 C.2.1 C.2.2.2.2.2.1 hR hk hi hdg (G _ _ _ _ _ _ _ hr hR hL hnd hlo hce hsl)
    · cases hr
  · cases hr
theorem sw_baload {k : am_C → Option (am_O × am_H)} {kc : Nat → List Value → am_C → Option (am_O × am_H)} {kr : am_O → am_H → Option (am_O × am_H)} {len x y z w : Nat} {v : Value} {pc : Nat} {lv st : List Value} {h : am_H} {H : Heap} {locs : List Loc} {ls : Array Slot} (C : so_Cx p R s m args meth c D cA H0 b L xs μ) (G : so_G p l e R s m args below meth c D cA H0 b L xs μ h0 r k) (hR : so_Rp D cA H0 b L xs h H) (hL : so_L H0.size b ls μ.2.2.1 lv) (hnd : so_nd lv) (hlo : ∀ q ∈ locs, H0.size ≤ q.base) (hce : am_ce h0 ≤ am_ce h) (hsl : am_sl h0 ≤ am_sl h)  (hck : so_ck μ pc (.baload, len, x, y, z, w, v) = true) (hr : am_stp k kc kr none (.baload, len, x, y, z, w, v) (pc, lv, st, h) = some r) : W p l e R s m args below meth c H locs (am_ce h - am_ce h0) (am_sl h - am_sl h0) (so_Z D cA H0 b L xs below s h0 r) (F0 m pc ls (st.map (so_cv H0.size b))) := by
  have hck : (decide (decode μ.2.1 pc = .ok (.baload, len)) && (decide (len = 1))) = true := hck
  simp only [Bool.and_eq_true, decide_eq_true_eq] at hck
  obtain ⟨hdg, rfl⟩ := hck
  simp only [am_stp] at hr
  split at hr
  · split at hr
    · rename_i hk
      split at hr
      · cases hr
      · rename_i hi
        exact so_bald C.1 C.2.1 C.2.2.2.2.2.1 hR hk hi hdg (G _ _ _ _ _ _ _ hr hR hL hnd hlo hce hsl)
    · cases hr
  · cases hr
theorem sw_aaload {k : am_C → Option (am_O × am_H)} {kc : Nat → List Value → am_C → Option (am_O × am_H)} {kr : am_O → am_H → Option (am_O × am_H)} {len x y z w : Nat} {v : Value} {pc : Nat} {lv st : List Value} {h : am_H} {H : Heap} {locs : List Loc} {ls : Array Slot} (C : so_Cx p R s m args meth c D cA H0 b L xs μ) (G : so_G p l e R s m args below meth c D cA H0 b L xs μ h0 r k) (hR : so_Rp D cA H0 b L xs h H) (hL : so_L H0.size b ls μ.2.2.1 lv) (hnd : so_nd lv) (hlo : ∀ q ∈ locs, H0.size ≤ q.base) (hce : am_ce h0 ≤ am_ce h) (hsl : am_sl h0 ≤ am_sl h)  (hck : so_ck μ pc (.aaload, len, x, y, z, w, v) = true) (hr : am_stp k kc kr none (.aaload, len, x, y, z, w, v) (pc, lv, st, h) = some r) : W p l e R s m args below meth c H locs (am_ce h - am_ce h0) (am_sl h - am_sl h0) (so_Z D cA H0 b L xs below s h0 r) (F0 m pc ls (st.map (so_cv H0.size b))) := by
  have hck : (decide (decode μ.2.1 pc = .ok (.aaload, len)) && (decide (len = 1))) = true := hck
  simp only [Bool.and_eq_true, decide_eq_true_eq] at hck
  obtain ⟨hdg, rfl⟩ := hck
  simp only [am_stp] at hr
  split at hr
  · rename_i i a st'
    split at hr
    · rename_i hk
      split at hr
      · cases hr
      · rename_i hi
        exact so_aald (k := am_kd h a - 200) C.1 C.2.1 C.2.2.2.2.2.1 hR (by omega) (by show _ < 4; omega) hi hdg (G _ _ _ _ _ _ _ hr hR hL hnd hlo hce hsl)
    · cases hr
  · cases hr
theorem sw_iastore {k : am_C → Option (am_O × am_H)} {kc : Nat → List Value → am_C → Option (am_O × am_H)} {kr : am_O → am_H → Option (am_O × am_H)} {len x y z w : Nat} {v : Value} {pc : Nat} {lv st : List Value} {h : am_H} {H : Heap} {locs : List Loc} {ls : Array Slot} (C : so_Cx p R s m args meth c D cA H0 b L xs μ) (G : so_G p l e R s m args below meth c D cA H0 b L xs μ h0 r k) (hR : so_Rp D cA H0 b L xs h H) (hL : so_L H0.size b ls μ.2.2.1 lv) (hnd : so_nd lv) (hlo : ∀ q ∈ locs, H0.size ≤ q.base) (hce : am_ce h0 ≤ am_ce h) (hsl : am_sl h0 ≤ am_sl h)  (hck : so_ck μ pc (.iastore, len, x, y, z, w, v) = true) (hr : am_stp k kc kr none (.iastore, len, x, y, z, w, v) (pc, lv, st, h) = some r) : W p l e R s m args below meth c H locs (am_ce h - am_ce h0) (am_sl h - am_sl h0) (so_Z D cA H0 b L xs below s h0 r) (F0 m pc ls (st.map (so_cv H0.size b))) := by
  have hck : (decide (decode μ.2.1 pc = .ok (.iastore, len)) && (decide (len = 1))) = true := hck
  simp only [Bool.and_eq_true, decide_eq_true_eq] at hck
  obtain ⟨hdg, rfl⟩ := hck
  simp only [am_stp] at hr
  split at hr
  · split at hr
    · rename_i hk
      split at hr
      · cases hr
      · rename_i hi
        exact so_iast C.1 C.2.1 C.2.2.2.2.2.1 hR hk hi hlo hdg (fun H1 locs1 hR1 hl1 => by have q := G _ _ _ _ H1 locs1 ls hr hR1 hL hnd hl1 hce hsl; exact q)
    · cases hr
  · cases hr
theorem sw_lastore {k : am_C → Option (am_O × am_H)} {kc : Nat → List Value → am_C → Option (am_O × am_H)} {kr : am_O → am_H → Option (am_O × am_H)} {len x y z w : Nat} {v : Value} {pc : Nat} {lv st : List Value} {h : am_H} {H : Heap} {locs : List Loc} {ls : Array Slot} (C : so_Cx p R s m args meth c D cA H0 b L xs μ) (G : so_G p l e R s m args below meth c D cA H0 b L xs μ h0 r k) (hR : so_Rp D cA H0 b L xs h H) (hL : so_L H0.size b ls μ.2.2.1 lv) (hnd : so_nd lv) (hlo : ∀ q ∈ locs, H0.size ≤ q.base) (hce : am_ce h0 ≤ am_ce h) (hsl : am_sl h0 ≤ am_sl h)  (hck : so_ck μ pc (.lastore, len, x, y, z, w, v) = true) (hr : am_stp k kc kr none (.lastore, len, x, y, z, w, v) (pc, lv, st, h) = some r) : W p l e R s m args below meth c H locs (am_ce h - am_ce h0) (am_sl h - am_sl h0) (so_Z D cA H0 b L xs below s h0 r) (F0 m pc ls (st.map (so_cv H0.size b))) := by
  have hck : (decide (decode μ.2.1 pc = .ok (.lastore, len)) && (decide (len = 1))) = true := hck
  simp only [Bool.and_eq_true, decide_eq_true_eq] at hck
  obtain ⟨hdg, rfl⟩ := hck
  simp only [am_stp] at hr
  split at hr
  · split at hr
    · rename_i hk
      split at hr
      · cases hr
      · rename_i hi
        exact so_last C.1 C.2.1 C.2.2.2.2.2.1 hR hk hi hlo hdg (fun H1 locs1 hR1 hl1 => by have q := G _ _ _ _ H1 locs1 ls hr hR1 hL hnd hl1 hce hsl; exact q)
    · cases hr
  · cases hr
theorem sw_bastore {k : am_C → Option (am_O × am_H)} {kc : Nat → List Value → am_C → Option (am_O × am_H)} {kr : am_O → am_H → Option (am_O × am_H)} {len x y z w : Nat} {v : Value} {pc : Nat} {lv st : List Value} {h : am_H} {H : Heap} {locs : List Loc} {ls : Array Slot} (C : so_Cx p R s m args meth c D cA H0 b L xs μ) (G : so_G p l e R s m args below meth c D cA H0 b L xs μ h0 r k) (hR : so_Rp D cA H0 b L xs h H) (hL : so_L H0.size b ls μ.2.2.1 lv) (hnd : so_nd lv) (hlo : ∀ q ∈ locs, H0.size ≤ q.base) (hce : am_ce h0 ≤ am_ce h) (hsl : am_sl h0 ≤ am_sl h)  (hck : so_ck μ pc (.bastore, len, x, y, z, w, v) = true) (hr : am_stp k kc kr none (.bastore, len, x, y, z, w, v) (pc, lv, st, h) = some r) : W p l e R s m args below meth c H locs (am_ce h - am_ce h0) (am_sl h - am_sl h0) (so_Z D cA H0 b L xs below s h0 r) (F0 m pc ls (st.map (so_cv H0.size b))) := by
  have hck : (decide (decode μ.2.1 pc = .ok (.bastore, len)) && (decide (len = 1))) = true := hck
  simp only [Bool.and_eq_true, decide_eq_true_eq] at hck
  obtain ⟨hdg, rfl⟩ := hck
  simp only [am_stp] at hr
  split at hr
  · split at hr
    · cases hr
    · rename_i hi
      split at hr
      · rename_i hk
        exact so_bast C.1 C.2.1 C.2.2.2.2.2.1 hR hk hi hlo hdg (fun H1 locs1 hR1 hl1 => by have q := G _ _ _ _ H1 locs1 ls hr hR1 hL hnd hl1 hce hsl; exact q)
      · split at hr
        · rename_i hk
          exact so_zast C.1 C.2.1 C.2.2.2.2.2.1 hR hk hi hlo hdg (fun H1 locs1 hR1 hl1 => by have q := G _ _ _ _ H1 locs1 ls hr hR1 hL hnd hl1 hce hsl; exact q)
        · cases hr
  · cases hr
theorem sw_arraylength {k : am_C → Option (am_O × am_H)} {kc : Nat → List Value → am_C → Option (am_O × am_H)} {kr : am_O → am_H → Option (am_O × am_H)} {len x y z w : Nat} {v : Value} {pc : Nat} {lv st : List Value} {h : am_H} {H : Heap} {locs : List Loc} {ls : Array Slot} (C : so_Cx p R s m args meth c D cA H0 b L xs μ) (G : so_G p l e R s m args below meth c D cA H0 b L xs μ h0 r k) (hR : so_Rp D cA H0 b L xs h H) (hL : so_L H0.size b ls μ.2.2.1 lv) (hnd : so_nd lv) (hlo : ∀ q ∈ locs, H0.size ≤ q.base) (hce : am_ce h0 ≤ am_ce h) (hsl : am_sl h0 ≤ am_sl h)  (hck : so_ck μ pc (.arraylength, len, x, y, z, w, v) = true) (hr : am_stp k kc kr none (.arraylength, len, x, y, z, w, v) (pc, lv, st, h) = some r) : W p l e R s m args below meth c H locs (am_ce h - am_ce h0) (am_sl h - am_sl h0) (so_Z D cA H0 b L xs below s h0 r) (F0 m pc ls (st.map (so_cv H0.size b))) := by
  have hck : (decide (decode μ.2.1 pc = .ok (.arraylength, len)) && (decide (len = 1))) = true := hck
  simp only [Bool.and_eq_true, decide_eq_true_eq] at hck
  obtain ⟨hdg, rfl⟩ := hck
  simp only [am_stp] at hr
  split at hr
  · split at hr
    · rename_i hk
      exact so_alen C.1 C.2.1 C.2.2.2.2.2.1 hR hk hdg (G _ _ _ _ _ _ _ hr hR hL hnd hlo hce hsl)
    · cases hr
  · cases hr
end SOX
