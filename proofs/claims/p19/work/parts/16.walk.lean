/-! CONTRACTS, AND THE WALK OF A METHOD -/
def so_out (B b : Nat) (t : State) (o : am_O) (o' : Outcome) : Prop := match o with
  | .inl v => o' = .returned (v.map (so_cv B b))
  | .inr q => o' = .threw (so_ad B b q.2) ∧ (q.2 ≠ 0 ∧ q.1 < 3) ∧ ∃ cell : Cell, t.heap[so_ad B b q.2]? = some cell ∧ t.vm.findClass (so_ex q.1) = some cell.cls ∧ cell.vm = .none
def so_Q (D : va_G) (cA : Nat → ClassId) (H0 : Heap) (b L : Nat) (xs : Nat → Int32) (h h' : am_H) (o : am_O) (st : State) (o' : Outcome) (t : State) : Prop :=
  so_out H0.size b t o o' ∧ so_Rp D cA H0 b L xs h' t.heap ∧ ∃ Lc : List Loc, st.WarmedH t.vm ∧ st.sameButNew ({ t with vm := st.vm } : State) Lc (am_ce h' - am_ce h) (am_sl h' - am_sl h) ∧ ∀ q ∈ Lc, H0.size ≤ q.base
def so_rm (m : Nat) (h h' : am_H) : Room := { frames := so_fr (nm_mi m), cells := am_ce h' - am_ce h, slots := am_sl h' - am_sl h, locals := so_lo (nm_mi m) }
/-- a method's contract: it comes to what the abstract machine comes to -/
def so_Met (l : Launch) (D : va_G) (cA : Nat → ClassId) (H0 : Heap) (b L : Nat) (xs : Nat → Int32) (m : Nat) (as : List Value) (h : am_H) (o : am_O) (h' : am_H) : Prop :=
  MetFree l (nm_mi m).1 (headSpec (so_cd (nm_mi m) :: so_TB) (so_rm m h h')) (fun a U => a = (as.map (so_cv H0.size b)).toArray ∧ so_K D cA H0 b L xs U ∧ so_Rp D cA H0 b L xs h U.heap) (fun _ _ _ _ _ => True) (fun _ st o' t => so_Q D cA H0 b L xs h h' o st o' t)
def so_Z (D : va_G) (cA : Nat → ClassId) (H0 : Heap) (b L : Nat) (xs : Nat → Int32) (below : List Frame) (s : State) (h : am_H) (r : am_O × am_H) : State → Prop := fun t =>
  ∃ o', t.status = .running ∧ Ended t below o' ∧ so_Q D cA H0 b L xs h r.2 r.1 s o' t
/-- what is known throughout a method's walk -/
def so_Cx (p : Program) (R : Room) (s : State) (m : MethodId) (args : Array Value) (meth : Method) (c : Code) (D : va_G) (cA : Nat → ClassId) (H0 : Heap) (b L : Nat) (xs : Nat → Int32) (μ : so_I) : Prop :=
  p.tables.exec = Jvm.exec ∧ c.code = μ.2.1 ∧ c.maxLocals = μ.2.2.1 ∧ s.vm.findClass (so_ow μ) = some m.cls ∧ (∀ w ∈ so_TB, w.before args s = true) ∧ so_K D cA H0 b L xs s ∧ meth.locks = false ∧ meth.sig.returnType = μ.2.2.2.1 ∧ meth.name = μ.1.name ∧
  so_fr μ ≤ R.frames ∧ so_lo μ ≤ R.locals ∧ c.exceptionTable.toList.map (fun h => (h.startPc, h.endPc, h.handlerPc, h.catchType)) = μ.2.2.2.2.1 ∧ H0.size ≤ s.heap.size
section SOW
variable {p : Program} {l : Launch} {e : Env} {R : Room} {s : State} {m : MethodId} {args : Array Value} {below : List Frame} {meth : Method} {c : Code}
variable {D : va_G} {cA : Nat → ClassId} {H0 : Heap} {b L : Nat} {xs : Nat → Int32} {μ : so_I} {h0 : am_H} {r : am_O × am_H}
theorem W.imp {H : Heap} {locs : List Loc} {cells slots : Nat} {Q Q' : State → Prop} {g : JFrame} (hq : ∀ t, Q t → Q' t) (k : W p l e R s m args below meth c H locs cells slots Q g) : W p l e R s m args below meth c H locs cells slots Q' g := by
  intro T hT X
  obtain ⟨t, a, b⟩ := k T hT X
  exact ⟨t, a, hq t b⟩
/-- a continuation that is walked -/
def so_G (p : Program) (l : Launch) (e : Env) (R : Room) (s : State) (m : MethodId) (args : Array Value) (below : List Frame) (meth : Method) (c : Code) (D : va_G) (cA : Nat → ClassId) (H0 : Heap) (b L : Nat) (xs : Nat → Int32) (μ : so_I) (h0 : am_H) (r : am_O × am_H) (k : am_C → Option (am_O × am_H)) : Prop :=
  ∀ (pc : Nat) (lv st : List Value) (h : am_H) (H : Heap) (locs : List Loc) (ls : Array Slot), k (pc, lv, st, h) = some r → so_Rp D cA H0 b L xs h H → so_L H0.size b ls μ.2.2.1 lv → so_nd lv → (∀ q ∈ locs, H0.size ≤ q.base) → am_ce h0 ≤ am_ce h → am_sl h0 ≤ am_sl h →
    W p l e R s m args below meth c H locs (am_ce h - am_ce h0) (am_sl h - am_sl h0) (so_Z D cA H0 b L xs below s h0 r) (F0 m pc ls (st.map (so_cv H0.size b)))
theorem so_cmp (a b : Int64) : lg_cmp a b = if a < b then -1 else if a = b then 0 else 1 := by
  unfold lg_cmp
  simp only [gt_iff_lt, Int64.lt_iff_toInt_lt, ← Int64.toInt_inj]
  by_cases h1 : a.toInt < b.toInt
  · rw [if_neg (by omega), if_neg (by omega), if_pos h1]
  · by_cases h2 : a.toInt = b.toInt
    · rw [if_neg (by omega), if_pos h2, if_neg h1, if_pos h2]
    · rw [if_pos (by omega), if_neg h1, if_neg h2]

theorem sw_iadd {k : am_C → Option (am_O × am_H)} {kc : Nat → List Value → am_C → Option (am_O × am_H)} {kr : am_O → am_H → Option (am_O × am_H)} {len x y z w : Nat} {v : Value} {pc : Nat} {lv st : List Value} {h : am_H} {H : Heap} {locs : List Loc} {ls : Array Slot} (C : so_Cx p R s m args meth c D cA H0 b L xs μ) (G : so_G p l e R s m args below meth c D cA H0 b L xs μ h0 r k) (hR : so_Rp D cA H0 b L xs h H) (hL : so_L H0.size b ls μ.2.2.1 lv) (hnd : so_nd lv) (hlo : ∀ q ∈ locs, H0.size ≤ q.base) (hce : am_ce h0 ≤ am_ce h) (hsl : am_sl h0 ≤ am_sl h) (hck : so_ck μ pc (.iadd, len, x, y, z, w, v) = true) (hr : am_stp k kc kr none (.iadd, len, x, y, z, w, v) (pc, lv, st, h) = some r) : W p l e R s m args below meth c H locs (am_ce h - am_ce h0) (am_sl h - am_sl h0) (so_Z D cA H0 b L xs below s h0 r) (F0 m pc ls (st.map (so_cv H0.size b))) := by
  have hck : (decide (decode μ.2.1 pc = .ok (.iadd, len)) && (decide (len = 1))) = true := hck
  simp only [Bool.and_eq_true, decide_eq_true_eq] at hck
  obtain ⟨hdg, rfl⟩ := hck
  simp only [am_stp] at hr
  split at hr
  · exact lv_iadd C.1 C.2.1 hdg (G _ _ _ _ _ _ _ hr hR hL hnd hlo hce hsl)
  · cases hr
theorem sw_isub {k : am_C → Option (am_O × am_H)} {kc : Nat → List Value → am_C → Option (am_O × am_H)} {kr : am_O → am_H → Option (am_O × am_H)} {len x y z w : Nat} {v : Value} {pc : Nat} {lv st : List Value} {h : am_H} {H : Heap} {locs : List Loc} {ls : Array Slot} (C : so_Cx p R s m args meth c D cA H0 b L xs μ) (G : so_G p l e R s m args below meth c D cA H0 b L xs μ h0 r k) (hR : so_Rp D cA H0 b L xs h H) (hL : so_L H0.size b ls μ.2.2.1 lv) (hnd : so_nd lv) (hlo : ∀ q ∈ locs, H0.size ≤ q.base) (hce : am_ce h0 ≤ am_ce h) (hsl : am_sl h0 ≤ am_sl h) (hck : so_ck μ pc (.isub, len, x, y, z, w, v) = true) (hr : am_stp k kc kr none (.isub, len, x, y, z, w, v) (pc, lv, st, h) = some r) : W p l e R s m args below meth c H locs (am_ce h - am_ce h0) (am_sl h - am_sl h0) (so_Z D cA H0 b L xs below s h0 r) (F0 m pc ls (st.map (so_cv H0.size b))) := by
  have hck : (decide (decode μ.2.1 pc = .ok (.isub, len)) && (decide (len = 1))) = true := hck
  simp only [Bool.and_eq_true, decide_eq_true_eq] at hck
  obtain ⟨hdg, rfl⟩ := hck
  simp only [am_stp] at hr
  split at hr
  · exact lv_isub C.1 C.2.1 hdg (G _ _ _ _ _ _ _ hr hR hL hnd hlo hce hsl)
  · cases hr
theorem sw_imul {k : am_C → Option (am_O × am_H)} {kc : Nat → List Value → am_C → Option (am_O × am_H)} {kr : am_O → am_H → Option (am_O × am_H)} {len x y z w : Nat} {v : Value} {pc : Nat} {lv st : List Value} {h : am_H} {H : Heap} {locs : List Loc} {ls : Array Slot} (C : so_Cx p R s m args meth c D cA H0 b L xs μ) (G : so_G p l e R s m args below meth c D cA H0 b L xs μ h0 r k) (hR : so_Rp D cA H0 b L xs h H) (hL : so_L H0.size b ls μ.2.2.1 lv) (hnd : so_nd lv) (hlo : ∀ q ∈ locs, H0.size ≤ q.base) (hce : am_ce h0 ≤ am_ce h) (hsl : am_sl h0 ≤ am_sl h) (hck : so_ck μ pc (.imul, len, x, y, z, w, v) = true) (hr : am_stp k kc kr none (.imul, len, x, y, z, w, v) (pc, lv, st, h) = some r) : W p l e R s m args below meth c H locs (am_ce h - am_ce h0) (am_sl h - am_sl h0) (so_Z D cA H0 b L xs below s h0 r) (F0 m pc ls (st.map (so_cv H0.size b))) := by
  have hck : (decide (decode μ.2.1 pc = .ok (.imul, len)) && (decide (len = 1))) = true := hck
  simp only [Bool.and_eq_true, decide_eq_true_eq] at hck
  obtain ⟨hdg, rfl⟩ := hck
  simp only [am_stp] at hr
  split at hr
  · exact lv_imul C.1 C.2.1 hdg (G _ _ _ _ _ _ _ hr hR hL hnd hlo hce hsl)
  · cases hr
theorem sw_iand {k : am_C → Option (am_O × am_H)} {kc : Nat → List Value → am_C → Option (am_O × am_H)} {kr : am_O → am_H → Option (am_O × am_H)} {len x y z w : Nat} {v : Value} {pc : Nat} {lv st : List Value} {h : am_H} {H : Heap} {locs : List Loc} {ls : Array Slot} (C : so_Cx p R s m args meth c D cA H0 b L xs μ) (G : so_G p l e R s m args below meth c D cA H0 b L xs μ h0 r k) (hR : so_Rp D cA H0 b L xs h H) (hL : so_L H0.size b ls μ.2.2.1 lv) (hnd : so_nd lv) (hlo : ∀ q ∈ locs, H0.size ≤ q.base) (hce : am_ce h0 ≤ am_ce h) (hsl : am_sl h0 ≤ am_sl h) (hck : so_ck μ pc (.iand, len, x, y, z, w, v) = true) (hr : am_stp k kc kr none (.iand, len, x, y, z, w, v) (pc, lv, st, h) = some r) : W p l e R s m args below meth c H locs (am_ce h - am_ce h0) (am_sl h - am_sl h0) (so_Z D cA H0 b L xs below s h0 r) (F0 m pc ls (st.map (so_cv H0.size b))) := by
  have hck : (decide (decode μ.2.1 pc = .ok (.iand, len)) && (decide (len = 1))) = true := hck
  simp only [Bool.and_eq_true, decide_eq_true_eq] at hck
  obtain ⟨hdg, rfl⟩ := hck
  simp only [am_stp] at hr
  split at hr
  · exact lv_iand C.1 C.2.1 hdg (G _ _ _ _ _ _ _ hr hR hL hnd hlo hce hsl)
  · cases hr
theorem sw_ior {k : am_C → Option (am_O × am_H)} {kc : Nat → List Value → am_C → Option (am_O × am_H)} {kr : am_O → am_H → Option (am_O × am_H)} {len x y z w : Nat} {v : Value} {pc : Nat} {lv st : List Value} {h : am_H} {H : Heap} {locs : List Loc} {ls : Array Slot} (C : so_Cx p R s m args meth c D cA H0 b L xs μ) (G : so_G p l e R s m args below meth c D cA H0 b L xs μ h0 r k) (hR : so_Rp D cA H0 b L xs h H) (hL : so_L H0.size b ls μ.2.2.1 lv) (hnd : so_nd lv) (hlo : ∀ q ∈ locs, H0.size ≤ q.base) (hce : am_ce h0 ≤ am_ce h) (hsl : am_sl h0 ≤ am_sl h) (hck : so_ck μ pc (.ior, len, x, y, z, w, v) = true) (hr : am_stp k kc kr none (.ior, len, x, y, z, w, v) (pc, lv, st, h) = some r) : W p l e R s m args below meth c H locs (am_ce h - am_ce h0) (am_sl h - am_sl h0) (so_Z D cA H0 b L xs below s h0 r) (F0 m pc ls (st.map (so_cv H0.size b))) := by
  have hck : (decide (decode μ.2.1 pc = .ok (.ior, len)) && (decide (len = 1))) = true := hck
  simp only [Bool.and_eq_true, decide_eq_true_eq] at hck
  obtain ⟨hdg, rfl⟩ := hck
  simp only [am_stp] at hr
  split at hr
  · exact lv_ior C.1 C.2.1 hdg (G _ _ _ _ _ _ _ hr hR hL hnd hlo hce hsl)
  · cases hr
theorem sw_ixor {k : am_C → Option (am_O × am_H)} {kc : Nat → List Value → am_C → Option (am_O × am_H)} {kr : am_O → am_H → Option (am_O × am_H)} {len x y z w : Nat} {v : Value} {pc : Nat} {lv st : List Value} {h : am_H} {H : Heap} {locs : List Loc} {ls : Array Slot} (C : so_Cx p R s m args meth c D cA H0 b L xs μ) (G : so_G p l e R s m args below meth c D cA H0 b L xs μ h0 r k) (hR : so_Rp D cA H0 b L xs h H) (hL : so_L H0.size b ls μ.2.2.1 lv) (hnd : so_nd lv) (hlo : ∀ q ∈ locs, H0.size ≤ q.base) (hce : am_ce h0 ≤ am_ce h) (hsl : am_sl h0 ≤ am_sl h) (hck : so_ck μ pc (.ixor, len, x, y, z, w, v) = true) (hr : am_stp k kc kr none (.ixor, len, x, y, z, w, v) (pc, lv, st, h) = some r) : W p l e R s m args below meth c H locs (am_ce h - am_ce h0) (am_sl h - am_sl h0) (so_Z D cA H0 b L xs below s h0 r) (F0 m pc ls (st.map (so_cv H0.size b))) := by
  have hck : (decide (decode μ.2.1 pc = .ok (.ixor, len)) && (decide (len = 1))) = true := hck
  simp only [Bool.and_eq_true, decide_eq_true_eq] at hck
  obtain ⟨hdg, rfl⟩ := hck
  simp only [am_stp] at hr
  split at hr
  · exact lv_ixor C.1 C.2.1 hdg (G _ _ _ _ _ _ _ hr hR hL hnd hlo hce hsl)
  · cases hr
theorem sw_ishl {k : am_C → Option (am_O × am_H)} {kc : Nat → List Value → am_C → Option (am_O × am_H)} {kr : am_O → am_H → Option (am_O × am_H)} {len x y z w : Nat} {v : Value} {pc : Nat} {lv st : List Value} {h : am_H} {H : Heap} {locs : List Loc} {ls : Array Slot} (C : so_Cx p R s m args meth c D cA H0 b L xs μ) (G : so_G p l e R s m args below meth c D cA H0 b L xs μ h0 r k) (hR : so_Rp D cA H0 b L xs h H) (hL : so_L H0.size b ls μ.2.2.1 lv) (hnd : so_nd lv) (hlo : ∀ q ∈ locs, H0.size ≤ q.base) (hce : am_ce h0 ≤ am_ce h) (hsl : am_sl h0 ≤ am_sl h) (hck : so_ck μ pc (.ishl, len, x, y, z, w, v) = true) (hr : am_stp k kc kr none (.ishl, len, x, y, z, w, v) (pc, lv, st, h) = some r) : W p l e R s m args below meth c H locs (am_ce h - am_ce h0) (am_sl h - am_sl h0) (so_Z D cA H0 b L xs below s h0 r) (F0 m pc ls (st.map (so_cv H0.size b))) := by
  have hck : (decide (decode μ.2.1 pc = .ok (.ishl, len)) && (decide (len = 1))) = true := hck
  simp only [Bool.and_eq_true, decide_eq_true_eq] at hck
  obtain ⟨hdg, rfl⟩ := hck
  simp only [am_stp] at hr
  split at hr
  · exact lv_ishl C.1 C.2.1 hdg (G _ _ _ _ _ _ _ hr hR hL hnd hlo hce hsl)
  · cases hr
theorem sw_ishr {k : am_C → Option (am_O × am_H)} {kc : Nat → List Value → am_C → Option (am_O × am_H)} {kr : am_O → am_H → Option (am_O × am_H)} {len x y z w : Nat} {v : Value} {pc : Nat} {lv st : List Value} {h : am_H} {H : Heap} {locs : List Loc} {ls : Array Slot} (C : so_Cx p R s m args meth c D cA H0 b L xs μ) (G : so_G p l e R s m args below meth c D cA H0 b L xs μ h0 r k) (hR : so_Rp D cA H0 b L xs h H) (hL : so_L H0.size b ls μ.2.2.1 lv) (hnd : so_nd lv) (hlo : ∀ q ∈ locs, H0.size ≤ q.base) (hce : am_ce h0 ≤ am_ce h) (hsl : am_sl h0 ≤ am_sl h) (hck : so_ck μ pc (.ishr, len, x, y, z, w, v) = true) (hr : am_stp k kc kr none (.ishr, len, x, y, z, w, v) (pc, lv, st, h) = some r) : W p l e R s m args below meth c H locs (am_ce h - am_ce h0) (am_sl h - am_sl h0) (so_Z D cA H0 b L xs below s h0 r) (F0 m pc ls (st.map (so_cv H0.size b))) := by
  have hck : (decide (decode μ.2.1 pc = .ok (.ishr, len)) && (decide (len = 1))) = true := hck
  simp only [Bool.and_eq_true, decide_eq_true_eq] at hck
  obtain ⟨hdg, rfl⟩ := hck
  simp only [am_stp] at hr
  split at hr
  · exact lv_ishr C.1 C.2.1 hdg (G _ _ _ _ _ _ _ hr hR hL hnd hlo hce hsl)
  · cases hr
theorem sw_ladd {k : am_C → Option (am_O × am_H)} {kc : Nat → List Value → am_C → Option (am_O × am_H)} {kr : am_O → am_H → Option (am_O × am_H)} {len x y z w : Nat} {v : Value} {pc : Nat} {lv st : List Value} {h : am_H} {H : Heap} {locs : List Loc} {ls : Array Slot} (C : so_Cx p R s m args meth c D cA H0 b L xs μ) (G : so_G p l e R s m args below meth c D cA H0 b L xs μ h0 r k) (hR : so_Rp D cA H0 b L xs h H) (hL : so_L H0.size b ls μ.2.2.1 lv) (hnd : so_nd lv) (hlo : ∀ q ∈ locs, H0.size ≤ q.base) (hce : am_ce h0 ≤ am_ce h) (hsl : am_sl h0 ≤ am_sl h) (hck : so_ck μ pc (.ladd, len, x, y, z, w, v) = true) (hr : am_stp k kc kr none (.ladd, len, x, y, z, w, v) (pc, lv, st, h) = some r) : W p l e R s m args below meth c H locs (am_ce h - am_ce h0) (am_sl h - am_sl h0) (so_Z D cA H0 b L xs below s h0 r) (F0 m pc ls (st.map (so_cv H0.size b))) := by
  have hck : (decide (decode μ.2.1 pc = .ok (.ladd, len)) && (decide (len = 1))) = true := hck
  simp only [Bool.and_eq_true, decide_eq_true_eq] at hck
  obtain ⟨hdg, rfl⟩ := hck
  simp only [am_stp] at hr
  split at hr
  · exact lv_ladd C.1 C.2.1 hdg (G _ _ _ _ _ _ _ hr hR hL hnd hlo hce hsl)
  · cases hr
theorem sw_lsub {k : am_C → Option (am_O × am_H)} {kc : Nat → List Value → am_C → Option (am_O × am_H)} {kr : am_O → am_H → Option (am_O × am_H)} {len x y z w : Nat} {v : Value} {pc : Nat} {lv st : List Value} {h : am_H} {H : Heap} {locs : List Loc} {ls : Array Slot} (C : so_Cx p R s m args meth c D cA H0 b L xs μ) (G : so_G p l e R s m args below meth c D cA H0 b L xs μ h0 r k) (hR : so_Rp D cA H0 b L xs h H) (hL : so_L H0.size b ls μ.2.2.1 lv) (hnd : so_nd lv) (hlo : ∀ q ∈ locs, H0.size ≤ q.base) (hce : am_ce h0 ≤ am_ce h) (hsl : am_sl h0 ≤ am_sl h) (hck : so_ck μ pc (.lsub, len, x, y, z, w, v) = true) (hr : am_stp k kc kr none (.lsub, len, x, y, z, w, v) (pc, lv, st, h) = some r) : W p l e R s m args below meth c H locs (am_ce h - am_ce h0) (am_sl h - am_sl h0) (so_Z D cA H0 b L xs below s h0 r) (F0 m pc ls (st.map (so_cv H0.size b))) := by
  have hck : (decide (decode μ.2.1 pc = .ok (.lsub, len)) && (decide (len = 1))) = true := hck
  simp only [Bool.and_eq_true, decide_eq_true_eq] at hck
  obtain ⟨hdg, rfl⟩ := hck
  simp only [am_stp] at hr
  split at hr
  · exact lv_lsub C.1 C.2.1 hdg (G _ _ _ _ _ _ _ hr hR hL hnd hlo hce hsl)
  · cases hr
theorem sw_lmul {k : am_C → Option (am_O × am_H)} {kc : Nat → List Value → am_C → Option (am_O × am_H)} {kr : am_O → am_H → Option (am_O × am_H)} {len x y z w : Nat} {v : Value} {pc : Nat} {lv st : List Value} {h : am_H} {H : Heap} {locs : List Loc} {ls : Array Slot} (C : so_Cx p R s m args meth c D cA H0 b L xs μ) (G : so_G p l e R s m args below meth c D cA H0 b L xs μ h0 r k) (hR : so_Rp D cA H0 b L xs h H) (hL : so_L H0.size b ls μ.2.2.1 lv) (hnd : so_nd lv) (hlo : ∀ q ∈ locs, H0.size ≤ q.base) (hce : am_ce h0 ≤ am_ce h) (hsl : am_sl h0 ≤ am_sl h) (hck : so_ck μ pc (.lmul, len, x, y, z, w, v) = true) (hr : am_stp k kc kr none (.lmul, len, x, y, z, w, v) (pc, lv, st, h) = some r) : W p l e R s m args below meth c H locs (am_ce h - am_ce h0) (am_sl h - am_sl h0) (so_Z D cA H0 b L xs below s h0 r) (F0 m pc ls (st.map (so_cv H0.size b))) := by
  have hck : (decide (decode μ.2.1 pc = .ok (.lmul, len)) && (decide (len = 1))) = true := hck
  simp only [Bool.and_eq_true, decide_eq_true_eq] at hck
  obtain ⟨hdg, rfl⟩ := hck
  simp only [am_stp] at hr
  split at hr
  · exact lv_lmul C.1 C.2.1 hdg (G _ _ _ _ _ _ _ hr hR hL hnd hlo hce hsl)
  · cases hr
theorem sw_land {k : am_C → Option (am_O × am_H)} {kc : Nat → List Value → am_C → Option (am_O × am_H)} {kr : am_O → am_H → Option (am_O × am_H)} {len x y z w : Nat} {v : Value} {pc : Nat} {lv st : List Value} {h : am_H} {H : Heap} {locs : List Loc} {ls : Array Slot} (C : so_Cx p R s m args meth c D cA H0 b L xs μ) (G : so_G p l e R s m args below meth c D cA H0 b L xs μ h0 r k) (hR : so_Rp D cA H0 b L xs h H) (hL : so_L H0.size b ls μ.2.2.1 lv) (hnd : so_nd lv) (hlo : ∀ q ∈ locs, H0.size ≤ q.base) (hce : am_ce h0 ≤ am_ce h) (hsl : am_sl h0 ≤ am_sl h) (hck : so_ck μ pc (.land, len, x, y, z, w, v) = true) (hr : am_stp k kc kr none (.land, len, x, y, z, w, v) (pc, lv, st, h) = some r) : W p l e R s m args below meth c H locs (am_ce h - am_ce h0) (am_sl h - am_sl h0) (so_Z D cA H0 b L xs below s h0 r) (F0 m pc ls (st.map (so_cv H0.size b))) := by
  have hck : (decide (decode μ.2.1 pc = .ok (.land, len)) && (decide (len = 1))) = true := hck
  simp only [Bool.and_eq_true, decide_eq_true_eq] at hck
  obtain ⟨hdg, rfl⟩ := hck
  simp only [am_stp] at hr
  split at hr
  · exact lv_land C.1 C.2.1 hdg (G _ _ _ _ _ _ _ hr hR hL hnd hlo hce hsl)
  · cases hr
theorem sw_lor {k : am_C → Option (am_O × am_H)} {kc : Nat → List Value → am_C → Option (am_O × am_H)} {kr : am_O → am_H → Option (am_O × am_H)} {len x y z w : Nat} {v : Value} {pc : Nat} {lv st : List Value} {h : am_H} {H : Heap} {locs : List Loc} {ls : Array Slot} (C : so_Cx p R s m args meth c D cA H0 b L xs μ) (G : so_G p l e R s m args below meth c D cA H0 b L xs μ h0 r k) (hR : so_Rp D cA H0 b L xs h H) (hL : so_L H0.size b ls μ.2.2.1 lv) (hnd : so_nd lv) (hlo : ∀ q ∈ locs, H0.size ≤ q.base) (hce : am_ce h0 ≤ am_ce h) (hsl : am_sl h0 ≤ am_sl h) (hck : so_ck μ pc (.lor, len, x, y, z, w, v) = true) (hr : am_stp k kc kr none (.lor, len, x, y, z, w, v) (pc, lv, st, h) = some r) : W p l e R s m args below meth c H locs (am_ce h - am_ce h0) (am_sl h - am_sl h0) (so_Z D cA H0 b L xs below s h0 r) (F0 m pc ls (st.map (so_cv H0.size b))) := by
  have hck : (decide (decode μ.2.1 pc = .ok (.lor, len)) && (decide (len = 1))) = true := hck
  simp only [Bool.and_eq_true, decide_eq_true_eq] at hck
  obtain ⟨hdg, rfl⟩ := hck
  simp only [am_stp] at hr
  split at hr
  · exact lv_lor C.1 C.2.1 hdg (G _ _ _ _ _ _ _ hr hR hL hnd hlo hce hsl)
  · cases hr
theorem sw_lxor {k : am_C → Option (am_O × am_H)} {kc : Nat → List Value → am_C → Option (am_O × am_H)} {kr : am_O → am_H → Option (am_O × am_H)} {len x y z w : Nat} {v : Value} {pc : Nat} {lv st : List Value} {h : am_H} {H : Heap} {locs : List Loc} {ls : Array Slot} (C : so_Cx p R s m args meth c D cA H0 b L xs μ) (G : so_G p l e R s m args below meth c D cA H0 b L xs μ h0 r k) (hR : so_Rp D cA H0 b L xs h H) (hL : so_L H0.size b ls μ.2.2.1 lv) (hnd : so_nd lv) (hlo : ∀ q ∈ locs, H0.size ≤ q.base) (hce : am_ce h0 ≤ am_ce h) (hsl : am_sl h0 ≤ am_sl h) (hck : so_ck μ pc (.lxor, len, x, y, z, w, v) = true) (hr : am_stp k kc kr none (.lxor, len, x, y, z, w, v) (pc, lv, st, h) = some r) : W p l e R s m args below meth c H locs (am_ce h - am_ce h0) (am_sl h - am_sl h0) (so_Z D cA H0 b L xs below s h0 r) (F0 m pc ls (st.map (so_cv H0.size b))) := by
  have hck : (decide (decode μ.2.1 pc = .ok (.lxor, len)) && (decide (len = 1))) = true := hck
  simp only [Bool.and_eq_true, decide_eq_true_eq] at hck
  obtain ⟨hdg, rfl⟩ := hck
  simp only [am_stp] at hr
  split at hr
  · exact lv_lxor C.1 C.2.1 hdg (G _ _ _ _ _ _ _ hr hR hL hnd hlo hce hsl)
  · cases hr
theorem sw_lneg {k : am_C → Option (am_O × am_H)} {kc : Nat → List Value → am_C → Option (am_O × am_H)} {kr : am_O → am_H → Option (am_O × am_H)} {len x y z w : Nat} {v : Value} {pc : Nat} {lv st : List Value} {h : am_H} {H : Heap} {locs : List Loc} {ls : Array Slot} (C : so_Cx p R s m args meth c D cA H0 b L xs μ) (G : so_G p l e R s m args below meth c D cA H0 b L xs μ h0 r k) (hR : so_Rp D cA H0 b L xs h H) (hL : so_L H0.size b ls μ.2.2.1 lv) (hnd : so_nd lv) (hlo : ∀ q ∈ locs, H0.size ≤ q.base) (hce : am_ce h0 ≤ am_ce h) (hsl : am_sl h0 ≤ am_sl h) (hck : so_ck μ pc (.lneg, len, x, y, z, w, v) = true) (hr : am_stp k kc kr none (.lneg, len, x, y, z, w, v) (pc, lv, st, h) = some r) : W p l e R s m args below meth c H locs (am_ce h - am_ce h0) (am_sl h - am_sl h0) (so_Z D cA H0 b L xs below s h0 r) (F0 m pc ls (st.map (so_cv H0.size b))) := by
  have hck : (decide (decode μ.2.1 pc = .ok (.lneg, len)) && (decide (len = 1))) = true := hck
  simp only [Bool.and_eq_true, decide_eq_true_eq] at hck
  obtain ⟨hdg, rfl⟩ := hck
  simp only [am_stp] at hr
  split at hr
  · exact lv_lneg C.1 C.2.1 hdg (G _ _ _ _ _ _ _ hr hR hL hnd hlo hce hsl)
  · cases hr
theorem sw_iushr {k : am_C → Option (am_O × am_H)} {kc : Nat → List Value → am_C → Option (am_O × am_H)} {kr : am_O → am_H → Option (am_O × am_H)} {len x y z w : Nat} {v : Value} {pc : Nat} {lv st : List Value} {h : am_H} {H : Heap} {locs : List Loc} {ls : Array Slot} (C : so_Cx p R s m args meth c D cA H0 b L xs μ) (G : so_G p l e R s m args below meth c D cA H0 b L xs μ h0 r k) (hR : so_Rp D cA H0 b L xs h H) (hL : so_L H0.size b ls μ.2.2.1 lv) (hnd : so_nd lv) (hlo : ∀ q ∈ locs, H0.size ≤ q.base) (hce : am_ce h0 ≤ am_ce h) (hsl : am_sl h0 ≤ am_sl h) (hck : so_ck μ pc (.iushr, len, x, y, z, w, v) = true) (hr : am_stp k kc kr none (.iushr, len, x, y, z, w, v) (pc, lv, st, h) = some r) : W p l e R s m args below meth c H locs (am_ce h - am_ce h0) (am_sl h - am_sl h0) (so_Z D cA H0 b L xs below s h0 r) (F0 m pc ls (st.map (so_cv H0.size b))) := by
  have hck : (decide (decode μ.2.1 pc = .ok (.iushr, len)) && (decide (len = 1))) = true := hck
  simp only [Bool.and_eq_true, decide_eq_true_eq] at hck
  obtain ⟨hdg, rfl⟩ := hck
  simp only [am_stp] at hr
  split at hr
  · exact lv_iushr C.1 C.2.1 hdg rfl (G _ _ _ _ _ _ _ hr hR hL hnd hlo hce hsl)
  · cases hr
theorem sw_lushr {k : am_C → Option (am_O × am_H)} {kc : Nat → List Value → am_C → Option (am_O × am_H)} {kr : am_O → am_H → Option (am_O × am_H)} {len x y z w : Nat} {v : Value} {pc : Nat} {lv st : List Value} {h : am_H} {H : Heap} {locs : List Loc} {ls : Array Slot} (C : so_Cx p R s m args meth c D cA H0 b L xs μ) (G : so_G p l e R s m args below meth c D cA H0 b L xs μ h0 r k) (hR : so_Rp D cA H0 b L xs h H) (hL : so_L H0.size b ls μ.2.2.1 lv) (hnd : so_nd lv) (hlo : ∀ q ∈ locs, H0.size ≤ q.base) (hce : am_ce h0 ≤ am_ce h) (hsl : am_sl h0 ≤ am_sl h) (hck : so_ck μ pc (.lushr, len, x, y, z, w, v) = true) (hr : am_stp k kc kr none (.lushr, len, x, y, z, w, v) (pc, lv, st, h) = some r) : W p l e R s m args below meth c H locs (am_ce h - am_ce h0) (am_sl h - am_sl h0) (so_Z D cA H0 b L xs below s h0 r) (F0 m pc ls (st.map (so_cv H0.size b))) := by
  have hck : (decide (decode μ.2.1 pc = .ok (.lushr, len)) && (decide (len = 1))) = true := hck
  simp only [Bool.and_eq_true, decide_eq_true_eq] at hck
  obtain ⟨hdg, rfl⟩ := hck
  simp only [am_stp] at hr
  split at hr
  · exact lv_lushr C.1 C.2.1 hdg rfl (G _ _ _ _ _ _ _ hr hR hL hnd hlo hce hsl)
  · cases hr
theorem sw_lshl {k : am_C → Option (am_O × am_H)} {kc : Nat → List Value → am_C → Option (am_O × am_H)} {kr : am_O → am_H → Option (am_O × am_H)} {len x y z w : Nat} {v : Value} {pc : Nat} {lv st : List Value} {h : am_H} {H : Heap} {locs : List Loc} {ls : Array Slot} (C : so_Cx p R s m args meth c D cA H0 b L xs μ) (G : so_G p l e R s m args below meth c D cA H0 b L xs μ h0 r k) (hR : so_Rp D cA H0 b L xs h H) (hL : so_L H0.size b ls μ.2.2.1 lv) (hnd : so_nd lv) (hlo : ∀ q ∈ locs, H0.size ≤ q.base) (hce : am_ce h0 ≤ am_ce h) (hsl : am_sl h0 ≤ am_sl h) (hck : so_ck μ pc (.lshl, len, x, y, z, w, v) = true) (hr : am_stp k kc kr none (.lshl, len, x, y, z, w, v) (pc, lv, st, h) = some r) : W p l e R s m args below meth c H locs (am_ce h - am_ce h0) (am_sl h - am_sl h0) (so_Z D cA H0 b L xs below s h0 r) (F0 m pc ls (st.map (so_cv H0.size b))) := by
  have hck : (decide (decode μ.2.1 pc = .ok (.lshl, len)) && (decide (len = 1))) = true := hck
  simp only [Bool.and_eq_true, decide_eq_true_eq] at hck
  obtain ⟨hdg, rfl⟩ := hck
  simp only [am_stp] at hr
  split at hr
  · exact lv_lshl C.1 C.2.1 hdg rfl (G _ _ _ _ _ _ _ hr hR hL hnd hlo hce hsl)
  · cases hr
theorem sw_i2l {k : am_C → Option (am_O × am_H)} {kc : Nat → List Value → am_C → Option (am_O × am_H)} {kr : am_O → am_H → Option (am_O × am_H)} {len x y z w : Nat} {v : Value} {pc : Nat} {lv st : List Value} {h : am_H} {H : Heap} {locs : List Loc} {ls : Array Slot} (C : so_Cx p R s m args meth c D cA H0 b L xs μ) (G : so_G p l e R s m args below meth c D cA H0 b L xs μ h0 r k) (hR : so_Rp D cA H0 b L xs h H) (hL : so_L H0.size b ls μ.2.2.1 lv) (hnd : so_nd lv) (hlo : ∀ q ∈ locs, H0.size ≤ q.base) (hce : am_ce h0 ≤ am_ce h) (hsl : am_sl h0 ≤ am_sl h) (hck : so_ck μ pc (.i2l, len, x, y, z, w, v) = true) (hr : am_stp k kc kr none (.i2l, len, x, y, z, w, v) (pc, lv, st, h) = some r) : W p l e R s m args below meth c H locs (am_ce h - am_ce h0) (am_sl h - am_sl h0) (so_Z D cA H0 b L xs below s h0 r) (F0 m pc ls (st.map (so_cv H0.size b))) := by
  have hck : (decide (decode μ.2.1 pc = .ok (.i2l, len)) && (decide (len = 1))) = true := hck
  simp only [Bool.and_eq_true, decide_eq_true_eq] at hck
  obtain ⟨hdg, rfl⟩ := hck
  simp only [am_stp] at hr
  split at hr
  · exact lv_i2l C.1 C.2.1 hdg rfl (G _ _ _ _ _ _ _ hr hR hL hnd hlo hce hsl)
  · cases hr
theorem sw_l2i {k : am_C → Option (am_O × am_H)} {kc : Nat → List Value → am_C → Option (am_O × am_H)} {kr : am_O → am_H → Option (am_O × am_H)} {len x y z w : Nat} {v : Value} {pc : Nat} {lv st : List Value} {h : am_H} {H : Heap} {locs : List Loc} {ls : Array Slot} (C : so_Cx p R s m args meth c D cA H0 b L xs μ) (G : so_G p l e R s m args below meth c D cA H0 b L xs μ h0 r k) (hR : so_Rp D cA H0 b L xs h H) (hL : so_L H0.size b ls μ.2.2.1 lv) (hnd : so_nd lv) (hlo : ∀ q ∈ locs, H0.size ≤ q.base) (hce : am_ce h0 ≤ am_ce h) (hsl : am_sl h0 ≤ am_sl h) (hck : so_ck μ pc (.l2i, len, x, y, z, w, v) = true) (hr : am_stp k kc kr none (.l2i, len, x, y, z, w, v) (pc, lv, st, h) = some r) : W p l e R s m args below meth c H locs (am_ce h - am_ce h0) (am_sl h - am_sl h0) (so_Z D cA H0 b L xs below s h0 r) (F0 m pc ls (st.map (so_cv H0.size b))) := by
  have hck : (decide (decode μ.2.1 pc = .ok (.l2i, len)) && (decide (len = 1))) = true := hck
  simp only [Bool.and_eq_true, decide_eq_true_eq] at hck
  obtain ⟨hdg, rfl⟩ := hck
  simp only [am_stp] at hr
  split at hr
  · exact lv_l2i C.1 C.2.1 hdg rfl (G _ _ _ _ _ _ _ hr hR hL hnd hlo hce hsl)
  · cases hr
theorem sw_i2b {k : am_C → Option (am_O × am_H)} {kc : Nat → List Value → am_C → Option (am_O × am_H)} {kr : am_O → am_H → Option (am_O × am_H)} {len x y z w : Nat} {v : Value} {pc : Nat} {lv st : List Value} {h : am_H} {H : Heap} {locs : List Loc} {ls : Array Slot} (C : so_Cx p R s m args meth c D cA H0 b L xs μ) (G : so_G p l e R s m args below meth c D cA H0 b L xs μ h0 r k) (hR : so_Rp D cA H0 b L xs h H) (hL : so_L H0.size b ls μ.2.2.1 lv) (hnd : so_nd lv) (hlo : ∀ q ∈ locs, H0.size ≤ q.base) (hce : am_ce h0 ≤ am_ce h) (hsl : am_sl h0 ≤ am_sl h) (hck : so_ck μ pc (.i2b, len, x, y, z, w, v) = true) (hr : am_stp k kc kr none (.i2b, len, x, y, z, w, v) (pc, lv, st, h) = some r) : W p l e R s m args below meth c H locs (am_ce h - am_ce h0) (am_sl h - am_sl h0) (so_Z D cA H0 b L xs below s h0 r) (F0 m pc ls (st.map (so_cv H0.size b))) := by
  have hck : (decide (decode μ.2.1 pc = .ok (.i2b, len)) && (decide (len = 1))) = true := hck
  simp only [Bool.and_eq_true, decide_eq_true_eq] at hck
  obtain ⟨hdg, rfl⟩ := hck
  simp only [am_stp] at hr
  split at hr
  · exact lv_i2b C.1 C.2.1 hdg rfl (G _ _ _ _ _ _ _ hr hR hL hnd hlo hce hsl)
  · cases hr
theorem sw_lcmp {k : am_C → Option (am_O × am_H)} {kc : Nat → List Value → am_C → Option (am_O × am_H)} {kr : am_O → am_H → Option (am_O × am_H)} {len x y z w : Nat} {v : Value} {pc : Nat} {lv st : List Value} {h : am_H} {H : Heap} {locs : List Loc} {ls : Array Slot} (C : so_Cx p R s m args meth c D cA H0 b L xs μ) (G : so_G p l e R s m args below meth c D cA H0 b L xs μ h0 r k) (hR : so_Rp D cA H0 b L xs h H) (hL : so_L H0.size b ls μ.2.2.1 lv) (hnd : so_nd lv) (hlo : ∀ q ∈ locs, H0.size ≤ q.base) (hce : am_ce h0 ≤ am_ce h) (hsl : am_sl h0 ≤ am_sl h) (hck : so_ck μ pc (.lcmp, len, x, y, z, w, v) = true) (hr : am_stp k kc kr none (.lcmp, len, x, y, z, w, v) (pc, lv, st, h) = some r) : W p l e R s m args below meth c H locs (am_ce h - am_ce h0) (am_sl h - am_sl h0) (so_Z D cA H0 b L xs below s h0 r) (F0 m pc ls (st.map (so_cv H0.size b))) := by
  have hck : (decide (decode μ.2.1 pc = .ok (.lcmp, len)) && (decide (len = 1))) = true := hck
  simp only [Bool.and_eq_true, decide_eq_true_eq] at hck
  obtain ⟨hdg, rfl⟩ := hck
  simp only [am_stp] at hr
  split at hr
  · rename_i b' a' st'
    refine W.lcmp C.1 C.2.1 hdg ?_
    have hc : lg_cmp a' b' = if a' < b' then -1 else if a' = b' then 0 else 1 := so_cmp a' b'
    rw [hc]
    exact G _ _ _ _ _ _ _ hr hR hL hnd hlo hce hsl
  · cases hr
theorem sw_idiv {k : am_C → Option (am_O × am_H)} {kc : Nat → List Value → am_C → Option (am_O × am_H)} {kr : am_O → am_H → Option (am_O × am_H)} {len x y z w : Nat} {v : Value} {pc : Nat} {lv st : List Value} {h : am_H} {H : Heap} {locs : List Loc} {ls : Array Slot} (C : so_Cx p R s m args meth c D cA H0 b L xs μ) (G : so_G p l e R s m args below meth c D cA H0 b L xs μ h0 r k) (hR : so_Rp D cA H0 b L xs h H) (hL : so_L H0.size b ls μ.2.2.1 lv) (hnd : so_nd lv) (hlo : ∀ q ∈ locs, H0.size ≤ q.base) (hce : am_ce h0 ≤ am_ce h) (hsl : am_sl h0 ≤ am_sl h) (hck : so_ck μ pc (.idiv, len, x, y, z, w, v) = true) (hr : am_stp k kc kr none (.idiv, len, x, y, z, w, v) (pc, lv, st, h) = some r) : W p l e R s m args below meth c H locs (am_ce h - am_ce h0) (am_sl h - am_sl h0) (so_Z D cA H0 b L xs below s h0 r) (F0 m pc ls (st.map (so_cv H0.size b))) := by
  have hck : (decide (decode μ.2.1 pc = .ok (.idiv, len)) && (decide (len = 1))) = true := hck
  simp only [Bool.and_eq_true, decide_eq_true_eq] at hck
  obtain ⟨hdg, rfl⟩ := hck
  simp only [am_stp] at hr
  split at hr
  · split at hr
    · cases hr
    · rename_i hz
      exact lv_idiv C.1 C.2.1 hdg hz (G _ _ _ _ _ _ _ hr hR hL hnd hlo hce hsl)
  · cases hr
theorem sw_irem {k : am_C → Option (am_O × am_H)} {kc : Nat → List Value → am_C → Option (am_O × am_H)} {kr : am_O → am_H → Option (am_O × am_H)} {len x y z w : Nat} {v : Value} {pc : Nat} {lv st : List Value} {h : am_H} {H : Heap} {locs : List Loc} {ls : Array Slot} (C : so_Cx p R s m args meth c D cA H0 b L xs μ) (G : so_G p l e R s m args below meth c D cA H0 b L xs μ h0 r k) (hR : so_Rp D cA H0 b L xs h H) (hL : so_L H0.size b ls μ.2.2.1 lv) (hnd : so_nd lv) (hlo : ∀ q ∈ locs, H0.size ≤ q.base) (hce : am_ce h0 ≤ am_ce h) (hsl : am_sl h0 ≤ am_sl h) (hck : so_ck μ pc (.irem, len, x, y, z, w, v) = true) (hr : am_stp k kc kr none (.irem, len, x, y, z, w, v) (pc, lv, st, h) = some r) : W p l e R s m args below meth c H locs (am_ce h - am_ce h0) (am_sl h - am_sl h0) (so_Z D cA H0 b L xs below s h0 r) (F0 m pc ls (st.map (so_cv H0.size b))) := by
  have hck : (decide (decode μ.2.1 pc = .ok (.irem, len)) && (decide (len = 1))) = true := hck
  simp only [Bool.and_eq_true, decide_eq_true_eq] at hck
  obtain ⟨hdg, rfl⟩ := hck
  simp only [am_stp] at hr
  split at hr
  · split at hr
    · cases hr
    · rename_i hz
      exact lv_irem C.1 C.2.1 hdg hz (G _ _ _ _ _ _ _ hr hR hL hnd hlo hce hsl)
  · cases hr
end SOW
