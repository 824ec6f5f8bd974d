theorem am_tk_spec : ∀ (n : Nat) (acc st as st' : List Value), am_tk n acc st = some (as, st') → ∃ q, st = q ++ st' ∧ as = q.reverse ++ acc ∧ q.length = n
  | 0, acc, st, as, st', h => by
    simp only [am_tk, Option.some.injEq, Prod.mk.injEq] at h
    exact ⟨[], by simp [h.2], by simp [h.1], rfl⟩
  | n + 1, acc, [], as, st', h => by cases h
  | n + 1, acc, v :: st, as, st', h => by
    obtain ⟨q, h1, h2, h3⟩ := am_tk_spec n (v :: acc) st as st' h
    exact ⟨v :: q, by rw [h1]; rfl, by rw [h2]; simp, by simp [h3]⟩
theorem am_tk_nil {n : Nat} {st as st' : List Value} (h : am_tk n [] st = some (as, st')) : st = as.reverse ++ st' ∧ as.length = n := by
  obtain ⟨q, h1, h2, h3⟩ := am_tk_spec n [] st as st' h
  rw [List.append_nil] at h2
  subst h2
  exact ⟨by rw [h1]; simp, by simpa using h3⟩
section SOI
variable {p : Program} {l : Launch} {e : Env} {R : Room} {s : State} {m : MethodId} {args : Array Value} {below : List Frame} {meth : Method} {c : Code}
variable {D : va_G} {cA : Nat → ClassId} {H0 : Heap} {b L : Nat} {xs : Nat → Int32} {μ : so_I} {h0 : am_H} {r : am_O × am_H}
/-- the instruction comes to the call of method x -/
def so_Lk (p : Program) (l : Launch) (e : Env) (R : Room) (s : State) (m : MethodId) (args : Array Value) (below : List Frame) (meth : Method) (c : Code) (B b : Nat) (H : Heap) (locs : List Loc) (cells slots x : Nat) (as st : List Value) (pc : Nat) (ls : Array Slot) : Prop :=
  ∀ T : State, T.heap = H → Stand p l e R s m args below meth c T locs cells slots → ∃ (vm₁ : Vm) (mk : MethodId), Stand p l e R s m args below meth c (T.setVm vm₁) locs cells slots ∧ s.methodNamed? (nm_mi x).1 = some mk ∧
    ∀ target, (∀ acts, Steps p.tables e below (doInvoke e ((T.setVm vm₁).setTop (F0 m pc ls (st.map (so_cv B b)))) acts mk (as.map (so_cv B b)).toArray).1 target) → Steps p.tables e below (T.setTop (F0 m pc ls ((as.reverse ++ st).map (so_cv B b)))) target
/-- how a throw goes on -/
def so_GT (p : Program) (l : Launch) (e : Env) (R : Room) (s : State) (m : MethodId) (args : Array Value) (below : List Frame) (meth : Method) (c : Code) (D : va_G) (cA : Nat → ClassId) (H0 : Heap) (b L : Nat) (xs : Nat → Int32) (μ : so_I) (h0 : am_H) (r : am_O × am_H) (kt : Nat → List Value → (Nat × Nat) → am_H → Option (am_O × am_H)) : Prop :=
  ∀ (pc : Nat) (lv : List Value) (st : List Value) (q : Nat × Nat) (h : am_H) (T : State) (locs : List Loc) (ls : Array Slot) (o' : Outcome), kt pc lv q h = some r → so_Rp D cA H0 b L xs h T.heap → so_out H0.size b T (.inr q) o' → so_L H0.size b ls μ.2.2.1 lv → so_nd lv → (∀ q ∈ locs, H0.size ≤ q.base) → am_ce h0 ≤ am_ce h → am_sl h0 ≤ am_sl h →
    Stand p l e R s m args below meth c T locs (am_ce h - am_ce h0) (am_sl h - am_sl h0) → ∃ t, Steps p.tables e below ((T.setTop (F0 m pc ls (st.map (so_cv H0.size b)))).pushFrame (.throwing (so_ad H0.size b q.2))) t ∧ so_Z D cA H0 b L xs below s h0 r t
/-- a call, as the run has it -/
theorem so_inv {k : am_C → Option (am_O × am_H)} {kt : Nat → List Value → (Nat × Nat) → am_H → Option (am_O × am_H)} {call : Nat → List Value → am_H → Option (am_O × am_H)} {pc x : Nat} {lv as st : List Value} {h : am_H} {H : Heap} {locs : List Loc} {ls : Array Slot} {ig : Instr}
    (C : so_Cx p R s m args meth c D cA H0 b L xs μ) (G : so_G p l e R s m args below meth c D cA H0 b L xs μ h0 r k) (GT : so_GT p l e R s m args below meth c D cA H0 b L xs μ h0 r kt)
    (hcall : ∀ m' as h o h', m' < nm_n → call m' as h = some (o, h') → so_Met l D cA H0 b L xs m' as h o h' ∧ am_ce h ≤ am_ce h' ∧ am_sl h ≤ am_sl h')
    (hmk : ∀ c, k c = some r → am_ce c.2.2.2 ≤ am_ce r.2 ∧ am_sl c.2.2.2 ≤ am_sl r.2) (hmt : ∀ pc lv q h, kt pc lv q h = some r → am_ce h ≤ am_ce r.2 ∧ am_sl h ≤ am_sl r.2) (hb1 : am_ce r.2 - am_ce h0 ≤ R.cells) (hb2 : am_sl r.2 - am_sl h0 ≤ R.slots)
    (hR : so_Rp D cA H0 b L xs h H) (hL : so_L H0.size b ls μ.2.2.1 lv) (hnd : so_nd lv) (hlo : ∀ q ∈ locs, H0.size ≤ q.base) (hce : am_ce h0 ≤ am_ce h) (hsl : am_sl h0 ≤ am_sl h)
    (hx : so_cke μ x = true) (hwt : am_wt st ≤ 8) (hdg : decode μ.2.1 pc = .ok (ig, 3))
    (hlk : so_Lk p l e R s m args below meth c H0.size b H locs (am_ce h - am_ce h0) (am_sl h - am_sl h0) x as st pc ls)
    (hr : (match call x as h with
      | none => none
      | some (.inl v, h') => k (pc + 3, lv, v.toList ++ st, h')
      | some (.inr q, h') => kt pc lv q h') = some r) :
    W p l e R s m args below meth c H locs (am_ce h - am_ce h0) (am_sl h - am_sl h0) (so_Z D cA H0 b L xs below s h0 r) (F0 m pc ls ((as.reverse ++ st).map (so_cv H0.size b))) := by
  intro T hT X
  obtain ⟨vm₁, mk, X₁, hnk, hsteps⟩ := hlk T hT X
  have hx214 : x < nm_n := by
    unfold so_cke at hx
    simp only [Bool.and_eq_true, decide_eq_true_eq] at hx
    exact hx.1.1
  cases hq : call x as h with
  | none => rw [hq] at hr; cases hr
  | some q =>
    obtain ⟨o, h1⟩ := q
    obtain ⟨hM, hc1, hs1⟩ := hcall _ _ _ _ _ hx214 hq
    rw [hq] at hr
    have hbb : am_ce h1 ≤ am_ce r.2 ∧ am_sl h1 ≤ am_sl r.2 := by
      cases o with
      | inl v => exact hmk _ hr
      | inr q => exact hmt _ _ _ _ hr
    obtain ⟨o', T', Lc, ho, hR', hlo', X', hst⟩ := so_after (ig := ig) C hM hx (so_mc hx214) (so_mz hx214) hR hL.2.1 hlo hce hsl hc1 hs1 (by omega) (by omega) hwt hdg hT X₁ hnk
    cases o with
    | inl v =>
      have ho2 : o' = .returned (v.map (so_cv H0.size b)) := ho
      subst ho2
      obtain ⟨t, t1, t2⟩ := G _ _ _ _ T'.heap (locs ++ Lc) ls hr hR' hL hnd hlo' (by omega) (by omega) T' rfl X'
      refine ⟨t, hsteps t (fun acts => ?_), t2⟩
      rw [doInvoke_state]
      refine hst.trans ?_
      have ev : (v.map (so_cv H0.size b)).toList ++ st.map (so_cv H0.size b) = (v.toList ++ st).map (so_cv H0.size b) := by cases v <;> rfl
      rw [ev]
      exact t1
    | inr q =>
      obtain ⟨ho2, hcell⟩ := id ho
      subst ho2
      obtain ⟨t, t1, t2⟩ := GT pc lv st q h1 T' (locs ++ Lc) ls _ hr hR' ho hL hnd hlo' (by omega) (by omega) X'
      refine ⟨t, hsteps t (fun acts => ?_), t2⟩
      rw [doInvoke_state]
      exact hst.trans t1
/-- static methods -/
theorem so_lkS {pc x i y : Nat} {as st : List Value} {H : Heap} {locs : List Loc} {cells slots : Nat} {ls : Array Slot} (C : so_Cx p R s m args meth c D cA H0 b L xs μ) (hx : x < nm_n) (hl : so_pl (so_on μ) i = some (.methodLink (so_ow μ) i (nm_mi x).1)) (hk : (nm_mw[x]?).map (·.2.1) = some 0) (hn : so_pn (nm_mi x).1.desc = some y) (hy : as.length = y) (hdg : decode μ.2.1 pc = .ok (.invokestatic i, 3)) :
    so_Lk p l e R s m args below meth c H0.size b H locs cells slots x as st pc ls := by
  intro T hT X
  have hts := C.2.2.2.2.1
  obtain ⟨mk, methM, cM, hnamed, hmethM, -, -, -, -, -, hsigM, -⟩ := so_cd_spec (hts _ (so_mc hx))
  have hstatic : methM.isStatic = true := Cond.static_spec hnamed hmethM (hts _ (so_ms hx hk))
  obtain ⟨kP, hkP, -⟩ := className_of_methodNamed hnamed
  have hinitP : kP.init = .initialized := Cond.initialized_spec (findClass_of_methodNamed hnamed) hkP (hts _ (so_mz hx))
  have hlen : (as.map (so_cv H0.size b)).length = methM.sig.parameters.length := by
    unfold so_pn at hn
    rw [hsigM] at hn
    rw [List.length_map, hy]
    exact (Option.some.inj hn).symm
  obtain ⟨vm₁, X₁, hstep₁⟩ := X.invokestatic C.1 C.2.2.2.1 (hts _ (so_pl_mem hl)) hnamed hmethM hstatic hkP hinitP (so_my hx).2.2 (g := F0 m pc ls ((as.reverse ++ st).map (so_cv H0.size b))) rfl (argsL := as.map (so_cv H0.size b)) (rest := st.map (so_cv H0.size b)) hlen (by simp [List.map_reverse]) (by rw [C.2.1]; exact hdg)
  exact ⟨vm₁, mk, X₁, hnamed, hstep₁⟩
end SOI
