/-! HANDLERS -/
def so_hq : List (Nat × Nat × Nat × Nat) → Bool
  | [] => true
  | q :: l => (l.all fun r => decide (r.2.2.2 = q.2.2.2) || decide ((r.2.2.2, q.2.2.2) ∈ nm_nc)) && so_hq l
def so_hz (μ : so_I) : Bool := decide (μ.2.2.2.2.1 = []) || (decide (so_ow μ = "SortedRunsLaw") && μ.2.2.2.2.1.all fun q => decide (q.2.2.2 ≠ 0))
theorem am_hd_mem : ∀ (l : List (Nat × Nat × Nat × Nat)) {pc kd t : Nat}, am_hd l pc kd = some t → ∃ r ∈ l, r.2.2.2 = kd
  | [], _, _, _, h => by cases h
  | (a, b, t0, k) :: l, pc, kd, t, h => by
    unfold am_hd at h
    split at h
    · rename_i hq
      exact ⟨_, List.mem_cons_self, hq.2⟩
    · obtain ⟨r, h1, h2⟩ := am_hd_mem l h
      exact ⟨r, List.mem_cons_of_mem _ h1, h2⟩
section SOH
variable {e : Env} {below : List Frame}
/-- one row that covers the pc: its class is resolved, and takes the object or not -/
theorem so_go {s₀ S : State} {f : JFrame} {a : Addr} {x : ExceptionTableEntry} {tb : List ExceptionTableEntry} {c : ClassId} {cell : Cell} (hx : covers x f.pc = true) (h0 : x.catchType ≠ 0) (hW : s₀.WarmedH S.vm) (hl : s₀.vm.ClassLinks e.platform f.method.cls x.catchType c) (hcell : S.heap[a]? = some cell) (hv : cell.vm = .none) (hk : ∃ k, s₀.vm.classes[cell.cls]? = some k) :
    ∃ vm', s₀.WarmedH vm' ∧ ∀ (Q : Handler → Pre) (E : CtlPost) (d : Bool) (acts : List Action), wp (findHandler.go f a (x :: tb)) Q E e d acts S ↔ (if s₀.vm.assignable cell.cls c = true then Q (.found x.handlerPc) d acts (S.setVm vm') else wp (findHandler.go f a tb) Q E e d acts (S.setVm vm')) := by
  obtain ⟨dk, _, _, kt, hd, _, _, _, _, hkt, _, hopen⟩ := hl.here
  refine ⟨S.vm.noted f.method.cls x.catchType (.cls c), hW.noted hd hopen (State.rightAt_cls hl), fun Q E d acts => ?_⟩
  obtain ⟨ha, ht⟩ := (resolveClass_links e.toSetting (hW.classLinks hl)).op (op := VmOp.resolveClass f.method.cls x.catchType) rfl
  have hal : s₀.vm.Alike (S.vm.noted f.method.cls x.catchType (.cls c)) := hW.alike.noted _ _ _
  obtain ⟨k1, hk1⟩ := hk
  obtain ⟨k1', hk1', -⟩ := hal.2.2 _ _ hk1
  obtain ⟨k2', hk2', -⟩ := hal.2.2 _ _ hkt
  have hasg := hal.assignable cell.cls c
  have hobj : ∀ k, cell.vm ≠ .statics k := fun k h => by rw [hv] at h; cases h
  simp only [covers] at hx
  cases hq : s₀.vm.assignable cell.cls c <;> rw [hq] at hasg <;> simp [findHandler.go, hx, h0, ha, ht, hcell, hobj, hk1', hk2', hasg, VmOp.dirties, VmOp.acts]
/-- the search comes to what the abstract one comes to -/
theorem so_srch {s₀ : State} {f : JFrame} {a : Addr} {cell : Cell} {A : Array Value} {kd o : Nat} (hpl : e.platform.magicAccessors = ({} : Platform).magicAccessors) (hown : s₀.vm.findClass "SortedRunsLaw" = some f.method.cls) (hv : cell.vm = .none) (hcl : s₀.vm.findClass (so_ex kd) = some cell.cls) (hts : ∀ w ∈ so_TB, w.before A s₀ = true) (hnc : so_Nc s₀) :
    ∀ (tb : List ExceptionTableEntry) (l : List (Nat × Nat × Nat × Nat)) (t : Nat), so_hk (tb.map fun h => (h.startPc, h.endPc, h.handlerPc, h.catchType)) l o = true → so_hq l = true → (∀ q ∈ tb, q.catchType ≠ 0) → am_hd l f.pc kd = some t →
      ∀ S : State, s₀.WarmedH S.vm → S.heap[a]? = some cell → ∃ vm', s₀.WarmedH vm' ∧ ∀ (Q : Handler → Pre) (E : CtlPost) (d : Bool) (acts : List Action), wp (findHandler.go f a tb) Q E e d acts S ↔ Q (.found t) d acts (S.setVm vm')
  | [], [], t, _, _, _, h2 => by cases h2
  | [], q :: l, t, h1, _, _, h2 => by cases h1
  | x :: tb, [], t, h1, _, _, h2 => by cases h1
  | x :: tb, (a', b', t', k) :: l, t, h1, h3, h0, h2 => by
    intro S hW hcell
    simp only [List.map_cons, so_hk, Bool.and_eq_true, decide_eq_true_eq] at h1
    obtain ⟨⟨⟨⟨⟨e1, e2⟩, e3⟩, e4⟩, e5⟩, e6⟩ := h1
    subst e1; subst e2; subst e3
    simp only [so_hq, Bool.and_eq_true] at h3
    have hk : ∃ k, s₀.vm.classes[cell.cls]? = some k := by
      obtain ⟨k9, h9, -⟩ := Vm.findClass_spec hcl
      exact ⟨k9, h9⟩
    have ih := so_srch (a := a) hpl hown hv hcl hts hnc tb l t e6 h3.2 (fun q hq => h0 q (List.mem_cons_of_mem _ hq))
    unfold am_hd at h2
    by_cases hc : x.startPc ≤ f.pc ∧ f.pc < x.endPc
    · have hx : covers x f.pc = true := by simp [covers, hc.1, hc.2]
      obtain ⟨c5, hc5, hl5⟩ := Cond.classLink_spec hown (hts _ (so_pl_mem e4)) e.platform hpl
      obtain ⟨vm', hW', hq⟩ := so_go (e := e) (tb := tb) hx (h0 x List.mem_cons_self) hW hl5 hcell hv hk
      by_cases hkd : k = kd
      · subst hkd
        rw [if_pos ⟨hc, rfl⟩] at h2
        cases h2
        refine ⟨vm', hW', fun Q E d acts => ?_⟩
        have hcc : cell.cls = c5 := Option.some.inj (hcl.symm.trans hc5)
        rw [hq, if_pos (by rw [← hcc]; show Vm.assignableAux _ _ _ _ = true; unfold Vm.assignableAux; simp)]
      · rw [if_neg (fun h => hkd h.2)] at h2
        obtain ⟨vm2, hW2, hq2⟩ := ih h2 (S.setVm vm') hW' hcell
        refine ⟨vm2, hW2, fun Q E d acts => ?_⟩
        have hmem : (kd, k) ∈ nm_nc := by
          obtain ⟨r, r1, r2⟩ := am_hd_mem l h2
          have r3 := List.all_eq_true.mp h3.1 r r1
          simp only [Bool.or_eq_true, decide_eq_true_eq, r2] at r3
          rcases r3 with r3 | r3
          · exact absurd r3.symm hkd
          · exact r3
        rw [hq, if_neg (by rw [hnc _ hmem _ _ hcl hc5]; decide)]
        exact hq2 Q E d acts
    · rw [if_neg (fun h => hc h.1)] at h2
      obtain ⟨vm2, hW2, hq2⟩ := ih h2 S hW hcell
      refine ⟨vm2, hW2, fun Q E d acts => ?_⟩
      rw [W.findHandler_go_skip (by simp only [covers, Bool.and_eq_false_iff, decide_eq_false_iff_not]; omega)]
      exact hq2 Q E d acts
/-- .. and the walk goes on at the handler -/
theorem so_ct {tb : Tables} {S target : State} {g : JFrame} {cd : Code} {a : Addr} {pc : Nat} {vm' : Vm} (h : At S g.method cd below) (hf : ∀ (Q : Handler → Pre) (E : CtlPost) (d : Bool) (acts : List Action), wp (findHandler g a) Q E e d acts ((S.setTop g).pushFrame (.throwing a)) ↔ Q (.found pc) d acts (((S.setTop g).pushFrame (.throwing a)).setVm vm'))
    (hrest : Steps tb e below ((S.setVm vm').setTop { g with pc := pc, stack := [.ref a] }) target) : Steps tb e below ((S.setTop g).pushFrame (.throwing a)) target := by
  obtain ⟨hgo, hw⟩ := h.throwing a
  refine Steps.head hgo hw ?_
  have hst : ∀ r : List Frame, (stepThrowing e ((S.setTop g).pushFrame (.throwing a)) a (.java g :: r)).Is ((((S.setTop g).pushFrame (.throwing a)).setVm vm').setFrames (.java { g with pc := pc, stack := [.ref a] } :: r)) [] := by
    intro r
    simp only [stepThrowing, searchFrame, vmDo]
    generalize hr : Sem.go _ e false [] ((S.setTop g).pushFrame (.throwing a)) = res
    obtain ⟨as, rfl, ha⟩ := Sem.eq_ok_of hr (a := Handler.found pc) (s' := ((S.setTop g).pushFrame (.throwing a)).setVm vm') (acts' := []) (by simp [hf _ _ _ _])
    exact ⟨rfl, ha⟩
  rw [stepThread_throwing (frames_entered h.top _), (hst _).1]
  obtain ⟨g₀, hg⟩ := Option.isSome_iff_exists.mp h.top
  obtain ⟨r, hr⟩ := State.topJava?_eq_some.mp hg
  have hr' : (S.setVm vm').frames = .java g₀ :: r := hr
  rw [State.setTop_of_frames _ hr'] at hrest
  rw [hr, List.tail_cons, State.pushFrame, State.setTop_of_frames _ hr]
  have e1 : ∀ (u : State) (F G : List Frame), ((u.setFrames F).setVm vm').setFrames G = (u.setVm vm').setFrames G := fun u F G => by
    have q : (u.setFrames F).setVm vm' = (u.setVm vm').setFrames F := rfl
    rw [q, State.setFrames_setFrames]
  rw [State.setFrames_setFrames, e1]
  exact hrest
end SOH
section SOH2
variable {p : Program} {l : Launch} {e : Env} {R : Room} {s : State} {m : MethodId} {args : Array Value} {below : List Frame} {meth : Method} {c : Code}
variable {D : va_G} {cA : Nat → ClassId} {H0 : Heap} {b L : Nat} {xs : Nat → Int32} {μ : so_I} {h0 : am_H} {r : am_O × am_H}
/-- how a throw goes on: a handler of the method's takes it, or it leaves -/
theorem so_gtAll {M : am_M} {k : am_C → Option (am_O × am_H)} (C : so_Cx p R s m args meth c D cA H0 b L xs μ) (G : so_G p l e R s m args below meth c D cA H0 b L xs μ h0 r k) (hh : so_hk μ.2.2.2.2.1 M.2.2 (so_on μ) = true) (hhq : so_hq M.2.2 = true) (hz : so_hz μ = true) : so_GT p l e R s m args below meth c D cA H0 b L xs μ h0 r (am_kt M k) := by
  intro pc lv st q h T locs ls o' hr hR ho hL hnd hlo hce hsl X
  unfold am_kt at hr
  split at hr
  · rename_i t ht
    obtain ⟨ho1, ⟨hq2, hq1⟩, cell, hc1, hc2, hc3⟩ := ho
    have htab := C.2.2.2.2.2.2.2.2.2.2.2.1
    have hpl : e.platform.magicAccessors = ({} : Platform).magicAccessors := by rw [X.admits.platform]
    have hne : μ.2.2.2.2.1 ≠ [] := by
      intro he
      rw [he] at hh
      cases hM : M.2.2 with
      | nil => rw [hM] at ht; cases ht
      | cons a l => rw [hM] at hh; cases hh
    unfold so_hz at hz
    simp only [Bool.or_eq_true, Bool.and_eq_true, decide_eq_true_eq, List.all_eq_true] at hz
    obtain ⟨z1, z2⟩ := hz.resolve_left hne
    have hown : s.vm.findClass "SortedRunsLaw" = some m.cls := by rw [← z1]; exact C.2.2.2.1
    have hcz : ∀ q ∈ c.exceptionTable.toList, q.catchType ≠ 0 := by
      intro q hq
      refine z2 (q.startPc, q.endPc, q.handlerPc, q.catchType) ?_
      rw [← htab]
      exact List.mem_map.mpr ⟨q, hq, rfl⟩
    have hcl : s.vm.findClass (so_ex q.1) = some cell.cls := by
      rw [X.warmed.alike.findClass] at hc2
      exact hc2
    obtain ⟨vm', hW', hf⟩ := so_srch (e := e) (s₀ := s) (f := F0 m pc ls (st.map (so_cv H0.size b))) (a := so_ad H0.size b q.2) hpl hown hc3 hcl C.2.2.2.2.1 C.2.2.2.2.2.1.2.2.2.2.2.2 c.exceptionTable.toList M.2.2 t (by rw [htab]; exact hh) hhq hcz ht ((T.setTop (F0 m pc ls (st.map (so_cv H0.size b)))).pushFrame (.throwing (so_ad H0.size b q.2))) (by rw [Stand.throwing_vm]; exact X.warmed) (by rw [Stand.throwing_heap]; exact hc1)
    obtain ⟨t2, t3, t4⟩ := G t lv [.ref q.2] h T.heap locs ls hr hR hL hnd hlo hce hsl (T.setVm vm') rfl (X.noted hW')
    refine ⟨t2, so_ct (vm' := vm') (pc := t) (cd := c) X.here (fun Q E d acts => ?_) ?_, t4⟩
    · rw [W.findHandler_eq (meth := meth) (code := c) (by rw [Stand.throwing_vm]; exact X.method') X.code]
      exact hf Q E d acts
    · have e2 : ([Value.ref q.2].map (so_cv H0.size b)) = [.ref (so_ad H0.size b q.2)] := by rw [List.map_cons, so_cv_ref hq2]; rfl
      rw [e2] at t3
      exact t3
  · split at hr
    · rename_i hM
      have hn : μ.2.2.2.2.1 = [] := by
        rw [hM] at hh
        cases hX : μ.2.2.2.2.1 with
        | nil => rfl
        | cons a l => rw [hX] at hh; cases hh
      exact so_gtOut C hn pc lv st q h T locs ls o' hr hR ho hL hnd hlo hce hsl X
    · cases hr
end SOH2
