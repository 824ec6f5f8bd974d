section SOK
variable {p : Program} {l : Launch} {e : Env} {R : Room} {s : State} {m : MethodId} {args : Array Value} {below : List Frame} {meth : Method} {c : Code}
variable {D : va_G} {cA : Nat → ClassId} {H0 : Heap} {b L : Nat} {xs : Nat → Int32} {μ : so_I} {h0 : am_H} {r : am_O × am_H}
/-- an object's cell -/
theorem so_obj {h : am_H} {H : Heap} {a kd : Nat} {C' : String} {T : u_T} {N : Nat} (hK : so_K D cA H0 b L xs s) (hR : so_Rp D cA H0 b L xs h H) (hkd : am_kd h a = kd) (h1 : kd ≠ 0) (h2 : kd < 99) (hcl : nm_cl[kd - 1]? = some (C', T, N)) : so_cv H0.size b (.ref a) = .ref (so_ad H0.size b a) ∧ ∃ cell : Cell, H[so_ad H0.size b a]? = some cell ∧ cell.vm = .none ∧ s.vm.findClass C' = some cell.cls := by
  obtain ⟨r1, r2, r3, r4, r5, r6, r7⟩ := hR
  rcases r5 a (by rw [hkd]; exact h1) with ⟨-, h9⟩ | ⟨a2, an, -⟩
  · omega
  subst hkd
  obtain ⟨rr, g0, cell, g1, g2, g3, -⟩ := (r4 a a2 an).1 h1 h2
  refine ⟨so_cv_ref (by omega), cell, g1, g3, ?_⟩
  rw [g2]
  exact (hK.1.1 _ _ hcl).2.1
/-- virtual methods of the object's own class -/
theorem so_lkV {pc x i y a kd : Nat} {as st : List Value} {h : am_H} {H : Heap} {locs : List Loc} {cells slots : Nat} {ls : Array Slot} {C' : String} {T' : u_T} {N : Nat} (C : so_Cx p R s m args meth c D cA H0 b L xs μ) (hR : so_Rp D cA H0 b L xs h H) (hkd : am_kd h a = kd) (h1 : kd ≠ 0) (h2 : kd < 99) (hcl : nm_cl[kd - 1]? = some (C', T', N)) (hC : C' = (nm_mi x).1.cls) (hx : x < nm_n) (hl : so_pl (so_on μ) i = some (.methodLink (so_ow μ) i (nm_mi x).1)) (hk : (nm_mw[x]?).map (·.2.1) = some 1) (hni : (nm_mi x).1.name ≠ "<init>") (hn : (so_pn (nm_mi x).1.desc).map (· + 1) = some y) (hy : (Value.ref a :: as).length = y) (hdg : decode μ.2.1 pc = .ok (.invokevirtual i, 3)) :
    so_Lk p l e R s m args below meth c H0.size b H locs cells slots x (.ref a :: as) st pc ls := by
  intro T hT X
  have hts := C.2.2.2.2.1
  obtain ⟨ea, cellB, hcB, hvB, hfB⟩ := so_obj C.2.2.2.2.2.1 hR hkd h1 h2 hcl
  obtain ⟨mk, methM, hnamed, hmethM, hstM, habM⟩ := Cond.instanceMethod_spec (hts _ (so_mm hx hk))
  obtain ⟨mk', methM', cM, hn', hmethM', -, -, -, -, -, hsigM, -⟩ := so_cd_spec (hts _ (so_mc hx))
  cases hnamed.symm.trans hn'
  cases hmethM.symm.trans hmethM'
  obtain ⟨c2, r2, m2, q1, q2, q3, q4, kP, hkP, hkPi⟩ := Cond.selects_spec (hts _ (so_ml hx hk hni))
  rw [hC] at hfB
  cases hfB.symm.trans q1
  cases (State.methodFound?_of_named hnamed (so_my hx).2.2).symm.trans q2
  cases hnamed.symm.trans q3
  have hselP : selectMethod e.platform s.vm cellB.cls mk = .method mk := by rw [Launch.admits_selectMethod X.admits]; exact q4
  have hlen : (as.map (so_cv H0.size b)).length = methM.sig.parameters.length := by
    unfold so_pn at hn
    rw [hsigM] at hn
    simp only [Option.map_some, Option.some.injEq] at hn
    rw [List.length_map]
    simp only [List.length_cons] at hy
    omega
  obtain ⟨vm₁, X₁, hstep₁⟩ := X.invokevirtual C.1 C.2.2.2.1 (hts _ (so_pl_mem hl)) hnamed hmethM hstM hkP hkPi (so_my hx).2.2 (a := so_ad H0.size b a) (cell := cellB) (by rw [hT]; exact hcB)
    (fun z h => by rw [hvB] at h; cases h) hselP hmethM habM hkP hkPi (g := F0 m pc ls (((Value.ref a :: as).reverse ++ st).map (so_cv H0.size b))) rfl (argsL := as.map (so_cv H0.size b)) (rest := st.map (so_cv H0.size b)) hlen (by simp [List.map_reverse, ea]) (by rw [C.2.1]; exact hdg)
  refine ⟨vm₁, mk, X₁, hnamed, fun target ht => hstep₁ target (fun acts => ?_)⟩
  have := ht acts
  simp only [List.map_cons, ea] at this
  exact this
/-- constructors -/
theorem so_lkI {pc x i y a : Nat} {as st : List Value} {H : Heap} {locs : List Loc} {cells slots : Nat} {ls : Array Slot} (C : so_Cx p R s m args meth c D cA H0 b L xs μ) (ha : a ≠ 0) (hx : x < nm_n) (hl : so_pl (so_on μ) i = some (.methodLink (so_ow μ) i (nm_mi x).1) ∨ so_ln nm_pn (so_on μ) i = some (.methodLinkNest (so_ow μ) i (nm_mi x).1 "SortedRuns")) (hk : (nm_mw[x]?).map (·.2.1) = some 1) (hni : (nm_mi x).1.name = "<init>") (hnr : (nm_mi x).2.2.2.1 = none) (hnh : (nm_mi x).2.2.2.2.1 = []) (hn : (so_pn (nm_mi x).1.desc).map (· + 1) = some y) (hy : (Value.ref a :: as).length = y) (hdg : decode μ.2.1 pc = .ok (.invokespecial i, 3)) :
    so_Lk p l e R s m args below meth c H0.size b H locs cells slots x (.ref a :: as) st pc ls := by
  intro T hT X
  have hts := C.2.2.2.2.1
  have ea : so_cv H0.size b (.ref a) = .ref (so_ad H0.size b a) := so_cv_ref ha
  have hpl : e.platform.magicAccessors = ({} : Platform).magicAccessors := by rw [X.admits.platform]
  have hcode : (Cond.code (nm_mi x).1 (nm_mi x).2.1 (nm_mi x).2.2.1 none).before args s = true := by
    have h1 := hts _ (so_mc hx)
    unfold so_cd at h1
    rw [hnh, hnr] at h1
    exact h1
  have hlen : ∀ sig, parseMethodDescriptor (nm_mi x).1.desc = some sig → (as.map (so_cv H0.size b)).length = sig.parameters.length := by
    intro sig hs
    unfold so_pn at hn
    rw [hs] at hn
    simp only [Option.map_some, Option.some.injEq] at hn
    rw [List.length_map]
    simp only [List.length_cons] at hy
    omega
  have key : ∃ mk vm₁, s.methodNamed? (nm_mi x).1 = some mk ∧ s.WarmedH vm₁ ∧ ∀ target, (∀ acts, Steps p.tables e below (doInvoke e ((T.setVm vm₁).setTop { F0 m pc ls (((Value.ref a :: as).reverse ++ st).map (so_cv H0.size b)) with stack := st.map (so_cv H0.size b) }) acts mk (Value.ref (so_ad H0.size b a) :: as.map (so_cv H0.size b)).toArray).1 target) → Steps p.tables e below (T.setTop (F0 m pc ls (((Value.ref a :: as).reverse ++ st).map (so_cv H0.size b)))) target := by
    rcases hl with hl | hl
    · obtain ⟨mk, methM, cM, kP, vm₁, hnamed, -, -, -, -, -, -, -, hW₁, hstep₁⟩ := Steps.initColdArgs (e := e) X.here C.1 X.warmed hpl C.2.2.2.1 hni (so_my hx).2.2 (hts _ (so_pl_mem hl)) (hts _ (so_mm hx hk)) hcode (f := F0 m pc ls (((Value.ref a :: as).reverse ++ st).map (so_cv H0.size b))) rfl (a := so_ad H0.size b a) (rest := st.map (so_cv H0.size b)) hlen (by simp [List.map_reverse, ea]) (by rw [C.2.1]; exact hdg)
      exact ⟨mk, vm₁, hnamed, hW₁, hstep₁⟩
    · obtain ⟨mk, methM, cM, kP, vm₁, hnamed, -, -, -, -, -, -, -, hW₁, hstep₁⟩ := Steps.initColdArgsNest (e := e) X.here C.1 X.warmed hpl C.2.2.2.1 hni (so_my hx).2.2 (va_Nw.use (A := args) rfl (C.2.2.2.2.2.1.2.2.2.1 _ (so_pn_mem hl))) (hts _ (so_mm hx hk)) hcode (f := F0 m pc ls (((Value.ref a :: as).reverse ++ st).map (so_cv H0.size b))) rfl (a := so_ad H0.size b a) (rest := st.map (so_cv H0.size b)) hlen (by simp [List.map_reverse, ea]) (by rw [C.2.1]; exact hdg)
      exact ⟨mk, vm₁, hnamed, hW₁, hstep₁⟩
  obtain ⟨mk, vm₁, hnamed, hW₁, hstep₁⟩ := key
  refine ⟨vm₁, mk, X.noted hW₁, hnamed, fun target ht => hstep₁ target (fun acts => ?_)⟩
  have := ht acts
  simp only [List.map_cons, ea] at this
  exact this
/-- a method that the object's class has in place of an abstract one -/
theorem so_lkD {pc x i y a kd : Nat} {as st : List Value} {h : am_H} {H : Heap} {locs : List Loc} {cells slots : Nat} {ls : Array Slot} {C' : String} {T' : u_T} {N : Nat} {q : MethodName} (C : so_Cx p R s m args meth c D cA H0 b L xs μ) (hR : so_Rp D cA H0 b L xs h H) (hkd : am_kd h a = kd) (h1 : kd ≠ 0) (h2 : kd < 99) (hcl : nm_cl[kd - 1]? = some (C', T', N)) (hC : C' = (nm_mi x).1.cls) (hx : x < nm_n) (hl : so_pl (so_on μ) i = some (.methodLink (so_ow μ) i q)) (hk : (nm_mw[x]?).map (·.2.1) = some 1) (hq : Cond.declares q ∈ so_NS) (hsq : Cond.selects (nm_mi x).1.cls q (nm_mi x).1 ∈ so_TB) (hqn : so_pn q.desc = so_pn (nm_mi x).1.desc) (hsm : Cond.sameMethod q.cls q.cls q.name q.desc ∈ so_TB) (hqc : q.cls ≠ "java/lang/invoke/MethodHandle" ∧ q.cls ≠ "java/lang/invoke/VarHandle") (hn : (so_pn (nm_mi x).1.desc).map (· + 1) = some y) (hy : (Value.ref a :: as).length = y) (hdg : decode μ.2.1 pc = .ok (.invokevirtual i, 3)) :
    so_Lk p l e R s m args below meth c H0.size b H locs cells slots x (.ref a :: as) st pc ls := by
  intro T hT X
  have hts := C.2.2.2.2.1
  obtain ⟨ea, cellB, hcB, hvB, hfB⟩ := so_obj C.2.2.2.2.2.1 hR hkd h1 h2 hcl
  obtain ⟨mk, methM, hnamed, hmethM, hstM, habM⟩ := Cond.instanceMethod_spec (hts _ (so_mm hx hk))
  obtain ⟨r0, methR, hnR, hrm, hstR, hsigR⟩ := Cond.declares_spec (C.2.2.2.2.2.1.2.2.2.1 _ hq)
  have hsame := hts _ hsm
  obtain ⟨cn, ck, r1, hcn, hck, hni, hf, hn1⟩ := Cond.sameMethod_found hsame
  cases hnR.symm.trans hn1
  obtain ⟨c2, r2, m2, q1, q2, q3, q4, kP, hkP, hkPi⟩ := Cond.selects_spec (hts _ hsq)
  rw [hC] at hfB
  cases hfB.symm.trans q1
  cases hf.symm.trans q2
  cases hnamed.symm.trans q3
  have hselP : selectMethod e.platform s.vm cellB.cls r0 = .method mk := by rw [Launch.admits_selectMethod X.admits]; exact q4
  have hlen : (as.map (so_cv H0.size b)).length = methR.sig.parameters.length := by
    rw [← hqn] at hn
    unfold so_pn at hn
    rw [hsigR] at hn
    simp only [Option.map_some, Option.some.injEq] at hn
    rw [List.length_map]
    simp only [List.length_cons] at hy
    omega
  obtain ⟨vm₁, X₁, hstep₁⟩ := X.invokevirtualUp C.1 C.2.2.2.1 (hts _ (so_pl_mem hl)) hsame hqc hnR hrm hstR (a := so_ad H0.size b a) (cell := cellB) (by rw [hT]; exact hcB)
    (fun z h => by rw [hvB] at h; cases h) hselP hmethM habM hkP hkPi (g := F0 m pc ls (((Value.ref a :: as).reverse ++ st).map (so_cv H0.size b))) rfl (argsL := as.map (so_cv H0.size b)) (rest := st.map (so_cv H0.size b)) hlen (by simp [List.map_reverse, ea]) (by rw [C.2.1]; exact hdg)
  refine ⟨vm₁, mk, X₁, hnamed, fun target ht => hstep₁ target (fun acts => ?_)⟩
  have := ht acts
  simp only [List.map_cons, ea] at this
  exact this
end SOK
