section SOC
variable {p : Program} {l : Launch} {e : Env} {R : Room} {s : State} {m : MethodId} {args : Array Value} {below : List Frame} {meth : Method} {c : Code}
variable {D : va_G} {cA : Nat → ClassId} {H0 : Heap} {b L : Nat} {xs : Nat → Int32} {μ : so_I} {h0 : am_H} {r : am_O × am_H}
theorem so_cd_spec {ν : so_I} {a : Array Value} {U : State} (h : (so_cd ν).before a U = true) : ∃ mk meth c, U.methodNamed? ν.1 = some mk ∧ U.vm.method? mk = some meth ∧ meth.code = some c ∧ c.code = ν.2.1 ∧ c.maxLocals = ν.2.2.1 ∧ meth.sig.returnType = ν.2.2.2.1 ∧ meth.locks = false ∧ parseMethodDescriptor ν.1.desc = some meth.sig ∧
    c.exceptionTable.toList.map (fun h => (h.startPc, h.endPc, h.handlerPc, h.catchType)) = ν.2.2.2.2.1 := by
  unfold so_cd at h
  split at h
  · rename_i hh
    obtain ⟨mk, hn⟩ := Cond.code_named h
    obtain ⟨meth, c, h1, h2, h3, h4, h5, h6, h7, h8⟩ := Cond.code_spec hn h
    refine ⟨mk, meth, c, hn, h1, h2, h3, h4, h5, h6, h8, ?_⟩
    have h0 : c.exceptionTable.size = 0 := by simpa [Array.isEmpty] using h7
    have h9 : c.exceptionTable.toList = [] := List.eq_nil_of_length_eq_zero (by simpa using h0)
    rw [h9, hh]
    rfl
  · rename_i q l' hh
    obtain ⟨mk, meth, c, hn, h1, h2, h3, h4, h5, h6, h7, h8⟩ := Cond.codeWith_spec h
    exact ⟨mk, meth, c, hn, h1, h2, h3, h4, h6, h7, h8, by rw [hh]; exact h5⟩
theorem so_pre {ν : so_I} {rm : Room} {a : Array Value} {U : State} (hW : s.WarmedH U.vm) (hts : ∀ w ∈ so_TB, w.before args s = true) (hc : so_cd ν ∈ so_TB) : (headSpec (so_cd ν :: so_TB) rm).pre.before a U = true := by
  refine atoms_intro (ws := so_cd ν :: so_TB) (fun w hw => ?_)
  rcases List.mem_cons.mp hw with rfl | hw
  · exact word_at hW (so_TB_good _ hc) (hts _ hc)
  · exact word_at hW (so_TB_good _ hw) (hts _ hw)
theorem so_cats (B b : Nat) : ∀ st : List Value, ((st.map (so_cv B b)).map fun v => v.category).sum ≤ am_wt st
  | [] => Nat.le_refl _
  | v :: st => by
    have ih := so_cats B b st
    simp only [List.map_cons, List.sum_cons]
    have hv : (so_cv B b v).category + am_wt st ≤ am_wt (v :: st) := by
      cases v with
      | ref k => cases k <;> simp [so_cv, Value.category, am_wt] <;> omega
      | _ => simp [so_cv, Value.category, am_wt] <;> omega
    omega
/-- what a contract says of the call, and how the caller goes on -/
theorem so_after {T : State} {x : Nat} {as st : List Value} {h h1 : am_H} {o : am_O} {H : Heap} {locs : List Loc} {pc : Nat} {ls : Array Slot} {ig : Instr} (C : so_Cx p R s m args meth c D cA H0 b L xs μ) (hM : so_Met l D cA H0 b L xs x as h o h1) (hx : so_cke μ x = true) (hcw : so_cd (nm_mi x) ∈ so_TB) (hini : Cond.initialized (nm_mi x).1.cls ∈ so_TB)
    (hR : so_Rp D cA H0 b L xs h H) (hL : ls.size = μ.2.2.1) (hlo : ∀ q ∈ locs, H0.size ≤ q.base) (hce : am_ce h0 ≤ am_ce h) (hsl : am_sl h0 ≤ am_sl h) (hc1 : am_ce h ≤ am_ce h1) (hs1 : am_sl h ≤ am_sl h1) (hb1 : am_ce h1 - am_ce h0 ≤ R.cells) (hb2 : am_sl h1 - am_sl h0 ≤ R.slots)
    (hwt : am_wt st ≤ 8) (hdg : decode μ.2.1 pc = .ok (ig, 3)) {vm₁ : Vm} (hT : T.heap = H) (X₁ : Stand p l e R s m args below meth c (T.setVm vm₁) locs (am_ce h - am_ce h0) (am_sl h - am_sl h0)) {mk : MethodId} (hnk : s.methodNamed? (nm_mi x).1 = some mk) :
    ∃ (o' : Outcome) (T' : State) (Lc : List Loc), so_out H0.size b T' o o' ∧ so_Rp D cA H0 b L xs h1 T'.heap ∧ (∀ q ∈ locs ++ Lc, H0.size ≤ q.base) ∧ Stand p l e R s m args below meth c T' (locs ++ Lc) (am_ce h1 - am_ce h0) (am_sl h1 - am_sl h0) ∧
      match o' with
      | .returned v => Steps p.tables e below (doInvoke e ((T.setVm vm₁).setTop (F0 m pc ls (st.map (so_cv H0.size b)))) [] mk (as.map (so_cv H0.size b)).toArray).1 (T'.setTop (F0 m (pc + 3) ls (v.toList ++ st.map (so_cv H0.size b))))
      | .threw y => Steps p.tables e below (doInvoke e ((T.setVm vm₁).setTop (F0 m pc ls (st.map (so_cv H0.size b)))) [] mk (as.map (so_cv H0.size b)).toArray).1 ((T'.setTop (F0 m pc ls (st.map (so_cv H0.size b)))).pushFrame (.throwing y)) := by
  unfold so_cke at hx
  simp only [Bool.and_eq_true, decide_eq_true_eq] at hx
  obtain ⟨⟨hx1, hx2⟩, hx3⟩ := hx
  have hW := X₁.warmed
  have hcU : (so_cd (nm_mi x)).before args (T.setVm vm₁) = true := word_at hW (so_TB_good _ hcw) (C.2.2.2.2.1 _ hcw)
  obtain ⟨mk', methY, cY, hn, hmY, hcY, hbY, hlY, -⟩ := so_cd_spec hcU
  have hmk : mk' = mk := Option.some.inj (hn.symm.trans (X₁.named hnk))
  subst hmk
  obtain ⟨kY, hkY, -⟩ := className_of_methodNamed hn
  have hinitY : kY.init = .initialized := Cond.initialized_spec (findClass_of_methodNamed hn) hkY (word_at (a' := args) hW (so_TB_good _ hini) (C.2.2.2.2.1 _ hini))
  have hKU : so_K D cA H0 b L xs (T.setVm vm₁) := C.2.2.2.2.2.1.moved hW
  have hcat := so_cats H0.size b st
  obtain ⟨o', s₂, T', Lc, k', n', hq, ⟨rfl, rfl, hLc⟩, e1, e2, X', hst⟩ := so_called (E := fun first o t Lc k n => k = am_ce h1 - am_ce h ∧ n = am_sl h1 - am_sl h ∧ ∀ q ∈ Lc, H0.size ≤ q.base) hM X₁ (g := F0 m pc ls (st.map (so_cv H0.size b))) rfl (by rw [C.2.2.1]; exact hL) (ig := ig) (len := 3) (by rw [C.2.1]; exact hdg) hn hmY hcY hkY hinitY
    (show so_fr (nm_mi x) + 1 ≤ R.frames from Nat.le_trans hx2 C.2.2.2.2.2.2.2.2.2.1)
    (show 2 * 0 + ((st.map (so_cv H0.size b)).map fun v => v.category).sum + (cY.maxLocals + 11) + so_lo (nm_mi x) ≤ R.locals by
      have := C.2.2.2.2.2.2.2.2.2.2.1
      rw [hlY]
      omega)
    (show am_ce h - am_ce h0 + (am_ce h1 - am_ce h) ≤ R.cells by omega) (show am_sl h - am_sl h0 + (am_sl h1 - am_sl h) ≤ R.slots by omega)
    (a := (as.map (so_cv H0.size b)).toArray) (so_pre hW C.2.2.2.2.1 hcw) ⟨rfl, so_K.moved (u := T.setVm vm₁) (State.WarmedH.refl (T.setVm vm₁)) hKU, by show so_Rp D cA H0 b L xs h T.heap; rw [hT]; exact hR⟩
    (fun first o t hq => by
      obtain ⟨-, -, Lc, q1, q2, q3⟩ := hq
      exact ⟨Lc, _, _, q1, q2, rfl, rfl, q3⟩)
  obtain ⟨ho, hR', -⟩ := hq
  refine ⟨o', T', Lc, ?_, by rw [e1]; exact hR', fun q hq => (List.mem_append.mp hq).elim (hlo q) (hLc q), ?_, hst⟩
  · unfold so_out at ho ⊢
    cases o with
    | inl v => exact ho
    | inr q =>
      obtain ⟨ho1, hq9, cell, ho2, ho3⟩ := ho
      exact ⟨ho1, hq9, cell, by rw [e1]; exact ho2, by rw [e2]; exact ho3⟩
  · rw [show am_ce h1 - am_ce h0 = am_ce h - am_ce h0 + (am_ce h1 - am_ce h) by omega, show am_sl h1 - am_sl h0 = am_sl h - am_sl h0 + (am_sl h1 - am_sl h) by omega]
    exact X'
end SOC
