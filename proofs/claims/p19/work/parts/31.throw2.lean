section SOT2
variable {p : Program} {l : Launch} {e : Env} {R : Room} {s : State} {m : MethodId} {args : Array Value} {below : List Frame} {meth : Method} {c : Code}
variable {D : va_G} {cA : Nat → ClassId} {H0 : Heap} {b L : Nat} {xs : Nat → Int32} {μ : so_I} {h0 : am_H} {r : am_O × am_H}
/-- what the rest of the heap is, behind a walk that changed nothing old -/
theorem so_old {S U : State} {k n : Nat} (h : S.sameButNew ({ U with vm := S.vm } : State) [] k n) : S.heap.size ≤ U.heap.size ∧ U.heap.size ≤ S.heap.size + k ∧ ∀ q : Nat, q < S.heap.size → U.heap[q]? = S.heap[q]? := by
  obtain ⟨-, h2, h3, -, -, h6⟩ := h
  refine ⟨h2, h3, fun q hq => ?_⟩
  obtain ⟨c', e1, e2, e3, e4⟩ := h6 q _ (Array.getElem?_eq_getElem hq)
  have hs : c'.slots = (S.heap[q]).slots := Array.ext_getElem? fun i => e4 i (fun hm => nomatch hm)
  have h9 : c' = S.heap[q] := by rw [e2, hs]
  have e5 : U.heap[q]? = some c' := e1
  rw [e5, h9, Array.getElem?_eq_getElem hq]
theorem sw_throw {k : am_C → Option (am_O × am_H)} {kc : Nat → List Value → am_C → Option (am_O × am_H)} {kr : am_O → am_H → Option (am_O × am_H)} {len x y z w : Nat} {v : Value} {pc : Nat} {lv st : List Value} {h : am_H} {H : Heap} {locs : List Loc} {ls : Array Slot} (C : so_Cx p R s m args meth c D cA H0 b L xs μ) (hR : so_Rp D cA H0 b L xs h H) (hL : so_L H0.size b ls μ.2.2.1 lv) (hlo : ∀ q ∈ locs, H0.size ≤ q.base) (hce : am_ce h0 ≤ am_ce h) (hsl : am_sl h0 ≤ am_sl h) {n : Nat} (hy : y ≠ 0) (hst : l.stackTraces = false) (hkr : kr = fun o h => some (o, h)) (hb1 : am_ce r.2 - am_ce h0 ≤ R.cells) (hb2 : am_sl r.2 - am_sl h0 ≤ R.slots)
    (hck : so_ck μ pc (.new n, len, x, y, z, w, v) = true) (hr : am_stp k kc kr none (.new n, len, x, y, z, w, v) (pc, lv, st, h) = some r) : W p l e R s m args below meth c H locs (am_ce h - am_ce h0) (am_sl h - am_sl h0) (so_Z D cA H0 b L xs below s h0 r) (F0 m pc ls (st.map (so_cv H0.size b))) := by
  obtain ⟨y, rfl⟩ : ∃ y', y = y' + 1 := ⟨y - 1, by omega⟩
  subst hkr
  replace hck : (decide (decode μ.2.1 pc = .ok (.new n, len)) && (decide (len = 3) && so_ckx μ n pc x z w v)) = true := hck
  simp only [Bool.and_eq_true, decide_eq_true_eq] at hck
  obtain ⟨d0, rfl, hck⟩ := hck
  simp only [am_stp] at hr
  split at hr
  · rename_i hwt
    cases hr
    have hce' : am_ce (am_al h 0 0 6) = am_ce h + 1 := rfl
    have hsl' : am_sl (am_al h 0 0 6) = am_sl h + 6 := rfl
    rw [hce'] at hb1
    rw [hsl'] at hb2
    unfold so_ckx at hck
    split at hck
    · rename_i ic
      simp only [Bool.and_eq_true, decide_eq_true_eq] at hck
      obtain ⟨⟨⟨⟨⟨⟨⟨⟨⟨⟨hx3, hnh⟩, hf6⟩, hl91⟩, hcl⟩, hml⟩, d3⟩, d4⟩, d6⟩, d9⟩, hstr⟩ := hck
      intro T hT X
      have hRh := hR
      obtain ⟨r1, r2, r3, r4, r5, r6, r7⟩ := hR
      have htr : e.platform.stackTraces = false := (show e.platform.stackTraces = l.stackTraces by rw [X.admits.platform]).trans hst
      have hfr := C.2.2.2.2.2.2.2.2.2.1
      have hlc := C.2.2.2.2.2.2.2.2.2.2.1
      have Y := so_reb X (R' := { frames := R.frames, locals := R.locals, cells := 1, slots := 6 }) (Nat.le_refl _) (Nat.le_refl _) (show _ + 1 ≤ _ by omega) (show _ + 6 ≤ _ by omega)
      obtain ⟨S, hS⟩ : ∃ S, S = (T.setVm s.vm).setFrames (.invoking m args :: below) := ⟨_, rfl⟩
      rw [← hS] at Y
      have hSv : S.vm = s.vm := by rw [hS]; rfl
      have hSh : S.heap = H := by rw [hS]; exact hT
      have hW0 : s.WarmedH S.vm := by rw [hSv]; exact State.WarmedH.refl s
      have hts : ∀ w ∈ so_TB, w.before args S = true := fun w hw => word_at hW0 (so_TB_good _ hw) (C.2.2.2.2.1 _ hw)
      have hown : S.vm.findClass (so_ow μ) = some m.cls := by rw [hSv]; exact C.2.2.2.1
      have hK := C.2.2.2.2.2.1.moved hW0
      have hw4 : ∀ w, so_ow4 w = true → w.before args S = true := by
        intro w hw
        unfold so_ow4 at hw
        simp only [Bool.or_eq_true, Bool.and_eq_true, decide_eq_true_eq] at hw
        rcases hw with (hw | hw) | hw
        · exact hK.2.2.2.2.1 args S (State.WarmedH.refl S) (fun q hq => by rw [hSh]; exact r3 q hq) w hw
        · exact va_Nw.use hw.2 (hK.2.2.2.1 w hw.1)
        · exact hts _ (so_TB_in hw.2 hw.1)
      have h8 := so_ow8 hx3
      simp only [Bool.and_eq_true, List.all_eq_true] at h8
      have hat : ∀ w ∈ Bundle.ownAtoms (so_ow μ) ic (so_ex x) so_up, w.before args S = true := by
        intro w hw
        rcases so_ow9 hw with hw | rfl
        · exact hw4 w (h8.1 w hw)
        · exact hts _ (so_pl_mem hml)
      have hins : (Cond.instantiable (so_ex x) 6).before args S = true := hat _ (by simp [Bundle.ownAtoms])
      obtain ⟨vm₁, cX, kX, hfX, hkX, -, -, X₁, st1⟩ := Y.newCold C.1 (own := so_ow μ) (C := so_ex x) (index := n) (n := 6) hown (hts _ (so_pl_mem hcl)) hins (hw4 _ h8.2)
        (g := F0 m pc ls (st.map (so_cv H0.size b))) rfl (by rw [C.2.1]; exact d0) (Nat.le_refl _) (Nat.le_refl _)
      generalize hT1 : (T.setVm vm₁).pushCell { cls := cX, slots := kX.instanceTypes.map defaultValue, vm := .none } = T1 at X₁ st1
      have hcell : T1.heap[T.heap.size]? = some (freshCell cX kX) := by rw [← hT1]; exact State.heap_pushCell_size _ _
      obtain ⟨qs, hqs, hq2⟩ := List.any_eq_true.mp hstr
      simp only [Bool.and_eq_true, decide_eq_true_eq] at hq2
      obtain ⟨q1, q2⟩ := hq2
      obtain ⟨sa, hsa⟩ := hK.2.2.2.2.2.1 qs hqs
      rw [q1, q2] at hsa
      have hfit : ∀ x, x < 3 → Bundle.fit (so_ex x) = true := by decide +kernel
      have hcat := so_cats H0.size b st
      have hcat1 : (Value.ref T.heap.size).category = 1 := rfl
      obtain ⟨U, hsteps, hrun, hend, hW, hsame, ce, hcE, hO⟩ := X₁.ctorThrowS C.1 htr (own := so_ow μ) (cls := so_ex x) (names := so_up) (ic := ic) hown (hfit x hx3) (by decide +kernel) hat (fun x hx => nomatch hx) hfX hkX hcell (by rw [hSh, hT]; exact Nat.le_refl _) (msg := .ref sa) rfl
        (g := { method := m, pc := pc + 4 + z, locals := ls, stack := .ref sa :: .ref T.heap.size :: .ref T.heap.size :: st.map (so_cv H0.size b), locked := none }) rfl (by rw [C.2.2.1]; exact hL.2.1) rfl rfl (rest := st.map (so_cv H0.size b)) rfl
        (by rw [C.2.1]; exact d6) (by rw [C.2.1, show pc + 4 + z + 3 = pc + 7 + z by omega]; exact d9) (fun x hx => by rw [so_notab C hnh] at hx; cases hx) (show 2 + 3 < R.frames by omega)
        (show 2 * 0 + _ + (13 * (2 + 1) + 42) ≤ R.locals by simp only [List.map_cons, List.sum_cons, hcat1]; omega) C.2.2.2.2.2.2.1
      obtain ⟨f1, f2, f3⟩ := so_old hsame
      rw [hSh] at f1 f2 f3
      have had : so_ad H0.size b (am_nx h) = T.heap.size := by
        rw [so_ad_2 r1, hT]
        omega
      have hsz : U.heap.size = H.size + 1 := by
        have := (Array.getElem?_eq_some_iff.mp hcE).1
        rw [hT] at this
        omega
      have hWs : s.WarmedH U.vm := State.WarmedH.trans hW0 hW
      have hR' : so_Rp D cA H0 b L xs (am_al h 0 0 6) U.heap := hRh.push (by decide) hsz f3 ⟨fun h1 => absurd so_alx.1 h1, fun h1 => by rw [so_alx.1] at h1; omega⟩
      have hall : s.sameButNew ({ U with vm := s.vm } : State) locs (am_ce h - am_ce h0 + 1) (am_sl h - am_sl h0 + 6) := by
        subst hS
        obtain ⟨e1, e2⟩ := hsame
        rw [State.setFrames_setFrames] at e1
        have h2 : (T.setVm s.vm).sameButNew ({ U with vm := s.vm } : State) [] (0 + 1) (0 + 6) := ⟨e1, e2⟩
        have h3 := X.same.trans h2
        rw [List.append_nil] at h3
        exact h3
      refine ⟨U, ?_, .threw T.heap.size, hrun, hend, ⟨by rw [had], ⟨Nat.ne_of_gt (Nat.lt_of_lt_of_le (by decide) r1), hx3⟩, ce, by rw [had]; exact hcE, ?_, hO.vm⟩, hR', locs, hWs, ?_, hlo⟩
      · refine st1 _ ?_
        show Steps p.tables e below (T1.setTop { method := m, pc := pc + 3, locals := ls, stack := .ref T.heap.size :: st.map (so_cv H0.size b), locked := none }) _
        have d3' : decode c.code (pc + 3) = .ok (.dup, 1) := by rw [C.2.1]; exact d3
        jvm_step X₁.here [X₁.here.top, C.1, d3', Value.category]
        have hz : z = 2 ∧ decode c.code (pc + 4) = .ok (.ldc w, 2) ∨ z = 3 ∧ decode c.code (pc + 4) = .ok (.ldc_w w, 3) := by
          rw [C.2.1]
          split at d4
          · exact Or.inl ⟨rfl, of_decide_eq_true d4⟩
          · simp only [Bool.and_eq_true, decide_eq_true_eq] at d4
            exact Or.inr d4
        rcases hz with ⟨rfl, d4'⟩ | ⟨rfl, d4'⟩
        · exact X₁.ldcString C.1 (own := so_ow μ) (text := qs.2.2) (index := w) (a := sa) hown hsa.1 hsa.2 (g := { method := m, pc := pc + 4, locals := ls, stack := .ref T.heap.size :: .ref T.heap.size :: st.map (so_cv H0.size b), locked := none }) rfl d4' _ hsteps
        · exact X₁.ldcStringW C.1 (own := so_ow μ) (text := qs.2.2) (index := w) (a := sa) hown hsa.1 hsa.2 (g := { method := m, pc := pc + 4, locals := ls, stack := .ref T.heap.size :: .ref T.heap.size :: st.map (so_cv H0.size b), locked := none }) rfl d4' _ hsteps
      · rw [hWs.alike.findClass, ← hSv]
        exact hO.cls
      · rw [hce', hsl', show am_ce h + 1 - am_ce h0 = am_ce h - am_ce h0 + 1 by omega, show am_sl h + 6 - am_sl h0 = am_sl h - am_sl h0 + 6 by omega]
        exact hall
    · cases hck
  · cases hr
end SOT2
