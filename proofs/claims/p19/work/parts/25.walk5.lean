section SOW5
variable {p : Program} {l : Launch} {e : Env} {R : Room} {s : State} {m : MethodId} {args : Array Value} {below : List Frame} {meth : Method} {c : Code}
variable {D : va_G} {cA : Nat → ClassId} {H0 : Heap} {b L : Nat} {xs : Nat → Int32} {μ : so_I} {h0 : am_H} {r : am_O × am_H}
variable {k : am_C → Option (am_O × am_H)} {kc : Nat → List Value → am_C → Option (am_O × am_H)} {kr : am_O → am_H → Option (am_O × am_H)} {len x y z w : Nat} {v : Value} {pc : Nat} {lv st : List Value} {h : am_H} {H : Heap} {locs : List Loc} {ls : Array Slot}
theorem sw_tableswitch {d lo hi : Int} {offs : Array Int} (C : so_Cx p R s m args meth c D cA H0 b L xs μ) (G : so_G p l e R s m args below meth c D cA H0 b L xs μ h0 r k) (hR : so_Rp D cA H0 b L xs h H) (hL : so_L H0.size b ls μ.2.2.1 lv) (hnd : so_nd lv) (hlo : ∀ q ∈ locs, H0.size ≤ q.base) (hce : am_ce h0 ≤ am_ce h) (hsl : am_sl h0 ≤ am_sl h)
    (hck : so_ck μ pc (.tableswitch d lo hi offs, len, x, y, z, w, v) = true) (hr : am_stp k kc kr none (.tableswitch d lo hi offs, len, x, y, z, w, v) (pc, lv, st, h) = some r) : W p l e R s m args below meth c H locs (am_ce h - am_ce h0) (am_sl h - am_sl h0) (so_Z D cA H0 b L xs below s h0 r) (F0 m pc ls (st.map (so_cv H0.size b))) := by
  have hck : (decide (decode μ.2.1 pc = .ok (.tableswitch d lo hi offs, len)) && (decide ((pc : Int) + d = (x : Int)) && decide (lo = 0) && decide (v = .int 0) && decide (hi + 1 = (offs.size : Int)) && decide (offs.size < 1000) && offs.toList.all (fun o => decide (0 ≤ (pc : Int) + o)))) = true := hck
  simp only [Bool.and_eq_true, decide_eq_true_eq, List.all_eq_true] at hck
  obtain ⟨hdg, ⟨⟨⟨⟨h1, rfl⟩, rfl⟩, h3⟩, h4⟩, h5⟩ := hck
  simp only [am_stp] at hr
  split at hr
  · rename_i a st' lo' hv
    cases hv
    have hlen : (offs.toList.map fun o => ((pc : Int) + o).toNat).length = offs.size := by simp
    rcases am_sw_spec a (fun t => k (t, lv, st', h)) x (offs.toList.map fun o => ((pc : Int) + o).toNat) 0 (by rw [hlen]; omega) with ⟨j, t, e1, e2, e3⟩ | ⟨e1, e2⟩
    · have e3' : am_sw a (fun t => k (t, lv, st', h)) x 0 (offs.toList.map fun o => ((pc : Int) + o).toNat) = k (t, lv, st', h) := e3
      rw [e3'] at hr
      rw [List.getElem?_map] at e1
      cases ho : offs.toList[j]? with
      | none => rw [ho] at e1; cases e1
      | some o =>
        rw [ho] at e1
        have et : ((pc : Int) + o).toNat = t := Option.some.inj e1
        have hj : j < offs.size := by
          have := (List.getElem?_eq_some_iff.mp ho).1
          simpa using this
        have hai : a.toInt = (j : Int) := by
          rw [e2, Nat.zero_add]
          exact nI_toInt (by omega)
        have hoo : 0 ≤ (pc : Int) + o := h5 o (List.mem_of_getElem? ho)
        refine lv_tableIn (off := o) (tgt := t) C.1 C.2.1 hdg (by omega) (by omega) ?_ (by omega) (G _ _ _ _ _ _ _ hr hR hL hnd hlo hce hsl)
        rw [hai, Int.sub_zero, Int.toNat_natCast, ← Array.getElem?_toList]
        exact ho
    · have e2' : am_sw a (fun t => k (t, lv, st', h)) x 0 (offs.toList.map fun o => ((pc : Int) + o).toNat) = k (x, lv, st', h) := e2
      rw [e2'] at hr
      refine lv_tableOut (tgt := x) C.1 C.2.1 hdg ?_ h1 (G _ _ _ _ _ _ _ hr hR hL hnd hlo hce hsl)
      rcases Int.lt_or_le a.toInt 0 with q | q
      · exact Or.inl q
      · rcases Int.lt_or_le hi a.toInt with q2 | q2
        · exact Or.inr q2
        · exfalso
          refine e1 a.toInt.toNat (by rw [hlen]; omega) ?_
          apply Int32.toInt_inj.mp
          rw [Nat.zero_add]
          show a.toInt = (nI a.toInt.toNat).toInt
          rw [nI_toInt (by omega)]
          omega
  · cases hr
theorem so_oj : Cond.instanceMethod objectInit ∈ so_TB ∧ Cond.code objectInit ⟨#[0xb1]⟩ 1 none ∈ so_TB := by
  refine ⟨so_TB_in ?_ rfl, so_TB_in ?_ rfl⟩ <;> decide +kernel
theorem so_mth : (Cond.static Lib.Math.max.name ∈ so_TB ∧ Cond.code Lib.Math.max.name Lib.Math.max.code 2 (some .int) ∈ so_TB) ∧ (Cond.static Lib.Math.min.name ∈ so_TB ∧ Cond.code Lib.Math.min.name Lib.Math.min.code 2 (some .int) ∈ so_TB) ∧ Cond.initialized "java/lang/Math" ∈ so_TB := by
  refine ⟨⟨so_TB_in ?_ rfl, so_TB_in ?_ rfl⟩, ⟨so_TB_in ?_ rfl, so_TB_in ?_ rfl⟩, so_TB_in ?_ rfl⟩ <;> decide +kernel
end SOW5
