section SOO
variable {p : Program} {l : Launch} {e : Env} {R : Room} {s : State} {m : MethodId} {args : Array Value} {below : List Frame} {meth : Method} {c : Code}
variable {D : va_G} {cA : Nat → ClassId} {H0 : Heap} {b L : Nat} {xs : Nat → Int32} {μ : so_I} {h0 : am_H} {r : am_O × am_H}
theorem so_notab (C : so_Cx p R s m args meth c D cA H0 b L xs μ) (hh : μ.2.2.2.2.1 = []) : c.exceptionTable.toList = [] := by
  have h := C.2.2.2.2.2.2.2.2.2.2.2.1
  rw [hh] at h
  exact List.map_eq_nil_iff.mp h
/-- a throw that no handler of the method's takes -/
theorem so_gtOut (C : so_Cx p R s m args meth c D cA H0 b L xs μ) (hh : μ.2.2.2.2.1 = []) : so_GT p l e R s m args below meth c D cA H0 b L xs μ h0 r (fun _ _ q h => some (.inr q, h)) := by
  intro pc lv st q h T locs ls o' hr hR ho hL hnd hlo hce hsl X
  have hrr : r = (.inr q, h) := (Option.some.inj hr).symm
  subst hrr
  have hn := so_notab C hh
  obtain ⟨w1, w2, w3, w4, w5⟩ := X.leaveThrown (so_ad H0.size b q.2) (g := F0 m pc ls (st.map (so_cv H0.size b))) rfl rfl rfl (fun x hx => by rw [hn] at hx; cases hx) C.2.2.2.2.2.2.1
  obtain ⟨-, hq9, cell, hc1, hc2, hc3⟩ := ho
  exact ⟨_, w1, _, w2, w3, ⟨rfl, hq9, cell, hc1, hc2, hc3⟩, hR, locs, w4, w5, hlo⟩
/-- a switch's targets -/
theorem am_sw_spec {α : Type} (x : Int32) (k : Nat → α) (d : Nat) : ∀ (ts : List Nat) (lo : Nat), lo + ts.length < 1000 → (∃ j t, ts[j]? = some t ∧ x = Int32.ofNat (lo + j) ∧ am_sw x k d (Int32.ofNat lo) ts = k t) ∨ ((∀ j, j < ts.length → x ≠ Int32.ofNat (lo + j)) ∧ am_sw x k d (Int32.ofNat lo) ts = k d)
  | [], lo, _ => Or.inr ⟨fun j hj => by simp at hj, rfl⟩
  | t :: ts, lo, hl => by
    by_cases hx : x = Int32.ofNat lo
    · exact Or.inl ⟨0, t, rfl, hx, by simp only [am_sw]; rw [if_pos hx]⟩
    · have e1 : am_sw x k d (Int32.ofNat lo) (t :: ts) = am_sw x k d (Int32.ofNat (lo + 1)) ts := by
        simp only [am_sw]
        rw [if_neg hx]
        congr 1
        exact (nI_succ lo).symm
      simp only [List.length_cons] at hl
      rcases am_sw_spec x k d ts (lo + 1) (by omega) with ⟨j, u, h1, h2, h3⟩ | ⟨h1, h2⟩
      · exact Or.inl ⟨j + 1, u, h1, by rw [h2]; congr 1; omega, e1.trans h3⟩
      · refine Or.inr ⟨fun j hj => ?_, e1.trans h2⟩
        cases j with
        | zero => exact hx
        | succ j => rw [show lo + (j + 1) = lo + 1 + j by omega]; exact h1 j (by simpa using hj)
end SOO
