/-- how a run goes on behind a throw -/
def am_kt (M : am_M) (k : am_C → Option (am_O × am_H)) (pc : Nat) (lv : List Value) (q : Nat × Nat) (h : am_H) : Option (am_O × am_H) := match am_hd M.2.2 pc q.1 with
  | some t => k (t, lv, [.ref q.2], h)
  | none => match M.2.2 with
    | [] => some (.inr q, h)
    | _ :: _ => none
/-- .. and behind a call -/
def am_kk (M : am_M) (call : Nat → List Value → am_H → Option (am_O × am_H)) (k : am_C → Option (am_O × am_H)) (m : Nat) (as : List Value) (c : am_C) : Option (am_O × am_H) := match call m as c.2.2.2 with
  | none => none
  | some (.inl v, h') => k (c.1 + 3, c.2.1, v.toList ++ c.2.2.1, h')
  | some (.inr q, h') => am_kt M k c.1 c.2.1 q h'
theorem am_run_succ {M : am_M} {call : Nat → List Value → am_H → Option (am_O × am_H)} {n : Nat} {c : am_C} : am_run M call (n + 1) c = am_stp (am_run M call n) (am_kk M call (am_run M call n)) (fun o h => some (o, h)) none (am_fd M.1 c.1) c := rfl
section SOZ
variable {p : Program} {l : Launch} {e : Env} {R : Room} {s : State} {m : MethodId} {args : Array Value} {below : List Frame} {meth : Method} {c : Code}
variable {D : va_G} {cA : Nat → ClassId} {H0 : Heap} {b L : Nat} {xs : Nat → Int32} {μ : so_I} {h0 : am_H} {r : am_O × am_H}
theorem so_sm : Cond.sameMethod "SortedRuns$Stream" "SortedRuns$Stream" "step" "()V" ∈ so_TB := so_TB_in (by decide +kernel) rfl
theorem sw_invokestatic {k : am_C → Option (am_O × am_H)} {kc : Nat → List Value → am_C → Option (am_O × am_H)} {kr : am_O → am_H → Option (am_O × am_H)} {len x y z w : Nat} {v : Value} {pc : Nat} {lv st : List Value} {h : am_H} {H : Heap} {locs : List Loc} {ls : Array Slot} (C : so_Cx p R s m args meth c D cA H0 b L xs μ) (G : so_G p l e R s m args below meth c D cA H0 b L xs μ h0 r k) (hR : so_Rp D cA H0 b L xs h H) (hL : so_L H0.size b ls μ.2.2.1 lv) (hnd : so_nd lv) (hlo : ∀ q ∈ locs, H0.size ≤ q.base) (hce : am_ce h0 ≤ am_ce h) (hsl : am_sl h0 ≤ am_sl h) {n : Nat} (hz : z = 0 ∨ 3 ≤ z) {M : am_M} {call : Nat → List Value → am_H → Option (am_O × am_H)} (GT : so_GT p l e R s m args below meth c D cA H0 b L xs μ h0 r (am_kt M k)) (hcall : ∀ m' as h o h', m' < nm_n → call m' as h = some (o, h') → so_Met l D cA H0 b L xs m' as h o h' ∧ am_ce h ≤ am_ce h' ∧ am_sl h ≤ am_sl h') (hkc : kc = am_kk M call k)
    (hmk : ∀ c, k c = some r → am_ce c.2.2.2 ≤ am_ce r.2 ∧ am_sl c.2.2.2 ≤ am_sl r.2) (hmt : ∀ pc lv q h, am_kt M k pc lv q h = some r → am_ce h ≤ am_ce r.2 ∧ am_sl h ≤ am_sl r.2) (hb1 : am_ce r.2 - am_ce h0 ≤ R.cells) (hb2 : am_sl r.2 - am_sl h0 ≤ R.slots) (hck : so_ck μ pc (.invokestatic n, len, x, y, z, w, v) = true) (hr : am_stp k kc kr none (.invokestatic n, len, x, y, z, w, v) (pc, lv, st, h) = some r) : W p l e R s m args below meth c H locs (am_ce h - am_ce h0) (am_sl h - am_sl h0) (so_Z D cA H0 b L xs below s h0 r) (F0 m pc ls (st.map (so_cv H0.size b))) := by
  have hck : (decide (decode μ.2.1 pc = .ok (.invokestatic n, len)) && (decide (len = 3) && (so_cke μ x && decide (so_pl (so_on μ) n = some (.methodLink (so_ow μ) n (nm_mi x).1)) && decide ((nm_mw[x]?).map (·.2.1) = some 0) && decide (so_pn (nm_mi x).1.desc = some y)))) = true := by
    rcases hz with rfl | hz
    · exact hck
    · obtain ⟨z', rfl⟩ : ∃ z', z = z' + 3 := ⟨z - 3, by omega⟩
      exact hck
  simp only [Bool.and_eq_true, decide_eq_true_eq] at hck
  obtain ⟨hdg, rfl, ⟨⟨h1, h2⟩, h3⟩, h4⟩ := hck
  replace hr : (match am_tk y [] st with
      | some (as, st) => if am_wt st ≤ 8 then kc x as (pc, lv, st, h) else none
      | none => none) = some r := by
    rcases hz with rfl | hz
    · exact hr
    · obtain ⟨z', rfl⟩ : ∃ z', z = z' + 3 := ⟨z - 3, by omega⟩
      exact hr
  split at hr
  · rename_i as st' ht
    split at hr
    · rename_i hwt
      subst hkc
      obtain ⟨e1, e2⟩ := am_tk_nil ht
      subst e1
      have hx : x < nm_n := by
        unfold so_cke at h1
        simp only [Bool.and_eq_true, decide_eq_true_eq] at h1
        exact h1.1.1
      exact so_inv (ig := .invokestatic n) C G GT hcall hmk hmt hb1 hb2 hR hL hnd hlo hce hsl h1 hwt hdg (so_lkS C hx h2 h3 h4 e2 hdg) hr
    · cases hr
  · cases hr
end SOZ
