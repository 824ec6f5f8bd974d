/-- cells and slots only grow -/
def am_up (h h' : am_H) : Prop := am_ce h ≤ am_ce h' ∧ am_sl h ≤ am_sl h'
theorem am_up.al {h h' : am_H} {k n sl : Nat} (q : am_up (am_al h k n sl) h') : am_up h h' := by
  obtain ⟨q1, q2⟩ := q
  have e1 : am_ce (am_al h k n sl) = am_ce h + 1 := rfl
  have e2 : am_sl (am_al h k n sl) = am_sl h + sl := rfl
  rw [e1] at q1
  rw [e2] at q2
  exact ⟨by omega, by omega⟩
theorem am_stp_up {k : am_C → Option (am_O × am_H)} {kc : Nat → List Value → am_C → Option (am_O × am_H)} {kr : am_O → am_H → Option (am_O × am_H)} {r : am_O × am_H} (hk : ∀ c, k c = some r → am_up c.2.2.2 r.2) (hc : ∀ m as c, kc m as c = some r → am_up c.2.2.2 r.2) (hr : ∀ o h, kr o h = some r → am_up h r.2)
    (e : am_E) (c : am_C) (h : am_stp k kc kr none e c = some r) : am_up c.2.2.2 r.2 := by
  obtain ⟨i, len, x, y, z, w, v⟩ := e
  obtain ⟨pc, ls, st, hh⟩ := c
  have hsw : ∀ (a : Int32) (st : List Value) (d : Nat) (ts : List Nat) (lo : Int32), am_sw a (fun t => k (t, ls, st, hh)) d lo ts = some r → am_up hh r.2 := by
    intro a st d ts
    induction ts with
    | nil => intro lo q; exact hk _ q
    | cons t ts ih =>
      intro lo q
      simp only [am_sw] at q
      split at q
      · exact hk _ q
      · exact ih _ q
  show am_up hh r.2
  cases i <;> simp only [am_stp] at h <;> (repeat' (first | (cases h; done) | exact hk _ h | exact hc _ _ _ h | exact hr _ _ h | exact (hk _ h).al | exact (hr _ _ h).al | exact hsw _ _ _ _ _ h | split at h))
theorem am_run_up {M : am_M} {call : Nat → List Value → am_H → Option (am_O × am_H)} (hcall : ∀ m as h o h', call m as h = some (o, h') → am_up h h') : ∀ (n : Nat) (c : am_C) (r : am_O × am_H), am_run M call n c = some r → am_up c.2.2.2 r.2
  | 0, _, _, h => by cases h
  | n + 1, c, r, h => by
    rw [am_run_succ] at h
    have ih := am_run_up (M := M) hcall n
    refine am_stp_up (fun c h => ih c r h) (fun m as c h => ?_) (fun o h q => ?_) _ _ h
    · unfold am_kk at h
      split at h
      · cases h
      · rename_i v h' hq
        have q := ih _ r h
        exact ⟨Nat.le_trans (hcall _ _ _ _ _ hq).1 q.1, Nat.le_trans (hcall _ _ _ _ _ hq).2 q.2⟩
      · rename_i v h' hq
        have q1 := hcall _ _ _ _ _ hq
        unfold am_kt at h
        split at h
        · have q := ih _ r h
          exact ⟨Nat.le_trans q1.1 q.1, Nat.le_trans q1.2 q.2⟩
        · split at h
          · cases h
            exact q1
          · cases h
    · cases q
      exact ⟨Nat.le_refl _, Nat.le_refl _⟩
