/-! THE LAW AT ALL LISTS OF AT MOST EIGHT -/
theorem op_all (xs : Nat → Int32) : ∀ t ∈ lw_ts, lw_op xs t := by
  intro t ht
  simp only [lw_ts, List.mem_cons, List.not_mem_nil, or_false] at ht
  rcases ht with e | e | e | e | e | e | e | e | e | e | e | e | e | e | e | e | e | e | e | e | e <;> subst e
  · exact op_put xs
  · exact op_remove xs
  · exact op_fold xs
  · exact op_many xs
  · exact op_flush xs
  · exact op_merge xs
  · exact op_mark xs
  · exact op_release xs
  · exact op_get xs
  · exact op_state xs
  · exact op_range xs
  · exact op_at xs
  · exact op_run xs
  · exact op_hidden xs
  · exact op_octet xs
  · exact op_poke xs
  · exact op_badAt xs
  · exact op_cut xs
  · exact op_down xs
  · exact op_open xs
  · exact op_told xs
theorem am_law_all {L : Nat} (xs : Nat → Int32) (hL : L ≤ 8) : am_law L xs := by
  obtain ⟨N, o, h', e, q⟩ := l2_law (d := 0) (xs := xs) hL (fun j t hj _ => op_all xs t (List.mem_of_getElem? hj))
  obtain ⟨rfl, q1, q2⟩ := q
  exact ⟨_, N, h', e, q1, q2⟩
theorem whole_start {p : Program} {e : Env} {s : State} {m : MethodId} {below : List Frame} {meth : Method} {c : Code} (l : Launch) (hst : l.stackTraces = false) {b L : Nat} {xs : Nat → Int32} (hL : L ≤ 8) (C0 : lw_At p s m meth c b L xs) : W p l e room_1 s m #[Value.ref b] below meth c s.heap [] 0 0 (lw_Z below #[Value.ref b] s) (entryFrame m ([Value.ref b] : List Value).toArray 8) := so_whole hst C0 (am_law_all xs hL)
