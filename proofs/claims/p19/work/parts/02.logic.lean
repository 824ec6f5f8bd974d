/-- a function of the answer goes in -/
theorem am_stp_map {α β : Type} (f : α → β) (k : am_C → α) (kc : Nat → List Value → am_C → α) (kr : am_O → am_H → α) (no : α) (e : am_E) (c : am_C) :
    f (am_stp k kc kr no e c) = am_stp (fun c => f (k c)) (fun m as c => f (kc m as c)) (fun o h => f (kr o h)) (f no) e c := by
  obtain ⟨i, len, x, y, z, w, v⟩ := e
  obtain ⟨pc, ls, st, h⟩ := c
  have hsw : ∀ (a : Int32) (g : Nat → α) (d : Nat) (ts : List Nat) (lo : Int32), f (am_sw a g d lo ts) = am_sw a (fun t => f (g t)) d lo ts := by
    intro a g d ts
    induction ts with
    | nil => intro lo; rfl
    | cons t ts ih => intro lo; simp only [am_sw]; split; rfl; exact ih _
  cases i <;> simp only [am_stp] <;> (repeat' (first | rfl | exact hsw _ _ _ _ _ | split))
/-- two readings of one instruction that agree at its ends agree -/
theorem am_stp_rel {α β : Type} (R : α → β → Prop) {k : am_C → α} {kc : Nat → List Value → am_C → α} {kr : am_O → am_H → α} {no : α} {k' : am_C → β} {kc' : Nat → List Value → am_C → β} {kr' : am_O → am_H → β} {no' : β}
    (hk : ∀ c, R (k c) (k' c)) (hc : ∀ m as c, R (kc m as c) (kc' m as c)) (hr : ∀ o h, R (kr o h) (kr' o h)) (hn : R no no') (e : am_E) (c : am_C) : R (am_stp k kc kr no e c) (am_stp k' kc' kr' no' e c) := by
  obtain ⟨i, len, x, y, z, w, v⟩ := e
  obtain ⟨pc, ls, st, h⟩ := c
  have hsw : ∀ (a : Int32) (g : Nat → α) (g' : Nat → β) (d : Nat), (∀ t, R (g t) (g' t)) → ∀ (ts : List Nat) (lo : Int32), R (am_sw a g d lo ts) (am_sw a g' d lo ts) := by
    intro a g g' d hg ts
    induction ts with
    | nil => intro lo; exact hg _
    | cons t ts ih => intro lo; simp only [am_sw]; split; exact hg _; exact ih _
  cases i <;> simp only [am_stp] <;> (repeat' (first | exact hn | exact hk _ | exact hc _ _ _ | exact hr _ _ | exact hsw _ _ _ _ (fun _ => hk _) _ _ | split))
theorem am_run_mono {M : am_M} {call call' : Nat → List Value → am_H → Option (am_O × am_H)} (hc : ∀ m as h r, call m as h = some r → call' m as h = some r) :
    ∀ (n n' : Nat) (c : am_C) (r : am_O × am_H), n ≤ n' → am_run M call n c = some r → am_run M call' n' c = some r := by
  intro n
  induction n with
  | zero => intro n' c r _ h; cases h
  | succ n ih =>
    intro n' c r hn h
    obtain ⟨n', rfl⟩ : ∃ k, n' = k + 1 := ⟨n' - 1, by omega⟩
    refine am_stp_rel (fun (a b : Option (am_O × am_H)) => a = some r → b = some r) (fun c' => ih n' c' r (by omega)) (fun m as c' h => ?_) (fun o h hr => hr) (fun h => h) (am_fd M.1 c.1) c h
    cases hq : call m as c'.2.2.2 with
    | none => rw [hq] at h; cases h
    | some q =>
      rw [hq] at h
      rw [hc _ _ _ _ hq]
      obtain ⟨o, h'⟩ := q
      cases o with
      | inl v => exact ih n' _ r (by omega) h
      | inr q =>
        dsimp only at h ⊢
        cases hd : am_hd M.2.2 c'.1 q.1 with
        | none => rw [hd] at h; exact h
        | some t => rw [hd] at h; exact ih n' _ r (by omega) h
theorem am_ev_mono {pr : Nat → am_M} : ∀ (d d' N N' m : Nat) (as : List Value) (h : am_H) (r : am_O × am_H), d ≤ d' → N ≤ N' → am_ev pr d N m as h = some r → am_ev pr d' N' m as h = some r := by
  intro d
  induction d with
  | zero => intro d' N N' m as h r _ _ hr; cases hr
  | succ d ih =>
    intro d' N N' m as h r hd hN hr
    obtain ⟨d', rfl⟩ : ∃ k, d' = k + 1 := ⟨d' - 1, by omega⟩
    unfold am_ev at hr ⊢
    cases hok : am_ok as (pr m).2.1 with
    | false => rw [hok] at hr; cases hr
    | true =>
      rw [hok] at hr
      exact am_run_mono (fun m as h r hq => ih d' N N' m as h r (by omega) hN hq) N N' _ r hN hr
theorem am_Ex_of {pr : Nat → am_M} {d : Nat} {M : am_M} {c : am_C} {Q : am_O → am_H → Prop}
    (h : am_stp (fun c' => am_Ex pr d M c' Q) (fun m as c' => am_Rt pr d m as c'.2.2.2 (am_bk (fun c2 => am_Ex pr d M c2 Q) Q M c')) Q False (am_fd M.1 c.1) c) : am_Ex pr d M c Q := by
  have key := am_stp_rel (fun (a : Prop) (b : Nat → Option (am_O × am_H)) => a → ∃ N o h', b N = some (o, h') ∧ Q o h')
    (k := fun c' => am_Ex pr d M c' Q) (kc := fun m as c' => am_Rt pr d m as c'.2.2.2 (am_bk (fun c2 => am_Ex pr d M c2 Q) Q M c')) (kr := Q) (no := False)
    (k' := fun c' N => am_run M (am_ev pr d (N + 1)) N c')
    (kc' := fun m as c' N => match am_ev pr d (N + 1) m as c'.2.2.2 with
      | none => none
      | some (.inl v, h') => am_run M (am_ev pr d (N + 1)) N (c'.1 + 3, c'.2.1, v.toList ++ c'.2.2.1, h')
      | some (.inr q, h') => match am_hd M.2.2 c'.1 q.1 with
        | some t => am_run M (am_ev pr d (N + 1)) N (t, c'.2.1, [.ref q.2], h')
        | none => match M.2.2 with
          | [] => some (.inr q, h')
          | _ :: _ => none)
    (kr' := fun o h N => some (o, h)) (no' := fun _ => none)
    (fun c' h => by
      obtain ⟨N, o, h', e1, e2⟩ := h
      exact ⟨N, o, h', am_run_mono (fun m as h r hq => am_ev_mono d d N (N + 1) m as h r (Nat.le_refl _) (by omega) hq) N N _ _ (Nat.le_refl _) e1, e2⟩)
    (fun m as c' hR => by
      obtain ⟨N1, o, h', e1, e2⟩ := hR
      cases o with
      | inl v =>
        obtain ⟨N2, o2, h2, f1, f2⟩ := e2
        refine ⟨N1 + N2, o2, h2, ?_, f2⟩
        rw [am_ev_mono d d N1 (N1 + N2 + 1) m as _ _ (Nat.le_refl _) (by omega) e1]
        exact am_run_mono (fun m as h r hq => am_ev_mono d d N2 (N1 + N2 + 1) m as h r (Nat.le_refl _) (by omega) hq) N2 (N1 + N2) _ _ (by omega) f1
      | inr q =>
        simp only [am_bk] at e2
        cases hd : am_hd M.2.2 c'.1 q.1 with
        | none =>
          rw [hd] at e2
          dsimp only at e2
          cases hM : M.2.2 with
          | nil =>
            rw [hM] at e2
            refine ⟨N1, .inr q, h', ?_, e2⟩
            rw [am_ev_mono d d N1 (N1 + 1) m as _ _ (Nat.le_refl _) (by omega) e1]
            dsimp only
            rw [← hM, hd]
          | cons a l => rw [hM] at e2; exact e2.elim
        | some t =>
          rw [hd] at e2
          obtain ⟨N2, o2, h2, f1, f2⟩ := e2
          refine ⟨N1 + N2, o2, h2, ?_, f2⟩
          rw [am_ev_mono d d N1 (N1 + N2 + 1) m as _ _ (Nat.le_refl _) (by omega) e1]
          dsimp only
          rw [hd]
          exact am_run_mono (fun m as h r hq => am_ev_mono d d N2 (N1 + N2 + 1) m as h r (Nat.le_refl _) (by omega) hq) N2 (N1 + N2) _ _ (by omega) f1)
    (fun o h hq => ⟨0, o, h, rfl, hq⟩) (fun h => h.elim) (am_fd M.1 c.1) c h
  obtain ⟨N, o, h', e1, e2⟩ := key
  refine ⟨N + 1, o, h', ?_, e2⟩
  rw [← e1]
  have hm := am_stp_map (fun (g : Nat → Option (am_O × am_H)) => g N) (k := fun c' N => am_run M (am_ev pr d (N + 1)) N c')
    (kc := fun m as c' N => match am_ev pr d (N + 1) m as c'.2.2.2 with
      | none => none
      | some (.inl v, h') => am_run M (am_ev pr d (N + 1)) N (c'.1 + 3, c'.2.1, v.toList ++ c'.2.2.1, h')
      | some (.inr q, h') => match am_hd M.2.2 c'.1 q.1 with
        | some t => am_run M (am_ev pr d (N + 1)) N (t, c'.2.1, [.ref q.2], h')
        | none => match M.2.2 with
          | [] => some (.inr q, h')
          | _ :: _ => none)
    (kr := fun o h N => some (o, h)) (no := fun _ => none) (e := am_fd M.1 c.1) (c := c)
  exact hm.symm
theorem am_Rt_mono {pr : Nat → am_M} {d d' m : Nat} {as : List Value} {h : am_H} {Q Q' : am_O → am_H → Prop} (hd : d ≤ d') (hq : ∀ o h, Q o h → Q' o h) (hR : am_Rt pr d m as h Q) : am_Rt pr d' m as h Q' := by
  obtain ⟨N, o, h', e1, e2⟩ := hR
  exact ⟨N, o, h', am_ev_mono d d' N N m as h _ hd (Nat.le_refl _) e1, hq _ _ e2⟩
theorem am_Ex_mono {pr : Nat → am_M} {d : Nat} {M : am_M} {c : am_C} {Q Q' : am_O → am_H → Prop} (hq : ∀ o h, Q o h → Q' o h) (hR : am_Ex pr d M c Q) : am_Ex pr d M c Q' := by
  obtain ⟨N, o, h', e1, e2⟩ := hR
  exact ⟨N, o, h', e1, hq _ _ e2⟩
/-- THE RULE: what the instructions ask holds, then the method goes on to its end -/
theorem am_go {pr : Nat → am_M} {d : Nat} {M : am_M} {Q : am_O → am_H → Prop} (ss : List Nat) : ∀ (n : Nat) {c : am_C}, am_wp pr d M Q ss n c → am_Ex pr d M c Q := by
  intro n
  induction n with
  | zero => intro c h; exact h
  | succ n ih =>
    intro c h
    have hst : ∀ c2 : am_C, (match am_mem ss c2.1 with
      | true => am_Ex pr d M c2 Q
      | false => am_wp pr d M Q ss n c2) → am_Ex pr d M c2 Q := by
      intro c2 h2
      split at h2
      · exact h2
      · exact ih h2
    refine am_Ex_of (am_stp_rel (fun (a b : Prop) => a → b) (fun c' => hst c') (fun m as c' h => am_Rt_mono (Nat.le_refl _) (fun o h' hb => ?_) h) (fun o h hq => hq) (fun h => h) (am_fd M.1 c.1) c h)
    cases o with
    | inl v => exact hst _ hb
    | inr q =>
      simp only [am_bk] at hb ⊢
      split at hb <;> rename_i hq
      · exact hst _ hb
      · exact hb
/-- a method's entry -/
theorem am_in {pr : Nat → am_M} {d m : Nat} {as : List Value} {h : am_H} {Q : am_O → am_H → Prop} (hok : am_ok as (pr m).2.1 = true) (hx : am_Ex pr d (pr m) (0, am_en as (pr m).2.1, [], h) Q) : am_Rt pr (d + 1) m as h Q := by
  obtain ⟨N, o, h', e1, e2⟩ := hx
  exact ⟨N, o, h', by unfold am_ev; rw [hok]; exact e1, e2⟩
