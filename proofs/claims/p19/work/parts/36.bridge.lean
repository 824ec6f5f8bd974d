/-! WHAT IS LEFT: the abstract machine, begun at the law, comes to 'true' within the room -/
def am_law (L : Nat) (xs : Nat → Int32) : Prop := ∃ d N h', am_run (nm_pr nm_n) (am_ev nm_pr d N) N (0, am_en [.ref 1] 8, [], am_0 L xs) = some (.inl (some (.int 1)), h') ∧ am_ce h' ≤ 601024 ∧ am_sl h' ≤ 7293000
theorem so_whole {p : Program} {l : Launch} {e : Env} {s : State} {m : MethodId} {below : List Frame} {meth : Method} {c : Code} {b L : Nat} {xs : Nat → Int32} (hst : l.stackTraces = false) (C0 : lw_At p s m meth c b L xs) (h : am_law L xs) : W p l e room_1 s m #[Value.ref b] below meth c s.heap [] 0 0 (lw_Z below #[Value.ref b] s) (entryFrame m ([Value.ref b] : List Value).toArray 8) := by
  obtain ⟨D, cA, hK⟩ := so_K0 C0
  obtain ⟨hx, hb, hr, hml, hown, hts, hX, hbl, hlocks, hgv, hnm, htab⟩ := id C0
  have hTB : ∀ w ∈ so_TB, w.before #[Value.ref b] s = true := fun w hw => hts w (List.mem_filter.mp hw).1
  obtain ⟨d, N, h', hrun, hc1, hc2⟩ := h
  have C : so_Cx p room_1 s m #[Value.ref b] meth c D cA s.heap b L xs (nm_mi nm_n) :=
    ⟨hx, hb, hml, hown, hTB, hK, hlocks, hr, hnm, Nat.le_of_ble_eq_true rfl, Nat.le_of_ble_eq_true rfl, by rw [htab]; rfl, Nat.le_refl _⟩
  have G := so_runs (p := p) (e := e) (below := below) (h0 := am_0 L xs) (r := (.inl (some (.int 1)), h')) ck_La_law (Nat.lt_succ_self nm_n) C hst (fun m' as h o h' hm hq => so_met hst d N m' as h o h' hm hq) (show am_ce h' - 0 ≤ 601024 by omega) (show am_sl h' - 0 ≤ 7293000 by omega) N
  obtain ⟨e1, e2⟩ := so_ent (B := s.heap.size) (b := b) (n := 8) (as := [.ref 1]) rfl
  have q := G 0 _ [] (am_0 L xs) s.heap [] _ hrun so_Rp0 e1 e2 (fun q hq => nomatch hq) (Nat.le_refl _) (Nat.le_refl _)
  rw [lg_entry_eq]
  refine W.imp (fun t ht => ?_) q
  obtain ⟨o', t1, t2, ho, -, Lc, hW, hsame, hLc⟩ := ht
  refine ⟨o', t1, t2, ho, ⟨_, ho⟩, hW, hsame.weaken (fun x hx hlt => absurd (hLc x hx) (Nat.not_le.mpr hlt)) (show am_ce h' - 0 ≤ 601024 by omega) (show am_sl h' - 0 ≤ 7293000 by omega)⟩
