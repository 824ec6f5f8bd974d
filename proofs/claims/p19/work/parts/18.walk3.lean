section SOY
variable {p : Program} {l : Launch} {e : Env} {R : Room} {s : State} {m : MethodId} {args : Array Value} {below : List Frame} {meth : Method} {c : Code}
variable {D : va_G} {cA : Nat → ClassId} {H0 : Heap} {b L : Nat} {xs : Nat → Int32} {μ : so_I} {h0 : am_H} {r : am_O × am_H}
theorem so_cw_get {i : Nat} {C : String} {T : u_T} {N : Nat} (h : nm_cl[i]? = some (C, T, N)) : Cond.instantiable C N ∈ so_TB ∧ Cond.initialized C ∈ so_TB ∧ (∀ w ∈ u_ws C T N, w ∈ so_TB) ∧ (∀ k, k < N → parseFieldDescriptor (T k).2.2.1 = some (nm_ty i k)) ∧ (∀ a, a < N → ∀ b, b < N → a ≠ b → (T a).2.1 ≠ (T b).2.1) ∧
    (∀ k, k < N → nm_ty i k = .int ∨ nm_ty i k = .long ∨ nm_ty i k = .boolean ∨ nm_ty i k = .byte ∨ (∃ C, nm_ty i k = .object C) ∨ ∃ t, nm_ty i k = .array t) := by
  have hi : i < nm_cl.length := (List.getElem?_eq_some_iff.mp h).1
  have h1 : so_cw i = true := List.all_eq_true.mp so_cw_ok i (List.mem_range.mpr hi)
  unfold so_cw at h1
  rw [h] at h1
  split at h1
  · rename_i C' T' N' a b fw e1 e2 e3
    cases e1
    simp only [Bool.and_eq_true, decide_eq_true_eq, List.all_eq_true, List.mem_range, Bool.or_eq_true] at h1
    obtain ⟨⟨⟨h2, h3⟩, h4⟩, h5⟩ := h1
    refine ⟨so_at_TB h2 rfl, so_at_TB h3 rfl, fun w hw => ?_, fun k hk => (h5 k hk).1.1.2, fun a ha b hb hab => ?_, fun k hk => ?_⟩
    · obtain ⟨k, hk, rfl⟩ := List.mem_map.mp hw
      have := h5 k (List.mem_range.mp hk)
      exact so_at_TB this.1.1.1.1 this.1.1.1.2
    · rcases (h5 a ha).1.2 b hb with q | q
      · exact absurd q hab
      · exact q
    · have := (h5 k hk).2
      split at this <;> rename_i q
      · exact Or.inl q
      · exact Or.inr (Or.inl q)
      · exact Or.inr (Or.inr (Or.inl q))
      · exact Or.inr (Or.inr (Or.inr (Or.inl q)))
      · exact Or.inr (Or.inr (Or.inr (Or.inr (Or.inl ⟨_, q⟩))))
      · exact Or.inr (Or.inr (Or.inr (Or.inr (Or.inr ⟨_, q⟩))))
      · cases this
  · cases h1
/-- what the check of a field gives -/
theorem so_ckf_get {idx x kd y : Nat} (h : so_ckf μ idx x kd y = true) : kd ≠ 0 ∧ kd < 99 ∧ ∃ (C : String) (T : u_T) (N : Nat) (ref : String), nm_cl[kd - 1]? = some (C, T, N) ∧ x < N ∧ Cond.fieldLink (so_ow μ) idx ref (T x).2.1 (T x).2.2.1 ∈ so_TB ∧ ((T x).1 = ref ∨ Cond.sameField ref (T x).1 (T x).2.1 (T x).2.2.1 ∈ so_TB) ∧ so_tg (nm_ty (kd - 1) x) = y := by
  unfold so_ckf at h
  split at h
  · rename_i o i ref n d hp
    simp only [Bool.and_eq_true, decide_eq_true_eq] at h
    obtain ⟨⟨⟨⟨rfl, rfl⟩, h1⟩, h2⟩, h3⟩ := h
    refine ⟨h1, h2, ?_⟩
    split at h3
    · rename_i C T N hc
      simp only [Bool.and_eq_true, decide_eq_true_eq, Bool.or_eq_true] at h3
      obtain ⟨⟨⟨⟨h4, rfl⟩, rfl⟩, h5⟩, h6⟩ := h3
      refine ⟨C, T, N, ref, hc, h4, so_pl_mem hp, ?_, h6⟩
      rcases h5 with q | q
      · exact Or.inl q
      · exact Or.inr (so_same_mem q)
    · cases h3
  · cases h
theorem sw_iinc {k : am_C → Option (am_O × am_H)} {kc : Nat → List Value → am_C → Option (am_O × am_H)} {kr : am_O → am_H → Option (am_O × am_H)} {len x y z w : Nat} {v : Value} {pc : Nat} {lv st : List Value} {h : am_H} {H : Heap} {locs : List Loc} {ls : Array Slot} (C : so_Cx p R s m args meth c D cA H0 b L xs μ) (G : so_G p l e R s m args below meth c D cA H0 b L xs μ h0 r k) (hR : so_Rp D cA H0 b L xs h H) (hL : so_L H0.size b ls μ.2.2.1 lv) (hnd : so_nd lv) (hlo : ∀ q ∈ locs, H0.size ≤ q.base) (hce : am_ce h0 ≤ am_ce h) (hsl : am_sl h0 ≤ am_sl h) {n : Nat} {q : Int} (hck : so_ck μ pc (.iinc n q, len, x, y, z, w, v) = true) (hr : am_stp k kc kr none (.iinc n q, len, x, y, z, w, v) (pc, lv, st, h) = some r) : W p l e R s m args below meth c H locs (am_ce h - am_ce h0) (am_sl h - am_sl h0) (so_Z D cA H0 b L xs below s h0 r) (F0 m pc ls (st.map (so_cv H0.size b))) := by
  have hck : (decide (decode μ.2.1 pc = .ok (.iinc n q, len)) && (decide (len = 3) && decide (x = n) && decide (x < μ.2.2.1) && decide (v = .int (Int32.ofInt q)))) = true := hck
  simp only [Bool.and_eq_true, decide_eq_true_eq] at hck
  obtain ⟨hdg, ⟨⟨rfl, rfl⟩, hx⟩, rfl⟩ := hck
  simp only [am_stp] at hr
  split at hr
  · rename_i a b' hv hb
    cases hb
    have hl := hL.get hv (fun q => by cases q)
    have hxl : x < lv.length := by
      rcases Nat.lt_or_ge x lv.length with q | q
      · exact q
      · rw [am_nth_out lv x q] at hv
        cases hv
    have hm : (x, so_cv H0.size b (.int a)) ∈ so_al H0.size b lv := so_al_mem.mpr ⟨hxl, (by rw [hv]; exact fun q => (by cases q)), (by rw [hv])⟩
    obtain ⟨k0, hk0⟩ := List.getElem?_of_mem hm
    refine lv_iinc C.1 C.2.1 hdg hL.2 hk0 rfl hx rfl (fun ls' hl' => ?_)
    exact G _ _ _ _ _ _ _ hr hR (so_L.st1 (v := .int (a + Int32.ofInt q)) hL.1 hnd hx hl') (hnd.st1 _ (fun q hq => by cases hq)) hlo hce hsl
  · cases hr
theorem sw_getfield {k : am_C → Option (am_O × am_H)} {kc : Nat → List Value → am_C → Option (am_O × am_H)} {kr : am_O → am_H → Option (am_O × am_H)} {len x y z w : Nat} {v : Value} {pc : Nat} {lv st : List Value} {h : am_H} {H : Heap} {locs : List Loc} {ls : Array Slot} (C : so_Cx p R s m args meth c D cA H0 b L xs μ) (G : so_G p l e R s m args below meth c D cA H0 b L xs μ h0 r k) (hR : so_Rp D cA H0 b L xs h H) (hL : so_L H0.size b ls μ.2.2.1 lv) (hnd : so_nd lv) (hlo : ∀ q ∈ locs, H0.size ≤ q.base) (hce : am_ce h0 ≤ am_ce h) (hsl : am_sl h0 ≤ am_sl h) {n : Nat} (hck : so_ck μ pc (.getfield n, len, x, y, z, w, v) = true) (hr : am_stp k kc kr none (.getfield n, len, x, y, z, w, v) (pc, lv, st, h) = some r) : W p l e R s m args below meth c H locs (am_ce h - am_ce h0) (am_sl h - am_sl h0) (so_Z D cA H0 b L xs below s h0 r) (F0 m pc ls (st.map (so_cv H0.size b))) := by
  have hck : (decide (decode μ.2.1 pc = .ok (.getfield n, len)) && (decide (len = 3) && so_ckf μ n x z y && so_ckf μ n x w y)) = true := hck
  simp only [Bool.and_eq_true, decide_eq_true_eq] at hck
  obtain ⟨hdg, ⟨rfl, h1⟩, h2⟩ := hck
  simp only [am_stp] at hr
  split at hr
  · rename_i a st'
    split at hr
    · rename_i hk
      obtain ⟨kd, hkd, hf⟩ : ∃ kd, am_kd h a = kd ∧ so_ckf μ n x kd y = true := by
        rcases hk with hk | hk
        · exact ⟨z, hk, h1⟩
        · exact ⟨w, hk, h2⟩
      obtain ⟨g1, g2, C', T, N, ref, g3, g4, g5, g6, g7⟩ := so_ckf_get hf
      exact so_get C.1 C.2.1 C.2.2.2.2.1 C.2.2.2.1 C.2.2.2.2.2.1 hR hkd g1 g2 g3 (so_cw_get g3).2.2.1 g4 g5 g6 g7 hdg (G _ _ _ _ _ _ _ hr hR hL hnd hlo hce hsl)
    · cases hr
  · cases hr
theorem sw_putfield {k : am_C → Option (am_O × am_H)} {kc : Nat → List Value → am_C → Option (am_O × am_H)} {kr : am_O → am_H → Option (am_O × am_H)} {len x y z w : Nat} {v : Value} {pc : Nat} {lv st : List Value} {h : am_H} {H : Heap} {locs : List Loc} {ls : Array Slot} (C : so_Cx p R s m args meth c D cA H0 b L xs μ) (G : so_G p l e R s m args below meth c D cA H0 b L xs μ h0 r k) (hR : so_Rp D cA H0 b L xs h H) (hL : so_L H0.size b ls μ.2.2.1 lv) (hnd : so_nd lv) (hlo : ∀ q ∈ locs, H0.size ≤ q.base) (hce : am_ce h0 ≤ am_ce h) (hsl : am_sl h0 ≤ am_sl h) {n : Nat} (hck : so_ck μ pc (.putfield n, len, x, y, z, w, v) = true) (hr : am_stp k kc kr none (.putfield n, len, x, y, z, w, v) (pc, lv, st, h) = some r) : W p l e R s m args below meth c H locs (am_ce h - am_ce h0) (am_sl h - am_sl h0) (so_Z D cA H0 b L xs below s h0 r) (F0 m pc ls (st.map (so_cv H0.size b))) := by
  have hck : (decide (decode μ.2.1 pc = .ok (.putfield n, len)) && (decide (len = 3) && so_ckf μ n x z (if y = 3 then 0 else y) && so_ckf μ n x w (if y = 3 then 0 else y) && so_ckp μ x z y && so_ckp μ x w y)) = true := hck
  simp only [Bool.and_eq_true, decide_eq_true_eq] at hck
  obtain ⟨hdg, ⟨⟨⟨rfl, h1⟩, h2⟩, h3⟩, h4⟩ := hck
  simp only [am_stp] at hr
  have hw : ∀ (a kd : Nat) (v' : Value) (st' : List Value) (h' : am_H), am_kd h a = kd → so_ckf μ n x kd (if y = 3 then 0 else y) = true → so_ckp μ x kd y = true → k (pc + 3, lv, st', h') = some r →
      (narrow (nm_ty (kd - 1) x) (so_cv H0.size b v') = so_cv H0.size b v' ∧ fits (nm_ty (kd - 1) x) (so_cv H0.size b v') = true) → am_nx h' = am_nx h → am_ce h' = am_ce h → am_sl h' = am_sl h → (∀ k, am_kd h' k = am_kd h k) → (∀ k, am_ln h' k = am_ln h k) →
      (∀ k, k ≠ a → ∀ j ty, am_fv h' k j ty = am_fv h k j ty) → (∀ k t, (k = x → t = (if y = 3 then 0 else y)) → am_fv h' a k t = if k = x then v' else am_fv h a k t) →
      W p l e R s m args below meth c H locs (am_ce h - am_ce h0) (am_sl h - am_sl h0) (so_Z D cA H0 b L xs below s h0 r) (F0 m pc ls (so_cv H0.size b v' :: so_cv H0.size b (.ref a) :: st'.map (so_cv H0.size b))) := by
    intro a kd v' st' h' hkd hf hp hr' hn e1 e1c e1s e2 e3 e4 e5
    obtain ⟨g1, g2, C', T, N, ref, g3, g4, g5, g6, g7⟩ := so_ckf_get hf
    obtain ⟨-, -, q1, q2, q3, -⟩ := so_cw_get g3
    have hfin : (T x).2.2.2 = false ∨ (meth.name = "<init>" ∧ (T x).1 = so_ow μ) := by
      unfold so_ckp at hp
      rw [g3] at hp
      simp only [Bool.and_eq_true, decide_eq_true_eq, Bool.or_eq_true] at hp
      rcases hp.1 with q | q
      · exact Or.inl q
      · exact Or.inr ⟨by rw [C.2.2.2.2.2.2.2.2.1]; exact q.1, q.2⟩
    refine so_put C.1 C.2.1 C.2.2.2.2.1 C.2.2.2.1 C.2.2.2.2.2.1 hR hkd g1 g2 g3 q1 q2 q3 g4 g5 g6 hfin hn.1 hn.2 e1 e2 e3 e4 (fun k _ => e5 k _ (fun hk => by rw [hk]; exact g7)) hlo hdg (fun H1 locs1 hR1 hl1 => ?_)
    have q := G _ _ _ _ H1 locs1 ls hr' hR1 hL hnd hl1 (by rw [e1c]; exact hce) (by rw [e1s]; exact hsl)
    rw [e1c, e1s] at q
    exact q
  have hty : ∀ kd yy, so_ckp μ x kd yy = true → (yy = 0 → nm_ty (kd - 1) x = .int) ∧ (yy = 1 → nm_ty (kd - 1) x = .long) ∧ (yy = 3 → nm_ty (kd - 1) x = .boolean) := by
    intro kd yy hp
    unfold so_ckp at hp
    split at hp
    · simp only [Bool.and_eq_true] at hp
      refine ⟨fun q => ?_, fun q => ?_, fun q => ?_⟩ <;> subst q <;> simpa using hp.2
    · cases hp
  have hrf : ∀ kd, so_ckf μ n x kd (if y = 3 then 0 else y) = true → y = 2 → (∃ C, nm_ty (kd - 1) x = .object C) ∨ ∃ t, nm_ty (kd - 1) x = .array t := by
    intro kd hf hy
    obtain ⟨g1, g2, C', T, N, ref, g3, g4, g5, g6, g7⟩ := so_ckf_get hf
    subst hy
    rcases (so_cw_get g3).2.2.2.2.2 x g4 with q | q | q | q | q | q
    · rw [q] at g7; cases g7
    · rw [q] at g7; cases g7
    · rw [q] at g7; cases g7
    · rw [q] at g7; cases g7
    · exact Or.inl q
    · exact Or.inr q
  split at hr
  · rename_i b' a st'
    split at hr
    · rename_i hk
      obtain ⟨kd, hkd, hf, hp⟩ : ∃ kd, am_kd h a = kd ∧ so_ckf μ n x kd (if y = 3 then 0 else y) = true ∧ so_ckp μ x kd y = true := by
        rcases hk with hk | hk
        · exact ⟨z, hk, h1, h3⟩
        · exact ⟨w, hk, h2, h4⟩
      · skip
        split at hr
        · rename_i hy
          exact hw a kd (.int b') st' _ hkd hf hp hr (by rw [(hty kd y hp).1 hy]; exact ⟨rfl, rfl⟩) rfl rfl rfl (fun _ => rfl) (fun _ => rfl) (fun k hk j ty => so_fvI' hk) (fun k t ht => by
            by_cases hkx : k = x
            · rw [so_fvI (by rw [ht hkx, hy]; decide)]
            · by_cases h12 : t = 1 ∨ t = 2
              · rw [so_fvI2 h12, if_neg hkx]
              · exact so_fvI ⟨fun q => h12 (Or.inl q), fun q => h12 (Or.inr q)⟩)
        · split at hr
          · rename_i hy
            split at hr
            · rename_i hb
              exact hw a kd (.int b') st' _ hkd hf hp hr (by rw [(hty kd y hp).2.2 hy]; rcases hb with rfl | rfl; exact ⟨(show narrow .boolean (.int 0) = .int 0 by decide +kernel), (show fits .boolean (.int 0) = true by decide +kernel)⟩; exact ⟨(show narrow .boolean (.int 1) = .int 1 by decide +kernel), (show fits .boolean (.int 1) = true by decide +kernel)⟩) rfl rfl rfl (fun _ => rfl) (fun _ => rfl) (fun k hk j ty => so_fvI' hk) (fun k t ht => by
                by_cases hkx : k = x
                · rw [so_fvI (by rw [ht hkx, hy]; decide)]
                · by_cases h12 : t = 1 ∨ t = 2
                  · rw [so_fvI2 h12, if_neg hkx]
                  · exact so_fvI ⟨fun q => h12 (Or.inl q), fun q => h12 (Or.inr q)⟩)
            · cases hr
          · cases hr
    · cases hr
  · rename_i b' a st'
    split at hr
    · rename_i hk
      obtain ⟨kd, hkd, hf, hp⟩ : ∃ kd, am_kd h a = kd ∧ so_ckf μ n x kd (if y = 3 then 0 else y) = true ∧ so_ckp μ x kd y = true := by
        rcases hk with hk | hk
        · exact ⟨z, hk, h1, h3⟩
        · exact ⟨w, hk, h2, h4⟩
      · skip
        split at hr
        · rename_i hy
          exact hw a kd (.long b') st' _ hkd hf hp hr (by rw [(hty kd y hp).2.1 hy]; exact ⟨rfl, rfl⟩) rfl rfl rfl (fun _ => rfl) (fun _ => rfl) (fun k hk j ty => so_fvL' hk) (fun k t ht => by
            by_cases hkx : k = x
            · rw [ht hkx, hy]; exact so_fvL
            · by_cases h1 : t = 1
              · rw [h1]; exact so_fvL
              · rw [so_fvL2 h1, if_neg hkx])
        · cases hr
    · cases hr
  · rename_i b' a st'
    split at hr
    · rename_i hk
      obtain ⟨kd, hkd, hf, hp⟩ : ∃ kd, am_kd h a = kd ∧ so_ckf μ n x kd (if y = 3 then 0 else y) = true ∧ so_ckp μ x kd y = true := by
        rcases hk with hk | hk
        · exact ⟨z, hk, h1, h3⟩
        · exact ⟨w, hk, h2, h4⟩
      · skip
        split at hr
        · rename_i hy
          exact hw a kd (.ref b') st' _ hkd hf hp hr (by rcases hrf kd hf hy with ⟨C', q⟩ | ⟨t, q⟩ <;> rw [q] <;> cases b' <;> exact ⟨rfl, rfl⟩) rfl rfl rfl (fun _ => rfl) (fun _ => rfl) (fun k hk j ty => so_fvR' hk) (fun k t ht => by
            by_cases hkx : k = x
            · rw [ht hkx, hy]; exact so_fvR
            · by_cases h1 : t = 2
              · rw [h1]; exact so_fvR
              · rw [so_fvR2 h1, if_neg hkx])
        · cases hr
    · cases hr
  · cases hr
end SOY
