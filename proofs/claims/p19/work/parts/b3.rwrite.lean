/-! THE REFERENCE WRITES A RUN -/
def pg_M (P : Nat) (h : am_H) (p : Nat) (C : List ent) : Prop := 2 ≤ p ∧ p < P ∧ C ≠ [] ∧ C.length < 60 ∧ (∀ e ∈ C, eo e) ∧ am_I h 73 (p * 128 + 4) &&& 255 = nI C.length ∧ mo_Rt h p ∧ ∃ u, u ≤ 120 ∧ el (fun j => am_I h 73 (p * 128 + j)) 5 none C u
theorem pg_M.mono {P p : Nat} {h h' : am_H} {C : List ent} (a : pg_M P h p C) (e : ∀ j, j < 128 → am_I h' 73 (p * 128 + j) = am_I h 73 (p * 128 + j)) : pg_M P h' p C := by
  obtain ⟨a1, a2, a3, a4, a5, a6, a7, u, a8, a9⟩ := a
  refine ⟨a1, a2, a3, a4, a5, by rw [e 4 (by omega)]; exact a6, fun j hj => ?_, u, a8, el_ext (fun j h1 h2 => e j (by omega)) a9⟩
  have e1 : sm_F (fun j => am_I h' 73 (128 * p + j)) (nI p).toInt64 120 = sm_F (fun j => am_I h 73 (128 * p + j)) (nI p).toInt64 120 := sm_F_ext 120 (fun j hj => by
    have := e j (by omega)
    rw [Nat.mul_comm p 128] at this
    exact this)
  rw [e1]
  have := e (120 + j) (by omega)
  rw [show p * 128 + (120 + j) = 128 * p + 120 + j by omega] at this
  rw [this]
  exact a7 j hj
/-- a page that was written of a draft -/
theorem pg_M.of {P p u : Nat} {h h' : am_H} {C : List ent} (hp2 : 2 ≤ p) (hp : p < P) (hC : C ≠ []) (hu : u ≤ 120) (hE : el (am_I h 91) 5 none C u) (ho : ∀ e ∈ C, eo e) (h4 : am_I h 91 4 &&& 255 = nI C.length) (w : am_I h' 73 = (fun j => if p * 128 ≤ j ∧ j < p * 128 + 128 then am_b8 (if 120 ≤ j - p * 128 then sm_O (sm_F (am_I h 91) (nI p).toInt64 120) (j - p * 128 - 120) else am_I h 91 (j - p * 128)) else am_I h 73 j)) : pg_M P h' p C := by
  have hle := el_le hE
  have b : ∀ j, j < 120 → am_I h' 73 (p * 128 + j) = am_b8 (am_I h 91 j) := fun j hj => by
    rw [w]
    dsimp only
    rw [if_pos (by omega), show p * 128 + j - p * 128 = j by omega, if_neg (by omega)]
  refine ⟨hp2, hp, hC, by omega, ho, by rw [b 4 (by omega), b8_and]; exact h4, fun j hj => ?_, u, hu, ?_⟩
  · have e1 : sm_F (fun j => am_I h' 73 (128 * p + j)) (nI p).toInt64 120 = sm_F (am_I h 91) (nI p).toInt64 120 := by
      rw [← sm_F_b8 (f := am_I h 91)]
      exact sm_F_ext 120 (fun j hj => by
        have := b j hj
        rw [Nat.mul_comm p 128] at this
        exact this)
    rw [e1, w]
    dsimp only
    rw [if_pos (by omega), if_pos (by omega), b8_and, show 128 * p + 120 + j - p * 128 - 120 = j by omega]
    exact sm_O_and _ _
  · exact el_ext (fun j j1 j2 => b j (by omega)) (el_b8 ho hE)
theorem lk_app : ∀ (A B : List ent) (p : Option Int64), B ≠ [] → lk p (A ++ B) = lk none B
  | [], B, p, hB => by
    cases B with
    | nil => exact absurd rfl hB
    | cons x B => rfl
  | a :: A, B, p, hB => lk_app A B (some a.1) hB
/-- entries come onto the draft as long as they fit -/
theorem l2_draft_loop {d s k n N : Nat} {lv x4 : Int32} {L pre : List ent} {h : am_H} {Q : am_O → am_H → Prop} (K : ky_S h L) (hO : ∀ e ∈ L, eo e)
    (hx : ∀ g C u rest, pre ++ C ++ rest = L → am_fi [91] h g → am_L g = am_L h → u ≤ 120 → el (am_I g 91) 5 none C u → N = np u (lk none C) rest → (rest = [] ∨ ∃ e r, rest = e :: r ∧ ¬ u + es (sh1 (lk none C) e.1) e ≤ 120) → am_Ex nm_pr (d + 3) mt_Mo_writeRun (268, [.ref 72, .int lv, .int (nI n), .int (nI s), .int x4, .int (nI (pre ++ C).length), .int (nI k), .int (nI u), .int (nI C.length)], [], g) Q) : ∀ (rest C : List ent) (u : Nat) (g : am_H), pre ++ C ++ rest = L → am_fi [91] h g → am_L g = am_L h → u ≤ 120 → el (am_I g 91) 5 none C u → N = np u (lk none C) rest →
    am_Ex nm_pr (d + 3) mt_Mo_writeRun (206, [.ref 72, .int lv, .int (nI n), .int (nI s), .int x4, .int (nI (pre ++ C).length), .int (nI k), .int (nI u), .int (nI C.length)], [], g) Q
  | [], C, u, g, hL, F, FL, hu, hE, hN => by
    obtain ⟨hS, i31, hl, T⟩ := id K
    have G := hS.fi F
    have e : (pre ++ C).length = L.length := by rw [← hL]; simp
    have l1 : ¬ nI (pre ++ C).length < nI L.length := nI_nlt (by omega) (by omega)
    have i31' : am_I g 72 31 = nI L.length := by rw [F.2.2.2.2.2.2.1 72 (by simp)]; exact i31
    refine am_go [215, 268] 4 ?_
    simp only [am_wp, am_stp, am_en, am_as, am_pad, am_nth, am_set, am_st1, am_st2, am_kl, am_kill, am_mem, am_fv, am_tk, am_wt, am_bk, Option.toList, List.cons_append, List.nil_append, Nat.reduceAdd, Nat.reduceEqDiff, Nat.reduceLeDiff, reduceIte, Nat.reduceLT, or_self, true_or, or_true, if_true, if_false, and_self, and_true, true_and, not_false_eq_true, not_true_eq_false, fd_Mo_writeRun_206, fd_Mo_writeRun_208, fd_Mo_writeRun_209, fd_Mo_writeRun_212, G.1, i31', l1]
    exact hx g C u [] hL F FL hu hE hN (Or.inl rfl)
  | e :: rest, C, u, g, hL, F, FL, hu, hE, hN => by
    obtain ⟨hS, i31, hl, T⟩ := id K
    have G := hS.fi F
    have T' : tr_S g 92 93 94 L := T.fi F (by simp)
    have hlen : (pre ++ C).length < L.length := by rw [← hL]; simp
    have hget : L[(pre ++ C).length]? = some e := by rw [← hL]; simp
    obtain ⟨t1, t2, t3⟩ := T' _ _ hget
    have he : eo e := hO e (by rw [← hL]; simp)
    have l1 : nI (pre ++ C).length < nI L.length := nI_lt hlen (by omega)
    have i31' : am_I g 72 31 = nI L.length := by rw [F.2.2.2.2.2.2.1 72 (by simp)]; exact i31
    have hle := el_le hE
    have hE20 := es_le (sh1 (lk none C) e.1) e
    have hs : sp_s g (pre ++ C).length (if C = [] then 1 else 0) e (sh1 (lk none C) e.1) := by
      by_cases hc : C = []
      · rw [if_pos hc, hc]; exact Or.inl ⟨rfl, rfl⟩
      · rw [if_neg hc]
        have hne : pre ++ C ≠ [] := by simp [hc]
        have := sp_of T' hL hne
        rw [lk_app pre C none hc] at this
        exact this
    have cl : (nI C.length = 0) = (C = []) := by
      apply propext
      constructor
      · intro z
        by_cases hc : C = []
        · exact hc
        · exact absurd z (nI_ne0 (List.length_pos_iff.mpr hc) (by omega))
      · intro z; rw [z]; rfl
    -- it is laid
    have lay : u + es (sh1 (lk none C) e.1) e ≤ 120 → ∀ f : Int32, f = (if C = [] then 1 else 0) → am_Ex nm_pr (d + 3) mt_Mo_writeRun (254, [.ref 72, .int lv, .int (nI n), .int (nI s), .int x4, .int (nI (pre ++ C).length), .int (nI k), .int (nI u), .int (nI C.length)], [.int f, .int (nI (pre ++ C).length), .int (nI u), .ref 72], g) Q := by
      intro hf f hf0
      subst hf0
      refine am_go [] 1 ?_
      simp only [am_wp, am_stp, am_en, am_as, am_pad, am_nth, am_set, am_st1, am_st2, am_kl, am_kill, am_mem, am_fv, am_tk, am_wt, am_bk, Option.toList, List.cons_append, List.nil_append, Nat.reduceAdd, Nat.reduceEqDiff, Nat.reduceLeDiff, reduceIte, Nat.reduceLT, or_self, true_or, or_true, if_true, if_false, and_self, and_true, true_and, not_false_eq_true, not_true_eq_false, fd_Mo_writeRun_254, G.1]
      refine am_call (l2_layEntry (d := d) G (by omega) t1 t2 t3 hs he hf) (fun o g1 z => ?_)
      obtain ⟨rfl, F1, L1, E1, K1⟩ := z
      simp only [am_wp, am_stp, am_en, am_as, am_pad, am_nth, am_set, am_st1, am_st2, am_kl, am_kill, am_mem, am_fv, am_tk, am_wt, am_bk, Option.toList, List.cons_append, List.nil_append, Nat.reduceAdd, Nat.reduceEqDiff, Nat.reduceLeDiff, reduceIte, Nat.reduceLT, or_self, true_or, or_true, if_true, if_false, and_self, and_true, true_and, not_false_eq_true, not_true_eq_false]
      refine am_go [206] 4 ?_
      simp only [am_wp, am_stp, am_en, am_as, am_pad, am_nth, am_set, am_st1, am_st2, am_kl, am_kill, am_mem, am_fv, am_tk, am_wt, am_bk, Option.toList, List.cons_append, List.nil_append, Nat.reduceAdd, Nat.reduceEqDiff, Nat.reduceLeDiff, reduceIte, Nat.reduceLT, or_self, true_or, or_true, if_true, if_false, and_self, and_true, true_and, not_false_eq_true, not_true_eq_false, fd_Mo_writeRun_257, fd_Mo_writeRun_259, fd_Mo_writeRun_262, fd_Mo_writeRun_265, nI_1]
      rw [np, if_pos hf] at hN
      have := l2_draft_loop (d := d) (n := n) (s := s) (k := k) (lv := lv) (x4 := x4) K hO hx rest (C ++ [e]) _ g1 (by rw [← hL]; simp) (F.trans F1) (by rw [L1]; exact FL) hf (el_snoc (el_ext (fun j _ j2 => K1 j j2) hE) E1) (by rw [lk_snoc]; exact hN)
      have e1 : (pre ++ (C ++ [e])).length = (pre ++ C).length + 1 := by simp; omega
      have e2 : (C ++ [e]).length = C.length + 1 := by simp
      rw [e1, e2] at this
      exact this
    -- the size
    have size : ∀ f : Int32, f = (if C = [] then 1 else 0) → am_Ex nm_pr (d + 3) mt_Mo_writeRun (230, [.ref 72, .int lv, .int (nI n), .int (nI s), .int x4, .int (nI (pre ++ C).length), .int (nI k), .int (nI u), .int (nI C.length)], [.int f, .int (nI (pre ++ C).length), .ref 72, .int (nI u)], g) Q := by
      intro f hf0
      subst hf0
      refine am_go [] 1 ?_
      simp only [am_wp, am_stp, am_en, am_as, am_pad, am_nth, am_set, am_st1, am_st2, am_kl, am_kill, am_mem, am_fv, am_tk, am_wt, am_bk, Option.toList, List.cons_append, List.nil_append, Nat.reduceAdd, Nat.reduceEqDiff, Nat.reduceLeDiff, reduceIte, Nat.reduceLT, or_self, true_or, or_true, if_true, if_false, and_self, and_true, true_and, not_false_eq_true, not_true_eq_false, fd_Mo_writeRun_230, G.1]
      refine am_call (l2_sizeOf_m (d := d) G (by omega) t1 t2 t3 hs) (fun o g1 z => ?_)
      obtain ⟨rfl, rfl⟩ := z
      simp only [am_wp, am_stp, am_en, am_as, am_pad, am_nth, am_set, am_st1, am_st2, am_kl, am_kill, am_mem, am_fv, am_tk, am_wt, am_bk, Option.toList, List.cons_append, List.nil_append, Nat.reduceAdd, Nat.reduceEqDiff, Nat.reduceLeDiff, reduceIte, Nat.reduceLT, or_self, true_or, or_true, if_true, if_false, and_self, and_true, true_and, not_false_eq_true, not_true_eq_false]
      refine am_go [239, 268] 3 ?_
      simp only [am_wp, am_stp, am_en, am_as, am_pad, am_nth, am_set, am_st1, am_st2, am_kl, am_kill, am_mem, am_fv, am_tk, am_wt, am_bk, Option.toList, List.cons_append, List.nil_append, Nat.reduceAdd, Nat.reduceEqDiff, Nat.reduceLeDiff, reduceIte, Nat.reduceLT, or_self, true_or, or_true, if_true, if_false, and_self, and_true, true_and, not_false_eq_true, not_true_eq_false, fd_Mo_writeRun_233, fd_Mo_writeRun_234, fd_Mo_writeRun_236, nI_add]
      by_cases hf : u + es (sh1 (lk none C) e.1) e ≤ 120
      · have l3 : ¬ (120 : Int32) < nI (u + es (sh1 (lk none C) e.1) e) := nI_nlt (a := 120) hf (by decide)
        simp only [l3, am_wp, am_stp, am_en, am_as, am_pad, am_nth, am_set, am_st1, am_st2, am_kl, am_kill, am_mem, am_fv, am_tk, am_wt, am_bk, Option.toList, List.cons_append, List.nil_append, Nat.reduceAdd, Nat.reduceEqDiff, Nat.reduceLeDiff, reduceIte, Nat.reduceLT, or_self, true_or, or_true, if_true, if_false, and_self, and_true, true_and, not_false_eq_true, not_true_eq_false]
        refine am_go [249, 253] 5 ?_
        simp only [am_wp, am_stp, am_en, am_as, am_pad, am_nth, am_set, am_st1, am_st2, am_kl, am_kill, am_mem, am_fv, am_tk, am_wt, am_bk, Option.toList, List.cons_append, List.nil_append, Nat.reduceAdd, Nat.reduceEqDiff, Nat.reduceLeDiff, reduceIte, Nat.reduceLT, or_self, true_or, or_true, if_true, if_false, and_self, and_true, true_and, not_false_eq_true, not_true_eq_false, fd_Mo_writeRun_239, fd_Mo_writeRun_240, fd_Mo_writeRun_242, fd_Mo_writeRun_244, fd_Mo_writeRun_246]
        simp only [cl]
        by_cases hc : C = []
        · simp only [hc, am_wp, am_stp, am_en, am_as, am_pad, am_nth, am_set, am_st1, am_st2, am_kl, am_kill, am_mem, am_fv, am_tk, am_wt, am_bk, Option.toList, List.cons_append, List.nil_append, Nat.reduceAdd, Nat.reduceEqDiff, Nat.reduceLeDiff, reduceIte, Nat.reduceLT, or_self, true_or, or_true, if_true, if_false, and_self, and_true, true_and, not_false_eq_true, not_true_eq_false] at lay ⊢
          refine am_go [254] 2 ?_
          simp only [am_wp, am_stp, am_en, am_as, am_pad, am_nth, am_set, am_st1, am_st2, am_kl, am_kill, am_mem, am_fv, am_tk, am_wt, am_bk, Option.toList, List.cons_append, List.nil_append, Nat.reduceAdd, Nat.reduceEqDiff, Nat.reduceLeDiff, reduceIte, Nat.reduceLT, or_self, true_or, or_true, if_true, if_false, and_self, and_true, true_and, not_false_eq_true, not_true_eq_false, fd_Mo_writeRun_249, fd_Mo_writeRun_250]
          have := lay (by rw [hc] at hf; exact hf) 1 rfl
          exact this
        · simp only [hc, am_wp, am_stp, am_en, am_as, am_pad, am_nth, am_set, am_st1, am_st2, am_kl, am_kill, am_mem, am_fv, am_tk, am_wt, am_bk, Option.toList, List.cons_append, List.nil_append, Nat.reduceAdd, Nat.reduceEqDiff, Nat.reduceLeDiff, reduceIte, Nat.reduceLT, or_self, true_or, or_true, if_true, if_false, and_self, and_true, true_and, not_false_eq_true, not_true_eq_false] at lay ⊢
          refine am_go [254] 1 ?_
          simp only [am_wp, am_stp, am_en, am_as, am_pad, am_nth, am_set, am_st1, am_st2, am_kl, am_kill, am_mem, am_fv, am_tk, am_wt, am_bk, Option.toList, List.cons_append, List.nil_append, Nat.reduceAdd, Nat.reduceEqDiff, Nat.reduceLeDiff, reduceIte, Nat.reduceLT, or_self, true_or, or_true, if_true, if_false, and_self, and_true, true_and, not_false_eq_true, not_true_eq_false, fd_Mo_writeRun_253]
          exact lay hf 0 rfl
      · have l3 : (120 : Int32) < nI (u + es (sh1 (lk none C) e.1) e) := nI_lt (a := 120) (by omega) (by omega)
        simp only [l3, am_wp, am_stp, am_en, am_as, am_pad, am_nth, am_set, am_st1, am_st2, am_kl, am_kill, am_mem, am_fv, am_tk, am_wt, am_bk, Option.toList, List.cons_append, List.nil_append, Nat.reduceAdd, Nat.reduceEqDiff, Nat.reduceLeDiff, reduceIte, Nat.reduceLT, or_self, true_or, or_true, if_true, if_false, and_self, and_true, true_and, not_false_eq_true, not_true_eq_false]
        exact hx g1 C u (e :: rest) hL F FL hu hE hN (Or.inr ⟨e, rest, rfl, hf⟩)
    refine am_go [215, 268] 4 ?_
    simp only [am_wp, am_stp, am_en, am_as, am_pad, am_nth, am_set, am_st1, am_st2, am_kl, am_kill, am_mem, am_fv, am_tk, am_wt, am_bk, Option.toList, List.cons_append, List.nil_append, Nat.reduceAdd, Nat.reduceEqDiff, Nat.reduceLeDiff, reduceIte, Nat.reduceLT, or_self, true_or, or_true, if_true, if_false, and_self, and_true, true_and, not_false_eq_true, not_true_eq_false, fd_Mo_writeRun_206, fd_Mo_writeRun_208, fd_Mo_writeRun_209, fd_Mo_writeRun_212, G.1, i31', l1]
    refine am_go [225, 229] 5 ?_
    simp only [am_wp, am_stp, am_en, am_as, am_pad, am_nth, am_set, am_st1, am_st2, am_kl, am_kill, am_mem, am_fv, am_tk, am_wt, am_bk, Option.toList, List.cons_append, List.nil_append, Nat.reduceAdd, Nat.reduceEqDiff, Nat.reduceLeDiff, reduceIte, Nat.reduceLT, or_self, true_or, or_true, if_true, if_false, and_self, and_true, true_and, not_false_eq_true, not_true_eq_false, fd_Mo_writeRun_215, fd_Mo_writeRun_217, fd_Mo_writeRun_218, fd_Mo_writeRun_220, fd_Mo_writeRun_222]
    simp only [cl]
    by_cases hc : C = []
    · simp only [hc, am_wp, am_stp, am_en, am_as, am_pad, am_nth, am_set, am_st1, am_st2, am_kl, am_kill, am_mem, am_fv, am_tk, am_wt, am_bk, Option.toList, List.cons_append, List.nil_append, Nat.reduceAdd, Nat.reduceEqDiff, Nat.reduceLeDiff, reduceIte, Nat.reduceLT, or_self, true_or, or_true, if_true, if_false, and_self, and_true, true_and, not_false_eq_true, not_true_eq_false] at size ⊢
      refine am_go [230] 2 ?_
      simp only [am_wp, am_stp, am_en, am_as, am_pad, am_nth, am_set, am_st1, am_st2, am_kl, am_kill, am_mem, am_fv, am_tk, am_wt, am_bk, Option.toList, List.cons_append, List.nil_append, Nat.reduceAdd, Nat.reduceEqDiff, Nat.reduceLeDiff, reduceIte, Nat.reduceLT, or_self, true_or, or_true, if_true, if_false, and_self, and_true, true_and, not_false_eq_true, not_true_eq_false, fd_Mo_writeRun_225, fd_Mo_writeRun_226]
      exact size 1 rfl
    · simp only [hc, am_wp, am_stp, am_en, am_as, am_pad, am_nth, am_set, am_st1, am_st2, am_kl, am_kill, am_mem, am_fv, am_tk, am_wt, am_bk, Option.toList, List.cons_append, List.nil_append, Nat.reduceAdd, Nat.reduceEqDiff, Nat.reduceLeDiff, reduceIte, Nat.reduceLT, or_self, true_or, or_true, if_true, if_false, and_self, and_true, true_and, not_false_eq_true, not_true_eq_false] at size ⊢
      refine am_go [230] 1 ?_
      simp only [am_wp, am_stp, am_en, am_as, am_pad, am_nth, am_set, am_st1, am_st2, am_kl, am_kill, am_mem, am_fv, am_tk, am_wt, am_bk, Option.toList, List.cons_append, List.nil_append, Nat.reduceAdd, Nat.reduceEqDiff, Nat.reduceLeDiff, reduceIte, Nat.reduceLT, or_self, true_or, or_true, if_true, if_false, and_self, and_true, true_and, not_false_eq_true, not_true_eq_false, fd_Mo_writeRun_229]
      exact size 0 rfl
/-- pages so far -/
def rw_I (P : Nat) (h g : am_H) (L : List ent) (n : Nat) (pl : List Nat) (done : List (Nat × List ent)) (rest : List ent) : Prop := am_fi [72, 73, 83, 91] h g ∧ (∀ j, j ≠ 7 → am_I g 72 j = am_I h 72 j) ∧ done.map (·.1) = pl.take done.length ∧ ch_E done ++ rest = L ∧ (∀ q ∈ done, pg_M P g q.1 q.2) ∧ (∀ x, x ∉ done.map (·.1) → ∀ j, j < 128 → am_I g 73 (x * 128 + j) = am_I h 73 (x * 128 + j)) ∧ n = done.length + npg rest
theorem npg_5 (e : ent) (r : List ent) : npg (e :: r) = np 5 none (e :: r) + 1 := by
  unfold npg
  rw [np_121, np, if_pos (show 5 + es (sh1 none e.1) e ≤ 120 from by have := es_le 0 e; show 5 + es 0 e ≤ 120; omega)]
  rfl
theorem l2_page_loop {d P s n : Nat} {lv x4 : Int32} {L : List ent} {pl : List Nat} {h : am_H} {Q : am_O → am_H → Prop} (K : ky_S h L) (hO : ∀ e ∈ L, eo e) (hc0 : am_I h 72 8 = 0) (hP : P ≤ 1024) (hs : s < 100) (hn : n ≤ 1024) (hpl : pl.length = n) (hnd : pl.Nodup) (h82 : ∀ k q, pl[k]? = some q → am_I h 82 (1024 * s + k) = nI q) (hpg : ∀ q ∈ pl, 2 ≤ q ∧ q < P)
    (hx : ∀ g done w7 w8, rw_I P h g L n pl done [] → done.length = n → am_Ex nm_pr (d + 4) mt_Mo_writeRun (306, [.ref 72, .int lv, .int (nI n), .int (nI s), .int x4, .int (nI L.length), .int (nI n), w7, w8], [], g) Q) : ∀ (m : Nat) (done : List (Nat × List ent)) (rest : List ent) (w7 w8 : Value) (g : am_H), m + done.length = n → rw_I P h g L n pl done rest →
    am_Ex nm_pr (d + 4) mt_Mo_writeRun (124, [.ref 72, .int lv, .int (nI n), .int (nI s), .int x4, .int (nI (ch_E done).length), .int (nI done.length), w7, w8], [], g) Q
  | 0, done, rest, w7, w8, g, hm, I => by
    obtain ⟨F, i1, i2, i3, i4, i5, i6⟩ := id I
    have e : done.length = n := by omega
    have hr : rest = [] := npg_0.mp (by omega)
    subst hr
    have eL : ch_E done = L := by simpa using i3
    have l1 : ¬ nI done.length < nI n := nI_nlt (by omega) (by omega)
    refine am_go [130, 306] 3 ?_
    simp only [am_wp, am_stp, am_en, am_as, am_pad, am_nth, am_set, am_st1, am_st2, am_kl, am_kill, am_mem, am_fv, am_tk, am_wt, am_bk, Option.toList, List.cons_append, List.nil_append, Nat.reduceAdd, Nat.reduceEqDiff, Nat.reduceLeDiff, reduceIte, Nat.reduceLT, or_self, true_or, or_true, if_true, if_false, and_self, and_true, true_and, not_false_eq_true, not_true_eq_false, fd_Mo_writeRun_124, fd_Mo_writeRun_126, fd_Mo_writeRun_127, l1]
    rw [eL, e]
    exact hx g done w7 w8 I e
  | m + 1, done, rest, w7, w8, g, hm, I => by
    obtain ⟨F, i1, i2, i3, i4, i5, i6⟩ := id I
    obtain ⟨hS, i31, hl, T⟩ := id K
    have G := hS.fi F
    have hpos : npg rest ≠ 0 := by omega
    obtain ⟨e0, r0, hr⟩ : ∃ e r, rest = e :: r := by
      cases rest with
      | nil => exact absurd rfl hpos
      | cons e r => exact ⟨e, r, rfl⟩
    have l1 : nI done.length < nI n := nI_lt (by omega) (by omega)
    obtain ⟨k72, ⟨r15, k77, n77⟩, ⟨r16, k78, n78⟩, ⟨r17, k79, n79⟩, ⟨r18, k80, n80⟩, ⟨r19, k81, n81⟩, ⟨r20, k82, n82⟩, ⟨r21, k83, n83⟩, -⟩ := mo_sl_ G
    have GP := G.Pg
    have e1 : 1024 * nI s = nI (1024 * s) := (Int32.ofNat_mul 1024 s).symm
    refine am_go [130, 306] 3 ?_
    simp only [am_wp, am_stp, am_en, am_as, am_pad, am_nth, am_set, am_st1, am_st2, am_kl, am_kill, am_mem, am_fv, am_tk, am_wt, am_bk, Option.toList, List.cons_append, List.nil_append, Nat.reduceAdd, Nat.reduceEqDiff, Nat.reduceLeDiff, reduceIte, Nat.reduceLT, or_self, true_or, or_true, if_true, if_false, and_self, and_true, true_and, not_false_eq_true, not_true_eq_false, fd_Mo_writeRun_124, fd_Mo_writeRun_126, fd_Mo_writeRun_127, l1]
    refine am_go [] 2 ?_
    simp only [am_wp, am_stp, am_en, am_as, am_pad, am_nth, am_set, am_st1, am_st2, am_kl, am_kill, am_mem, am_fv, am_tk, am_wt, am_bk, Option.toList, List.cons_append, List.nil_append, Nat.reduceAdd, Nat.reduceEqDiff, Nat.reduceLeDiff, reduceIte, Nat.reduceLT, or_self, true_or, or_true, if_true, if_false, and_self, and_true, true_and, not_false_eq_true, not_true_eq_false, fd_Mo_writeRun_130, fd_Mo_writeRun_131, k72]
    refine am_call (l2_Mo_clear (d := d + 3) GP) (fun o g1 z => ?_)
    obtain ⟨rfl, F1, d1, L1⟩ := z
    have G1 := G.fi F1
    have k72a := G1.1
    simp only [am_wp, am_stp, am_en, am_as, am_pad, am_nth, am_set, am_st1, am_st2, am_kl, am_kill, am_mem, am_fv, am_tk, am_wt, am_bk, Option.toList, List.cons_append, List.nil_append, Nat.reduceAdd, Nat.reduceEqDiff, Nat.reduceLeDiff, reduceIte, Nat.reduceLT, or_self, true_or, or_true, if_true, if_false, and_self, and_true, true_and, not_false_eq_true, not_true_eq_false]
    refine am_go [] 5 ?_
    simp only [am_wp, am_stp, am_en, am_as, am_pad, am_nth, am_set, am_st1, am_st2, am_kl, am_kill, am_mem, am_fv, am_tk, am_wt, am_bk, Option.toList, List.cons_append, List.nil_append, Nat.reduceAdd, Nat.reduceEqDiff, Nat.reduceLeDiff, reduceIte, Nat.reduceLT, or_self, true_or, or_true, if_true, if_false, and_self, and_true, true_and, not_false_eq_true, not_true_eq_false, fd_Mo_writeRun_134, fd_Mo_writeRun_135, fd_Mo_writeRun_136, fd_Mo_writeRun_137, fd_Mo_writeRun_140, k72a]
    refine am_call (l2_Mo_put2 (d := d + 3) (u := 0) G1.Pg (by decide)) (fun o g2 z => ?_)
    obtain ⟨rfl, e2⟩ := z
    have F2 : am_fi [91] g1 g2 := by rw [e2]; exact (am_fi.refl.sI (by simp)).sI (by simp)
    have L2 : am_L g2 = am_L g1 := by rw [e2]; rfl
    clear e2
    have G2 := G1.fi F2
    obtain ⟨k72b, -, -, -, -, -, ⟨r20b, k82b, n82b⟩, -⟩ := mo_sl_ G2
    have F12 : am_fi [91] g g2 := F1.trans F2
    have I82 : am_I g2 82 = am_I h 82 := (F12.2.2.2.2.2.2.1 82 (by simp)).trans (F.2.2.2.2.2.2.1 82 (by simp))
    simp only [am_wp, am_stp, am_en, am_as, am_pad, am_nth, am_set, am_st1, am_st2, am_kl, am_kill, am_mem, am_fv, am_tk, am_wt, am_bk, Option.toList, List.cons_append, List.nil_append, Nat.reduceAdd, Nat.reduceEqDiff, Nat.reduceLeDiff, reduceIte, Nat.reduceLT, or_self, true_or, or_true, if_true, if_false, and_self, and_true, true_and, not_false_eq_true, not_true_eq_false]
    -- behind the second number
    have behind : ∀ x : Int32, am_Ex nm_pr (d + 4) mt_Mo_writeRun (175, [.ref 72, .int lv, .int (nI n), .int (nI s), .int x4, .int (nI (ch_E done).length), .int (nI done.length), .int (nI (0 + 2)), w8], [.int x, .int (nI (0 + 2)), .ref 72], g2) Q := by
      intro x
      refine am_go [] 1 ?_
      simp only [am_wp, am_stp, am_en, am_as, am_pad, am_nth, am_set, am_st1, am_st2, am_kl, am_kill, am_mem, am_fv, am_tk, am_wt, am_bk, Option.toList, List.cons_append, List.nil_append, Nat.reduceAdd, Nat.reduceEqDiff, Nat.reduceLeDiff, reduceIte, Nat.reduceLT, or_self, true_or, or_true, if_true, if_false, and_self, and_true, true_and, not_false_eq_true, not_true_eq_false, fd_Mo_writeRun_175, k72b]
      refine am_call (l2_Mo_put2 (d := d + 3) (u := 2) G2.Pg (by decide)) (fun o g3 z => ?_)
      obtain ⟨rfl, e3⟩ := z
      have F3 : am_fi [91] g2 g3 := by rw [e3]; exact (am_fi.refl.sI (by simp)).sI (by simp)
      have L3 : am_L g3 = am_L g2 := by rw [e3]; rfl
      clear e3
      have F13 : am_fi [91] g g3 := F12.trans F3
      have G3 := G2.fi F3
      obtain ⟨k72c, -, -, -, -, -, -, ⟨r21c, k83c, n83c⟩, -⟩ := mo_sl_ G3
      obtain ⟨-, r32c, -, -, k92c, n92c, -⟩ := mo_ky G3
      have hlen : (ch_E done).length < L.length := by rw [← i3, hr]; simp
      have iA := am_inb (c := (ch_E done).length) (N := 45000) (by omega) (by omega)
      have qA : (nI (ch_E done).length).toNatClampNeg = (ch_E done).length := nI_clamp (by omega)
      have iB := am_inb (c := 1024 * s + done.length) (N := 102400) (by omega) (by omega)
      have qB : (nI (1024 * s + done.length)).toNatClampNeg = 1024 * s + done.length := nI_clamp (by omega)
      have e5 : nI (2 + 2) + 1 = nI 5 := by decide
      simp only [am_wp, am_stp, am_en, am_as, am_pad, am_nth, am_set, am_st1, am_st2, am_kl, am_kill, am_mem, am_fv, am_tk, am_wt, am_bk, Option.toList, List.cons_append, List.nil_append, Nat.reduceAdd, Nat.reduceEqDiff, Nat.reduceLeDiff, reduceIte, Nat.reduceLT, or_self, true_or, or_true, if_true, if_false, and_self, and_true, true_and, not_false_eq_true, not_true_eq_false]
      refine am_go [] 4 ?_
      simp only [am_wp, am_stp, am_en, am_as, am_pad, am_nth, am_set, am_st1, am_st2, am_kl, am_kill, am_mem, am_fv, am_tk, am_wt, am_bk, Option.toList, List.cons_append, List.nil_append, Nat.reduceAdd, Nat.reduceEqDiff, Nat.reduceLeDiff, reduceIte, Nat.reduceLT, or_self, true_or, or_true, if_true, if_false, and_self, and_true, true_and, not_false_eq_true, not_true_eq_false, fd_Mo_writeRun_178, fd_Mo_writeRun_180, fd_Mo_writeRun_183, fd_Mo_writeRun_184, e5]
      refine am_go [206] 12 ?_
      simp only [am_wp, am_stp, am_en, am_as, am_pad, am_nth, am_set, am_st1, am_st2, am_kl, am_kill, am_mem, am_fv, am_tk, am_wt, am_bk, Option.toList, List.cons_append, List.nil_append, Nat.reduceAdd, Nat.reduceEqDiff, Nat.reduceLeDiff, reduceIte, Nat.reduceLT, or_self, true_or, or_true, if_true, if_false, and_self, and_true, true_and, not_false_eq_true, not_true_eq_false, fd_Mo_writeRun_186, fd_Mo_writeRun_187, fd_Mo_writeRun_190, fd_Mo_writeRun_193, fd_Mo_writeRun_194, fd_Mo_writeRun_195, fd_Mo_writeRun_197, fd_Mo_writeRun_198, fd_Mo_writeRun_199, fd_Mo_writeRun_202, fd_Mo_writeRun_204, fd_Mo_writeRun_205, k72c, r21c, r32c, e1, nI_add, k92c, n92c, iA, qA, k83c, n83c, iB, qB]
      have F4 : am_fi [83, 91] g (am_sL g3 83 (1024 * s + done.length) (am_L g3 92 (ch_E done).length)) := (F13.sub (by simp)).sL (by simp)
      have L92 : am_L (am_sL g3 83 (1024 * s + done.length) (am_L g3 92 (ch_E done).length)) 92 = am_L g 92 := F4.2.2.2.2.2.2.2 92 (by simp)
      generalize am_sL g3 83 (1024 * s + done.length) (am_L g3 92 (ch_E done).length) = g4 at F4 L92 ⊢
      have F04 : am_fi [72, 73, 83, 91] h g4 := F.trans (F4.sub (by simp))
      have K4 : ky_S g4 L := ⟨hS.fi F04, by rw [F4.2.2.2.2.2.2.1 72 (by simp), i1 31 (by decide)]; exact i31, hl, T.fi F04 (by simp)⟩
      have enil : (ch_E done).length = (ch_E done ++ []).length := by rw [List.append_nil]
      rw [enil]
      refine l2_draft_loop (d := d + 1) (N := np 5 none rest) (pre := ch_E done) K4 hO (fun g5 C u rest' c1 c2 c3 c4 c5 c6 c7 => ?_) rest [] 5 g4 (by simpa using i3) am_fi.refl rfl (by decide) rfl rfl
      -- the page
      have G5 := K4.1.fi c2
      obtain ⟨k72d, r30d, k91d, n91d⟩ := mo_dr G5
      obtain ⟨-, -, -, -, -, -, ⟨r20d, k82d, n82d⟩, -⟩ := mo_sl_ G5
      have hle := el_le c5
      have i4' : ((4 : Int32) < 0 ∨ 128 ≤ (4 : Int32).toNatClampNeg) = False := by decide
      have q4' : (4 : Int32).toNatClampNeg = 4 := by decide
      refine am_go [] 6 ?_
      simp only [am_wp, am_stp, am_en, am_as, am_pad, am_nth, am_set, am_st1, am_st2, am_kl, am_kill, am_mem, am_fv, am_tk, am_wt, am_bk, Option.toList, List.cons_append, List.nil_append, Nat.reduceAdd, Nat.reduceEqDiff, Nat.reduceLeDiff, reduceIte, Nat.reduceLT, or_self, true_or, or_true, if_true, if_false, and_self, and_true, true_and, not_false_eq_true, not_true_eq_false, fd_Mo_writeRun_268, fd_Mo_writeRun_269, fd_Mo_writeRun_272, fd_Mo_writeRun_273, fd_Mo_writeRun_275, fd_Mo_writeRun_276, k72d, r30d, k91d, n91d, i4']
      rw [q4']
      have F6 : am_fi [91] g4 (am_sI g5 91 4 (am_b8 (am_b8 (nI C.length)))) := c2.sI (by simp)
      have v4 : am_I (am_sI g5 91 4 (am_b8 (am_b8 (nI C.length)))) 91 4 &&& 255 = nI C.length := by
        simp only [hx_nx_sI, hx_ce_sI, hx_sl_sI, hx_kd_sI, hx_ln_sI, hx_I_sI, hx_L_sI, hx_R_sI, hx_nx_sL, hx_ce_sL, hx_sl_sL, hx_kd_sL, hx_ln_sL, hx_I_sL, hx_L_sL, hx_R_sL, hx_nx_sR, hx_ce_sR, hx_sl_sR, hx_kd_sR, hx_ln_sR, hx_I_sR, hx_L_sR, hx_R_sR, hx_nx_al, hx_ce_al, hx_sl_al, hx_kd_al, hx_ln_al, hx_I_al, hx_L_al, hx_R_al, hx_nx_row, hx_ce_row, hx_sl_row, hx_kd_row, hx_ln_row, hx_I_row, hx_L_row, hx_R_row, hx_nx_mk, hx_kd_mk, hx_ln_mk, hx_I_mk, hx_L_mk, hx_R_mk, am_wp, am_stp, am_en, am_as, am_pad, am_nth, am_set, am_st1, am_st2, am_kl, am_kill, am_mem, am_fv, am_tk, am_wt, am_bk, Option.toList, List.cons_append, List.nil_append, Nat.reduceAdd, Nat.reduceEqDiff, Nat.reduceLeDiff, reduceIte, Nat.reduceLT, or_self, true_or, or_true, if_true, if_false, and_self, and_true, true_and, not_false_eq_true, not_true_eq_false]
        rw [am_b8_b8, b8_and]
        exact and255 (by omega)
      have vE : el (am_I (am_sI g5 91 4 (am_b8 (am_b8 (nI C.length)))) 91) 5 none C u := el_ext (fun j j1 j2 => by simp only [hx_nx_sI, hx_ce_sI, hx_sl_sI, hx_kd_sI, hx_ln_sI, hx_I_sI, hx_L_sI, hx_R_sI, hx_nx_sL, hx_ce_sL, hx_sl_sL, hx_kd_sL, hx_ln_sL, hx_I_sL, hx_L_sL, hx_R_sL, hx_nx_sR, hx_ce_sR, hx_sl_sR, hx_kd_sR, hx_ln_sR, hx_I_sR, hx_L_sR, hx_R_sR, hx_nx_al, hx_ce_al, hx_sl_al, hx_kd_al, hx_ln_al, hx_I_al, hx_L_al, hx_R_al, hx_nx_row, hx_ce_row, hx_sl_row, hx_kd_row, hx_ln_row, hx_I_row, hx_L_row, hx_R_row, hx_nx_mk, hx_kd_mk, hx_ln_mk, hx_I_mk, hx_L_mk, hx_R_mk, am_wp, am_stp, am_en, am_as, am_pad, am_nth, am_set, am_st1, am_st2, am_kl, am_kill, am_mem, am_fv, am_tk, am_wt, am_bk, Option.toList, List.cons_append, List.nil_append, Nat.reduceAdd, Nat.reduceEqDiff, Nat.reduceLeDiff, reduceIte, Nat.reduceLT, or_self, true_or, or_true, if_true, if_false, and_self, and_true, true_and, not_false_eq_true, not_true_eq_false]; rw [if_neg (by omega)]) c5
      have vL : am_L (am_sI g5 91 4 (am_b8 (am_b8 (nI C.length)))) = am_L g4 := c3
      generalize am_sI g5 91 4 (am_b8 (am_b8 (nI C.length))) = g6 at F6 v4 vE vL ⊢
      obtain ⟨pg, hpk⟩ : ∃ q, pl[done.length]? = some q := ⟨pl[done.length]'(by omega), List.getElem?_eq_getElem (by omega)⟩
      have hpm := hpg pg (List.mem_of_getElem? hpk)
      have F06 : am_fi [72, 73, 83, 91] h g6 := F04.trans (F6.sub (by simp))
      have F46 : am_fi [83, 91] g g6 := F4.trans (F6.sub (by simp))
      have vp : am_I g6 82 (1024 * s + done.length) = nI pg := by rw [F06.2.2.2.2.2.2.1 82 (by simp)]; exact h82 _ _ hpk
      have G6 := hS.fi F06
      obtain ⟨k72e, -, -, -, -, -, ⟨r20e, k82e, n82e⟩, -⟩ := mo_sl_ G6
      refine am_go [] 10 ?_
      simp only [am_wp, am_stp, am_en, am_as, am_pad, am_nth, am_set, am_st1, am_st2, am_kl, am_kill, am_mem, am_fv, am_tk, am_wt, am_bk, Option.toList, List.cons_append, List.nil_append, Nat.reduceAdd, Nat.reduceEqDiff, Nat.reduceLeDiff, reduceIte, Nat.reduceLT, or_self, true_or, or_true, if_true, if_false, and_self, and_true, true_and, not_false_eq_true, not_true_eq_false, fd_Mo_writeRun_277, fd_Mo_writeRun_278, fd_Mo_writeRun_279, fd_Mo_writeRun_282, fd_Mo_writeRun_285, fd_Mo_writeRun_286, fd_Mo_writeRun_287, fd_Mo_writeRun_289, fd_Mo_writeRun_290, fd_Mo_writeRun_291, k72e, r20e, e1, nI_add, k82e, n82e, iB, qB, vp]
      have hcut : am_I g6 72 8 = 0 := by rw [F46.2.2.2.2.2.2.1 72 (by simp), i1 8 (by decide)]; exact hc0
      refine am_call (l2_Mo_write (d := d + 2) G6.Pg (show pg < 1024 by omega) hcut) (fun o g7 z => ?_)
      obtain ⟨rfl, F7, w1, w2, w3, w5⟩ := z
      have one0 : ¬ (1 : Int32) = 0 := by decide
      simp only [am_wp, am_stp, am_en, am_as, am_pad, am_nth, am_set, am_st1, am_st2, am_kl, am_kill, am_mem, am_fv, am_tk, am_wt, am_bk, Option.toList, List.cons_append, List.nil_append, Nat.reduceAdd, Nat.reduceEqDiff, Nat.reduceLeDiff, reduceIte, Nat.reduceLT, or_self, true_or, or_true, if_true, if_false, and_self, and_true, true_and, not_false_eq_true, not_true_eq_false]
      refine am_go [297, 124] 3 ?_
      simp only [am_wp, am_stp, am_en, am_as, am_pad, am_nth, am_set, am_st1, am_st2, am_kl, am_kill, am_mem, am_fv, am_tk, am_wt, am_bk, Option.toList, List.cons_append, List.nil_append, Nat.reduceAdd, Nat.reduceEqDiff, Nat.reduceLeDiff, reduceIte, Nat.reduceLT, or_self, true_or, or_true, if_true, if_false, and_self, and_true, true_and, not_false_eq_true, not_true_eq_false, fd_Mo_writeRun_294, fd_Mo_writeRun_300, fd_Mo_writeRun_303, one0, nI_1]
      have hC : C ≠ [] := fun z => by
        subst z
        have eu : u = 5 := by have : (5 : Nat) = u := c5; omega
        have er : rest' = rest := by
          rw [← i3] at c1
          simpa using c1
        rcases c7 with q | ⟨e, r, q1, q2⟩
        · rw [← er, q] at hr; cases hr
        · rw [eu] at q2
          have := es_le 0 e
          exact q2 (by show 5 + es 0 e ≤ 120; omega)
      have hOC : ∀ e ∈ C, eo e := fun e he => hO e (by rw [← c1]; simp [he])
      have M7 : pg_M P g7 pg C := pg_M.of hpm.1 hpm.2 hC c4 vE hOC v4 w3
      have F07 : am_fi [72, 73, 83, 91] h g7 := F06.trans (F7.sub (by simp))
      have hnew : pg ∉ done.map (·.1) := fun hmem => by
        rw [i2] at hmem
        obtain ⟨j, hj⟩ := List.getElem?_of_mem hmem
        rw [List.getElem?_take] at hj
        split at hj
        · have hlt := (List.getElem?_eq_some_iff.mp hpk).1
          have := (List.getElem?_inj hlt hnd).mp (hpk.trans hj.symm)
          omega
        · cases hj
      have oct : ∀ x, x ≠ pg → ∀ j, j < 128 → am_I g7 73 (x * 128 + j) = am_I g 73 (x * 128 + j) := fun x hx' j hj => by
        rw [w3]
        dsimp only
        rw [if_neg (by rcases Nat.lt_or_gt_of_ne hx' with e | e <;> omega), F46.2.2.2.2.2.2.1 73 (by simp)]
      have I7 : rw_I P h g7 L n pl (done ++ [(pg, C)]) rest' := by
        refine ⟨F07, fun j hj => ?_, ?_, ?_, fun q hq => ?_, fun x hx' j hj => ?_, ?_⟩
        · rw [w1]
          dsimp only
          rw [if_neg hj, F46.2.2.2.2.2.2.1 72 (by simp)]
          exact i1 j hj
        · rw [List.map_append, i2, List.length_append]
          show pl.take done.length ++ [pg] = pl.take (done.length + 1)
          rw [List.take_add_one, hpk]
          rfl
        · rw [ch_E_snoc]; exact c1
        · rcases List.mem_append.mp hq with hq | hq
          · refine (i4 q hq).mono (fun j hj => oct q.1 (fun e => hnew (e ▸ List.mem_map_of_mem hq)) j hj)
          · have e : q = (pg, C) := by simpa using hq
            subst e
            exact M7
        · rw [List.map_append] at hx'
          have h1 : x ∉ done.map (·.1) := fun z => hx' (by simp [z])
          have h2 : x ≠ pg := fun z => hx' (by simp [z])
          rw [oct x h2 j hj]
          exact i5 x h1 j hj
        · rw [List.length_append]
          show n = done.length + 1 + npg rest'
          rw [hr, npg_5, ← hr] at i6
          rcases c7 with q | ⟨e, r, q1, q2⟩
          · rw [q] at c6 ⊢
            have : np u (lk none C) [] = 0 := rfl
            have h0 : npg [] = 0 := rfl
            omega
          · rw [q1, np, if_neg q2] at c6
            rw [q1]
            unfold npg
            rw [np_121]
            omega
      have := l2_page_loop (d := d) (lv := lv) (x4 := x4) K hO hc0 hP hs hn hpl hnd h82 hpg hx m (done ++ [(pg, C)]) rest' (.int (nI u)) (.int (nI C.length)) g7 (by rw [List.length_append]; simp; omega) I7
      have ea : (ch_E (done ++ [(pg, C)])).length = (ch_E done ++ C).length := by rw [ch_E_snoc]
      have eb : (done ++ [(pg, C)]).length = done.length + 1 := by simp
      rw [ea, eb] at this
      exact this
    by_cases hk : done.length + 1 < n
    · have l2 : nI (done.length + 1) < nI n := nI_lt hk (by omega)
      have iC : (nI (1024 * s + done.length + 1) < 0 ∨ 102399 ≤ 1024 * s + done.length) = False := eq_false (fun q => by rcases q with q | q; exact nI_pos (by omega) q; omega)
      have qC : (nI (1024 * s + done.length + 1)).toNatClampNeg = 1024 * s + done.length + 1 := nI_clamp (by omega)
      refine am_go [156, 174] 8 ?_
      simp only [am_wp, am_stp, am_en, am_as, am_pad, am_nth, am_set, am_st1, am_st2, am_kl, am_kill, am_mem, am_fv, am_tk, am_wt, am_bk, Option.toList, List.cons_append, List.nil_append, Nat.reduceAdd, Nat.reduceEqDiff, Nat.reduceLeDiff, reduceIte, Nat.reduceLT, or_self, true_or, or_true, if_true, if_false, and_self, and_true, true_and, not_false_eq_true, not_true_eq_false, fd_Mo_writeRun_143, fd_Mo_writeRun_145, fd_Mo_writeRun_146, fd_Mo_writeRun_148, fd_Mo_writeRun_150, fd_Mo_writeRun_151, fd_Mo_writeRun_152, fd_Mo_writeRun_153, nI_1, l2]
      refine am_go [175] 11 ?_
      simp only [am_wp, am_stp, am_en, am_as, am_pad, am_nth, am_set, am_st1, am_st2, am_kl, am_kill, am_mem, am_fv, am_tk, am_wt, am_bk, Option.toList, List.cons_append, List.nil_append, Nat.reduceAdd, Nat.reduceEqDiff, Nat.reduceLeDiff, reduceIte, Nat.reduceLT, or_self, true_or, or_true, if_true, if_false, and_self, and_true, true_and, not_false_eq_true, not_true_eq_false, fd_Mo_writeRun_156, fd_Mo_writeRun_157, fd_Mo_writeRun_160, fd_Mo_writeRun_163, fd_Mo_writeRun_164, fd_Mo_writeRun_165, fd_Mo_writeRun_167, fd_Mo_writeRun_168, fd_Mo_writeRun_169, fd_Mo_writeRun_170, fd_Mo_writeRun_171, k72b, r20b, e1, nI_add, nI_1, k82b, n82b, qC, iC]
      exact behind _
    · have l2 : ¬ nI (done.length + 1) < nI n := nI_nlt (by omega) (by omega)
      refine am_go [156, 174] 8 ?_
      simp only [am_wp, am_stp, am_en, am_as, am_pad, am_nth, am_set, am_st1, am_st2, am_kl, am_kill, am_mem, am_fv, am_tk, am_wt, am_bk, Option.toList, List.cons_append, List.nil_append, Nat.reduceAdd, Nat.reduceEqDiff, Nat.reduceLeDiff, reduceIte, Nat.reduceLT, or_self, true_or, or_true, if_true, if_false, and_self, and_true, true_and, not_false_eq_true, not_true_eq_false, fd_Mo_writeRun_143, fd_Mo_writeRun_145, fd_Mo_writeRun_146, fd_Mo_writeRun_148, fd_Mo_writeRun_150, fd_Mo_writeRun_151, fd_Mo_writeRun_152, fd_Mo_writeRun_153, nI_1, l2]
      refine am_go [175] 1 ?_
      simp only [am_wp, am_stp, am_en, am_as, am_pad, am_nth, am_set, am_st1, am_st2, am_kl, am_kill, am_mem, am_fv, am_tk, am_wt, am_bk, Option.toList, List.cons_append, List.nil_append, Nat.reduceAdd, Nat.reduceEqDiff, Nat.reduceLeDiff, reduceIte, Nat.reduceLT, or_self, true_or, or_true, if_true, if_false, and_self, and_true, true_and, not_false_eq_true, not_true_eq_false, fd_Mo_writeRun_174]
      exact behind _
