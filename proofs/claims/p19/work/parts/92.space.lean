/-! THE SPACE: free pages -/
/-- how many pages below n, from 2 on, are free -/
def fz (f : Nat → Int32) : Nat → Nat
  | 0 => 0
  | n + 1 => fz f n + (if 2 ≤ n ∧ f n = 0 then 1 else 0)
theorem fz_ext {f g : Nat → Int32} : ∀ n, (∀ p, p < n → f p = g p) → fz f n = fz g n
  | 0, _ => rfl
  | n + 1, h => by
    unfold fz
    rw [fz_ext n (fun p hp => h p (by omega)), h n (by omega)]
theorem fz_le (f : Nat → Int32) : ∀ n, fz f n ≤ n - 2
  | 0 => Nat.le_refl _
  | n + 1 => by
    have := fz_le f n
    unfold fz
    split <;> omega
theorem fz_mono (f : Nat → Int32) : ∀ (n m : Nat), m ≤ n → fz f m ≤ fz f n
  | 0, m, h => by have : m = 0 := by omega
                  subst this; exact Nat.le_refl _
  | n + 1, m, h => by
    by_cases e : m = n + 1
    · subst e; exact Nat.le_refl _
    · have := fz_mono f n m (by omega)
      have e2 : fz f (n + 1) = fz f n + (if 2 ≤ n ∧ f n = 0 then 1 else 0) := rfl
      omega
theorem fz_none {f : Nat → Int32} : ∀ (n : Nat), (∀ q, 2 ≤ q → q < n → f q ≠ 0) → fz f n = 0
  | 0, _ => rfl
  | n + 1, h => by
    unfold fz
    rw [fz_none n (fun q h1 h2 => h q h1 (by omega)), if_neg (fun q => h n q.1 (by omega) q.2)]
theorem fz_all {f : Nat → Int32} : ∀ (n : Nat), (∀ q, 2 ≤ q → q < n → f q = 0) → fz f n = n - 2
  | 0, _ => rfl
  | n + 1, h => by
    unfold fz
    rw [fz_all n (fun q h1 h2 => h q h1 (by omega))]
    by_cases e : 2 ≤ n
    · rw [if_pos ⟨e, h n e (by omega)⟩]; omega
    · rw [if_neg (fun q => e q.1)]; omega
theorem fz_up {f : Nat → Int32} {p : Nat} {v : Int32} : ∀ (n : Nat), 2 ≤ p → p < n → fz (up_f f p v) n + (if f p = 0 then 1 else 0) = fz f n + (if v = 0 then 1 else 0)
  | 0, h1, h2 => by omega
  | n + 1, h1, h2 => by
    unfold fz
    by_cases e : p = n
    · subst e
      rw [fz_ext (g := f) p (fun q hq => by unfold up_f; rw [if_neg (by omega)])]
      have : up_f f p v p = v := by unfold up_f; rw [if_pos rfl]
      rw [this]
      by_cases e1 : f p = 0 <;> by_cases e2 : v = 0 <;> simp [e1, e2, h1]
    · have ih := fz_up (f := f) (v := v) n h1 (by omega)
      have : up_f f p v n = f n := by unfold up_f; rw [if_neg (fun c => e c.symm)]
      rw [this]
      omega
/-- the least free page from m on -/
theorem fz_least {f : Nat → Int32} {m : Nat} : ∀ (n : Nat), m ≤ n → fz f m < fz f n → ∃ q, m ≤ q ∧ q < n ∧ 2 ≤ q ∧ f q = 0 ∧ ∀ r, m ≤ r → 2 ≤ r → r < q → f r ≠ 0
  | 0, h1, h2 => by have : m = 0 := by omega
                    subst this; omega
  | n + 1, h1, h2 => by
    by_cases e : fz f m < fz f n
    · by_cases em : m ≤ n
      · obtain ⟨q, a1, a2, a3⟩ := fz_least n em e
        exact ⟨q, a1, by omega, a3⟩
      · have : m = n + 1 := by omega
        subst this; omega
    · by_cases em : m ≤ n
      · have mo := fz_mono f n m em
        have h2' : fz f m < fz f n + (if 2 ≤ n ∧ f n = 0 then 1 else 0) := h2
        split at h2'
        · rename_i hc
          refine ⟨n, em, by omega, hc.1, hc.2, fun r r1 r2 r3 r4 => ?_⟩
          have s1 := fz_mono f r m r1
          have s2 := fz_mono f n (r + 1) (by omega)
          have s3 : fz f (r + 1) = fz f r + 1 := by
            show fz f r + (if 2 ≤ r ∧ f r = 0 then 1 else 0) = _
            rw [if_pos ⟨r2, r4⟩]
          omega
        · omega
      · have : m = n + 1 := by omega
        subst this; omega
theorem l2_least_loop {d P q : Nat} {w : Int32} {h : am_H} (hP : cl_Sp P h) (hq : q < P) (h0 : am_I h 22 q = 0) : ∀ (n r : Nat), n + r = q → 2 ≤ r → (∀ x, r ≤ x → x < q → am_I h 22 x ≠ 0) →
    am_Ex nm_pr d mt_Space_leastFree (6, [.ref 21, .int w, .int (nI r)], [], h) (fun o h' => o = .inl (some (.int (nI q))) ∧ h' = h)
  | n, r, hn, h2, hx => by
    obtain ⟨k21, r1, r2, r3, i0, k22, n22, k23, n23, k24, n24, p4, p1⟩ := id hP
    have l1 : nI r < nI P := nI_lt (by omega) (by omega)
    have i1 := am_inb (c := r) (N := P) (by omega) (by omega)
    have q1 : (nI r).toNatClampNeg = r := nI_clamp (by omega)
    refine am_go [14, 31] 4 ?_
    simp only [am_wp, am_stp, am_en, am_as, am_pad, am_nth, am_set, am_st1, am_st2, am_kl, am_kill, am_mem, am_fv, am_tk, am_wt, am_bk, Option.toList, List.cons_append, List.nil_append, Nat.reduceAdd, Nat.reduceEqDiff, Nat.reduceLeDiff, reduceIte, Nat.reduceLT, or_self, true_or, or_true, if_true, if_false, and_self, and_true, true_and, not_false_eq_true, not_true_eq_false, fd_Space_leastFree_6, fd_Space_leastFree_7, fd_Space_leastFree_8, fd_Space_leastFree_11, k21, i0, l1]
    by_cases e : r = q
    · subst e
      refine am_go [25] 8 ?_
      simp only [am_wp, am_stp, am_en, am_as, am_pad, am_nth, am_set, am_st1, am_st2, am_kl, am_kill, am_mem, am_fv, am_tk, am_wt, am_bk, Option.toList, List.cons_append, List.nil_append, Nat.reduceAdd, Nat.reduceEqDiff, Nat.reduceLeDiff, reduceIte, Nat.reduceLT, or_self, true_or, or_true, if_true, if_false, and_self, and_true, true_and, not_false_eq_true, not_true_eq_false, fd_Space_leastFree_14, fd_Space_leastFree_15, fd_Space_leastFree_18, fd_Space_leastFree_19, fd_Space_leastFree_20, fd_Space_leastFree_23, fd_Space_leastFree_24, k21, r1, k22, n22, i1, q1, h0]
    · have ne := hx r (Nat.le_refl _) (by omega)
      obtain ⟨n, rfl⟩ : ∃ k, n = k + 1 := ⟨n - 1, by omega⟩
      refine am_go [23, 6] 8 ?_
      simp only [am_wp, am_stp, am_en, am_as, am_pad, am_nth, am_set, am_st1, am_st2, am_kl, am_kill, am_mem, am_fv, am_tk, am_wt, am_bk, Option.toList, List.cons_append, List.nil_append, Nat.reduceAdd, Nat.reduceEqDiff, Nat.reduceLeDiff, reduceIte, Nat.reduceLT, or_self, true_or, or_true, if_true, if_false, and_self, and_true, true_and, not_false_eq_true, not_true_eq_false, fd_Space_leastFree_14, fd_Space_leastFree_15, fd_Space_leastFree_18, fd_Space_leastFree_19, fd_Space_leastFree_20, fd_Space_leastFree_25, fd_Space_leastFree_28, k21, r1, k22, n22, i1, q1, ne, nI_1]
      exact l2_least_loop hP hq h0 n (r + 1) (by omega) (by omega) (fun x x1 x2 => hx x (by omega) x2)
theorem mx_2 {a : Nat} (h2 : 2 ≤ a) (ha : a < 2 ^ 31) : am_mx 2 (nI a) = nI a := by
  unfold am_mx
  by_cases e : a = 2
  · subst e; decide
  · have l : (2 : Int32) < nI a := nI_lt (a := 2) (by omega) ha
    rw [if_pos l]
theorem l2_Sp_least {d P a q : Nat} {h : am_H} (hP : cl_Sp P h) (h2 : 2 ≤ a) (haq : a ≤ q) (hq : q < P) (h0 : am_I h 22 q = 0) (hx : ∀ x, a ≤ x → x < q → am_I h 22 x ≠ 0) : am_Rt nm_pr (d + 1) mi_Space_leastFree [.ref 21, .int (nI a)] h (fun o h' => o = .inl (some (.int (nI q))) ∧ h' = h) := by
  have p1 := hP.2.2.2.2.2.2.2.2.2.2.2.2
  refine am_in' mt_Space_leastFree 3 rfl rfl rfl ?_
  refine am_go [6] 5 ?_
  simp only [am_wp, am_stp, am_en, am_as, am_pad, am_nth, am_set, am_st1, am_st2, am_kl, am_kill, am_mem, am_fv, am_tk, am_wt, am_bk, Option.toList, List.cons_append, List.nil_append, Nat.reduceAdd, Nat.reduceEqDiff, Nat.reduceLeDiff, reduceIte, Nat.reduceLT, or_self, true_or, or_true, if_true, if_false, and_self, and_true, true_and, not_false_eq_true, not_true_eq_false, fd_Space_leastFree_0, fd_Space_leastFree_1, fd_Space_leastFree_2, fd_Space_leastFree_5, mx_2 h2 (show a < 2 ^ 31 by omega)]
  exact l2_least_loop hP hq h0 (q - a) a (by omega) h2 hx
theorem l2_claim {d P p : Nat} {nx : Int32} {fk : Int64} {h : am_H} (hP : cl_Sp P h) (h2 : 2 ≤ p) (hp : p < P) (h0 : am_I h 22 p = 0) : am_Rt nm_pr (d + 2) mi_Space_claim [.ref 21, .int (nI p), .int nx, .long fk] h (fun o h' => o = .inl none ∧ h' = am_sL (am_sI (am_sI (am_sI h 21 4 (am_I h 21 4 - 1)) 22 p 1) 23 p nx) 24 p fk) := by
  obtain ⟨k21, r1, r2, r3, i0, k22, n22, k23, n23, k24, n24, p4, p1⟩ := id hP
  have i1 := am_inb (c := p) (N := P) hp (by omega)
  have q1 : (nI p).toNatClampNeg = p := nI_clamp (by omega)
  have one0 : ¬ (1 : Int32) = 0 := by decide
  have e01 : (0 : Int32) + 1 = 1 := by decide
  refine am_in' (d := d + 1) mt_Space_claim 5 rfl rfl rfl ?_
  refine am_go [] 3 ?_
  simp only [am_wp, am_stp, am_en, am_as, am_pad, am_nth, am_set, am_st1, am_st2, am_kl, am_kill, am_mem, am_fv, am_tk, am_wt, am_bk, Option.toList, List.cons_append, List.nil_append, Nat.reduceAdd, Nat.reduceEqDiff, Nat.reduceLeDiff, reduceIte, Nat.reduceLT, or_self, true_or, or_true, if_true, if_false, and_self, and_true, true_and, not_false_eq_true, not_true_eq_false, fd_Space_claim_0, fd_Space_claim_1, fd_Space_claim_2, k21]
  refine am_call (l2_Sp_has hP h2 hp) (fun o h1 q => ?_)
  obtain ⟨rfl, rfl⟩ := q
  simp only [am_wp, am_stp, am_en, am_as, am_pad, am_nth, am_set, am_st1, am_st2, am_kl, am_kill, am_mem, am_fv, am_tk, am_wt, am_bk, Option.toList, List.cons_append, List.nil_append, Nat.reduceAdd, Nat.reduceEqDiff, Nat.reduceLeDiff, reduceIte, Nat.reduceLT, or_self, true_or, or_true, if_true, if_false, and_self, and_true, true_and, not_false_eq_true, not_true_eq_false]
  refine am_go [8, 27] 9 ?_
  simp only [am_wp, am_stp, am_en, am_as, am_pad, am_nth, am_set, am_st1, am_st2, am_kl, am_kill, am_mem, am_fv, am_tk, am_wt, am_bk, Option.toList, List.cons_append, List.nil_append, Nat.reduceAdd, Nat.reduceEqDiff, Nat.reduceLeDiff, reduceIte, Nat.reduceLT, or_self, true_or, or_true, if_true, if_false, and_self, and_true, true_and, not_false_eq_true, not_true_eq_false, fd_Space_claim_5, fd_Space_claim_8, fd_Space_claim_9, fd_Space_claim_10, fd_Space_claim_11, fd_Space_claim_14, fd_Space_claim_15, fd_Space_claim_18, fd_Space_claim_19, fd_Space_claim_20, k21, r1, k22, n22, i1, q1, one0, h0]
  refine am_go [] 4 ?_
  simp only [am_wp, am_stp, am_en, am_as, am_pad, am_nth, am_set, am_st1, am_st2, am_kl, am_kill, am_mem, am_fv, am_tk, am_wt, am_bk, Option.toList, List.cons_append, List.nil_append, Nat.reduceAdd, Nat.reduceEqDiff, Nat.reduceLeDiff, reduceIte, Nat.reduceLT, or_self, true_or, or_true, if_true, if_false, and_self, and_true, true_and, not_false_eq_true, not_true_eq_false, fd_Space_claim_23, fd_Space_claim_24, fd_Space_claim_27, fd_Space_claim_28, fd_Space_claim_29, k21]
  refine am_go [] 8 ?_
  simp only [am_wp, am_stp, am_en, am_as, am_pad, am_nth, am_set, am_st1, am_st2, am_kl, am_kill, am_mem, am_fv, am_tk, am_wt, am_bk, Option.toList, List.cons_append, List.nil_append, Nat.reduceAdd, Nat.reduceEqDiff, Nat.reduceLeDiff, reduceIte, Nat.reduceLT, or_self, true_or, or_true, if_true, if_false, and_self, and_true, true_and, not_false_eq_true, not_true_eq_false, fd_Space_claim_32, fd_Space_claim_33, fd_Space_claim_36, fd_Space_claim_37, fd_Space_claim_38, fd_Space_claim_39, fd_Space_claim_40, fd_Space_claim_41, hx_nx_sI, hx_ce_sI, hx_sl_sI, hx_kd_sI, hx_ln_sI, hx_I_sI, hx_L_sI, hx_R_sI, hx_nx_sL, hx_ce_sL, hx_sl_sL, hx_kd_sL, hx_ln_sL, hx_I_sL, hx_L_sL, hx_R_sL, hx_nx_sR, hx_ce_sR, hx_sl_sR, hx_kd_sR, hx_ln_sR, hx_I_sR, hx_L_sR, hx_R_sR, hx_nx_al, hx_ce_al, hx_sl_al, hx_kd_al, hx_ln_al, hx_I_al, hx_L_al, hx_R_al, hx_nx_row, hx_ce_row, hx_sl_row, hx_kd_row, hx_ln_row, hx_I_row, hx_L_row, hx_R_row, hx_nx_mk, hx_kd_mk, hx_ln_mk, hx_I_mk, hx_L_mk, hx_R_mk, k21, r1, k22, n22, i1, q1, h0, e01]
  refine am_go [] 11 ?_
  simp only [am_wp, am_stp, am_en, am_as, am_pad, am_nth, am_set, am_st1, am_st2, am_kl, am_kill, am_mem, am_fv, am_tk, am_wt, am_bk, Option.toList, List.cons_append, List.nil_append, Nat.reduceAdd, Nat.reduceEqDiff, Nat.reduceLeDiff, reduceIte, Nat.reduceLT, or_self, true_or, or_true, if_true, if_false, and_self, and_true, true_and, not_false_eq_true, not_true_eq_false, fd_Space_claim_42, fd_Space_claim_43, fd_Space_claim_46, fd_Space_claim_47, fd_Space_claim_48, fd_Space_claim_49, fd_Space_claim_50, fd_Space_claim_53, fd_Space_claim_54, fd_Space_claim_55, fd_Space_claim_56, hx_nx_sI, hx_ce_sI, hx_sl_sI, hx_kd_sI, hx_ln_sI, hx_I_sI, hx_L_sI, hx_R_sI, hx_nx_sL, hx_ce_sL, hx_sl_sL, hx_kd_sL, hx_ln_sL, hx_I_sL, hx_L_sL, hx_R_sL, hx_nx_sR, hx_ce_sR, hx_sl_sR, hx_kd_sR, hx_ln_sR, hx_I_sR, hx_L_sR, hx_R_sR, hx_nx_al, hx_ce_al, hx_sl_al, hx_kd_al, hx_ln_al, hx_I_al, hx_L_al, hx_R_al, hx_nx_row, hx_ce_row, hx_sl_row, hx_kd_row, hx_ln_row, hx_I_row, hx_L_row, hx_R_row, hx_nx_mk, hx_kd_mk, hx_ln_mk, hx_I_mk, hx_L_mk, hx_R_mk, k21, r2, r3, k23, n23, k24, n24, i1, q1]
/-- a chain of pages by numbers -/
def pc_L (P : Nat) (h : am_H) : List Nat → Prop
  | [] => True
  | p :: r => (2 ≤ p ∧ p < P) ∧ (match r with
    | [] => True
    | q :: _ => am_I h 23 p = nI q) ∧ pc_L P h r
theorem ch_C.pc {P : Nat} {h : am_H} : ∀ {ps : List (Nat × List ent)}, ch_C P h ps → pc_L P h (ps.map (·.1))
  | [], _ => trivial
  | q :: r, a => by
    refine ⟨⟨a.1.1, a.1.2.1.1⟩, ?_, a.2.2.pc⟩
    have := a.2.1
    cases r with
    | nil => trivial
    | cons q' r => exact this
theorem pc_L.eq {P : Nat} {h h' : am_H} : ∀ {l : List Nat}, pc_L P h l → am_I h' 23 = am_I h 23 → pc_L P h' l
  | [], _, _ => trivial
  | p :: r, a, e => by
    refine ⟨a.1, ?_, a.2.2.eq e⟩
    have := a.2.1
    cases r with
    | nil => trivial
    | cons q r => show am_I h' 23 p = nI q; rw [e]; exact this
theorem l2_giveBack_loop {d P a n : Nat} {h : am_H} (hP : cl_Sp P h) (ka : am_kd h a = 5) (i4 : am_I h a 4 = nI n) (hn : n < 2000) (ha : a ≠ 21 ∧ a ≠ 22) : ∀ (l : List Nat) (i fr : Nat) (w : Int32) (g : am_H), l.length + i = n → fr < 3000 → fr + l.length < 3000 → pc_L P h l → l.Nodup → (∀ p ∈ l, am_I g 22 p = 1) → (match l with
    | [] => True
    | p :: _ => w = nI p) → am_fi [21, 22] h g → am_I g 21 0 = am_I h 21 0 → am_I g 21 4 = nI fr →
    am_Ex nm_pr (d + 1) mt_Space_giveBack (7, [.ref 21, .ref a, .int w, .int (nI i)], [], g) (fun o h' => o = .inl none ∧ am_fi [21, 22] h h' ∧ am_I h' 21 0 = am_I h 21 0 ∧ am_I h' 21 4 = nI (fr + l.length) ∧ am_I h' 22 = fun q => if q ∈ l then 0 else am_I g 22 q)
  | [], i, fr, w, g, hl, hf, hf2, hc, hnd, h1, hw, F, j0, j4 => by
    have kg : am_kd g a = 5 := by rw [F.2.2.2.1]; exact ka
    have ig : am_I g a 4 = nI n := by rw [F.2.2.2.2.2.2.1 a (by simp; exact ha)]; exact i4
    have e : i = n := by simpa using hl
    subst e
    have l1 : ¬ nI i < nI i := nI_nlt (Nat.le_refl _) (by omega)
    refine am_go [15] 6 ?_
    simp only [am_wp, am_stp, am_en, am_as, am_pad, am_nth, am_set, am_st1, am_st2, am_kl, am_kill, am_mem, am_fv, am_tk, am_wt, am_bk, Option.toList, List.cons_append, List.nil_append, Nat.reduceAdd, Nat.reduceEqDiff, Nat.reduceLeDiff, reduceIte, Nat.reduceLT, or_self, true_or, or_true, if_true, if_false, and_self, and_true, true_and, not_false_eq_true, not_true_eq_false, fd_Space_giveBack_7, fd_Space_giveBack_8, fd_Space_giveBack_9, fd_Space_giveBack_12, fd_Space_giveBack_69, kg, ig, l1]
    refine ⟨F, j0, by simpa using j4, ?_⟩
    funext q
    simp
  | p :: r, i, fr, w, g, hl, hf, hf2, hc, hnd, h1, hw, F, j0, j4 => by
    have kg : am_kd g a = 5 := by rw [F.2.2.2.1]; exact ka
    have ig : am_I g a 4 = nI n := by rw [F.2.2.2.2.2.2.1 a (by simp; exact ha)]; exact i4
    have hPg : cl_Sp P g := by
      obtain ⟨b1, b2, b3, b4, b5, b6, b7, b8⟩ := F
      unfold cl_Sp at *
      rw [b4, b5, b6, j0]
      exact hP
    obtain ⟨k21, r1, r2, r3, i0, k22, n22, k23, n23, k24, n24, p4, p1⟩ := id hPg
    obtain ⟨⟨hp2, hpP⟩, hc2, hc3⟩ := id hc
    have ew : w = nI p := hw
    subst ew
    simp only [List.length_cons] at hl hf2
    have l1 : nI i < nI n := nI_lt (by omega) (by omega)
    have i1 := am_inb (c := p) (N := P) hpP (by omega)
    have q1 : (nI p).toNatClampNeg = p := nI_clamp (by omega)
    have one0 : ¬ (1 : Int32) = 0 := by decide
    have e10 : (1 : Int32) - 1 = 0 := by decide
    have v1 := h1 p (by simp)
    refine am_go [15, 69] 5 ?_
    simp only [am_wp, am_stp, am_en, am_as, am_pad, am_nth, am_set, am_st1, am_st2, am_kl, am_kill, am_mem, am_fv, am_tk, am_wt, am_bk, Option.toList, List.cons_append, List.nil_append, Nat.reduceAdd, Nat.reduceEqDiff, Nat.reduceLeDiff, reduceIte, Nat.reduceLT, or_self, true_or, or_true, if_true, if_false, and_self, and_true, true_and, not_false_eq_true, not_true_eq_false, fd_Space_giveBack_7, fd_Space_giveBack_8, fd_Space_giveBack_9, fd_Space_giveBack_12, kg, ig, l1]
    refine am_go [] 3 ?_
    simp only [am_wp, am_stp, am_en, am_as, am_pad, am_nth, am_set, am_st1, am_st2, am_kl, am_kill, am_mem, am_fv, am_tk, am_wt, am_bk, Option.toList, List.cons_append, List.nil_append, Nat.reduceAdd, Nat.reduceEqDiff, Nat.reduceLeDiff, reduceIte, Nat.reduceLT, or_self, true_or, or_true, if_true, if_false, and_self, and_true, true_and, not_false_eq_true, not_true_eq_false, fd_Space_giveBack_15, fd_Space_giveBack_16, fd_Space_giveBack_17, k21]
    refine am_call (l2_Sp_has hPg hp2 hpP) (fun o g1 q => ?_)
    obtain ⟨rfl, rfl⟩ := q
    simp only [am_wp, am_stp, am_en, am_as, am_pad, am_nth, am_set, am_st1, am_st2, am_kl, am_kill, am_mem, am_fv, am_tk, am_wt, am_bk, Option.toList, List.cons_append, List.nil_append, Nat.reduceAdd, Nat.reduceEqDiff, Nat.reduceLeDiff, reduceIte, Nat.reduceLT, or_self, true_or, or_true, if_true, if_false, and_self, and_true, true_and, not_false_eq_true, not_true_eq_false]
    refine am_go [69] 9 ?_
    simp only [am_wp, am_stp, am_en, am_as, am_pad, am_nth, am_set, am_st1, am_st2, am_kl, am_kill, am_mem, am_fv, am_tk, am_wt, am_bk, Option.toList, List.cons_append, List.nil_append, Nat.reduceAdd, Nat.reduceEqDiff, Nat.reduceLeDiff, reduceIte, Nat.reduceLT, or_self, true_or, or_true, if_true, if_false, and_self, and_true, true_and, not_false_eq_true, not_true_eq_false, fd_Space_giveBack_20, fd_Space_giveBack_23, fd_Space_giveBack_24, fd_Space_giveBack_27, fd_Space_giveBack_28, fd_Space_giveBack_29, fd_Space_giveBack_30, fd_Space_giveBack_31, fd_Space_giveBack_32, k21, r1, k22, n22, i1, q1, one0, v1, e10]
    refine am_go [51, 52] 10 ?_
    simp only [am_wp, am_stp, am_en, am_as, am_pad, am_nth, am_set, am_st1, am_st2, am_kl, am_kill, am_mem, am_fv, am_tk, am_wt, am_bk, Option.toList, List.cons_append, List.nil_append, Nat.reduceAdd, Nat.reduceEqDiff, Nat.reduceLeDiff, reduceIte, Nat.reduceLT, or_self, true_or, or_true, if_true, if_false, and_self, and_true, true_and, not_false_eq_true, not_true_eq_false, fd_Space_giveBack_33, fd_Space_giveBack_34, fd_Space_giveBack_35, fd_Space_giveBack_38, fd_Space_giveBack_39, fd_Space_giveBack_42, fd_Space_giveBack_43, fd_Space_giveBack_44, fd_Space_giveBack_47, fd_Space_giveBack_48, hx_nx_sI, hx_ce_sI, hx_sl_sI, hx_kd_sI, hx_ln_sI, hx_I_sI, hx_L_sI, hx_R_sI, hx_nx_sL, hx_ce_sL, hx_sl_sL, hx_kd_sL, hx_ln_sL, hx_I_sL, hx_L_sL, hx_R_sL, hx_nx_sR, hx_ce_sR, hx_sl_sR, hx_kd_sR, hx_ln_sR, hx_I_sR, hx_L_sR, hx_R_sR, hx_nx_al, hx_ce_al, hx_sl_al, hx_kd_al, hx_ln_al, hx_I_al, hx_L_al, hx_R_al, hx_nx_row, hx_ce_row, hx_sl_row, hx_kd_row, hx_ln_row, hx_I_row, hx_L_row, hx_R_row, hx_nx_mk, hx_kd_mk, hx_ln_mk, hx_I_mk, hx_L_mk, hx_R_mk, k21, r1, k22, n22, i1, q1, j4]
    refine am_go [] 2 ?_
    simp only [am_wp, am_stp, am_en, am_as, am_pad, am_nth, am_set, am_st1, am_st2, am_kl, am_kill, am_mem, am_fv, am_tk, am_wt, am_bk, Option.toList, List.cons_append, List.nil_append, Nat.reduceAdd, Nat.reduceEqDiff, Nat.reduceLeDiff, reduceIte, Nat.reduceLT, or_self, true_or, or_true, if_true, if_false, and_self, and_true, true_and, not_false_eq_true, not_true_eq_false, fd_Space_giveBack_52, fd_Space_giveBack_53, hx_nx_sI, hx_ce_sI, hx_sl_sI, hx_kd_sI, hx_ln_sI, hx_I_sI, hx_L_sI, hx_R_sI, hx_nx_sL, hx_ce_sL, hx_sl_sL, hx_kd_sL, hx_ln_sL, hx_I_sL, hx_L_sL, hx_R_sL, hx_nx_sR, hx_ce_sR, hx_sl_sR, hx_kd_sR, hx_ln_sR, hx_I_sR, hx_L_sR, hx_R_sR, hx_nx_al, hx_ce_al, hx_sl_al, hx_kd_al, hx_ln_al, hx_I_al, hx_L_al, hx_R_al, hx_nx_row, hx_ce_row, hx_sl_row, hx_kd_row, hx_ln_row, hx_I_row, hx_L_row, hx_R_row, hx_nx_mk, hx_kd_mk, hx_ln_mk, hx_I_mk, hx_L_mk, hx_R_mk, k21, nI_1]
    refine am_go [7] 7 ?_
    simp only [am_wp, am_stp, am_en, am_as, am_pad, am_nth, am_set, am_st1, am_st2, am_kl, am_kill, am_mem, am_fv, am_tk, am_wt, am_bk, Option.toList, List.cons_append, List.nil_append, Nat.reduceAdd, Nat.reduceEqDiff, Nat.reduceLeDiff, reduceIte, Nat.reduceLT, or_self, true_or, or_true, if_true, if_false, and_self, and_true, true_and, not_false_eq_true, not_true_eq_false, fd_Space_giveBack_56, fd_Space_giveBack_57, fd_Space_giveBack_60, fd_Space_giveBack_61, fd_Space_giveBack_62, fd_Space_giveBack_63, fd_Space_giveBack_66, hx_nx_sI, hx_ce_sI, hx_sl_sI, hx_kd_sI, hx_ln_sI, hx_I_sI, hx_L_sI, hx_R_sI, hx_nx_sL, hx_ce_sL, hx_sl_sL, hx_kd_sL, hx_ln_sL, hx_I_sL, hx_L_sL, hx_R_sL, hx_nx_sR, hx_ce_sR, hx_sl_sR, hx_kd_sR, hx_ln_sR, hx_I_sR, hx_L_sR, hx_R_sR, hx_nx_al, hx_ce_al, hx_sl_al, hx_kd_al, hx_ln_al, hx_I_al, hx_L_al, hx_R_al, hx_nx_row, hx_ce_row, hx_sl_row, hx_kd_row, hx_ln_row, hx_I_row, hx_L_row, hx_R_row, hx_nx_mk, hx_kd_mk, hx_ln_mk, hx_I_mk, hx_L_mk, hx_R_mk, k21, r2, k23, n23, i1, q1, nI_1]
    have F' : am_fi [21, 22] h (am_sI (am_sI g1 22 p 0) 21 4 (nI (fr + 1))) := (F.sI (by simp)).sI (by simp)
    have x0 : am_I (am_sI (am_sI g1 22 p 0) 21 4 (nI (fr + 1))) 21 0 = am_I h 21 0 := by simp only [hx_nx_sI, hx_ce_sI, hx_sl_sI, hx_kd_sI, hx_ln_sI, hx_I_sI, hx_L_sI, hx_R_sI, hx_nx_sL, hx_ce_sL, hx_sl_sL, hx_kd_sL, hx_ln_sL, hx_I_sL, hx_L_sL, hx_R_sL, hx_nx_sR, hx_ce_sR, hx_sl_sR, hx_kd_sR, hx_ln_sR, hx_I_sR, hx_L_sR, hx_R_sR, hx_nx_al, hx_ce_al, hx_sl_al, hx_kd_al, hx_ln_al, hx_I_al, hx_L_al, hx_R_al, hx_nx_row, hx_ce_row, hx_sl_row, hx_kd_row, hx_ln_row, hx_I_row, hx_L_row, hx_R_row, hx_nx_mk, hx_kd_mk, hx_ln_mk, hx_I_mk, hx_L_mk, hx_R_mk, am_wp, am_stp, am_en, am_as, am_pad, am_nth, am_set, am_st1, am_st2, am_kl, am_kill, am_mem, am_fv, am_tk, am_wt, am_bk, Option.toList, List.cons_append, List.nil_append, Nat.reduceAdd, Nat.reduceEqDiff, Nat.reduceLeDiff, reduceIte, Nat.reduceLT, or_self, true_or, or_true, if_true, if_false, and_self, and_true, true_and, not_false_eq_true, not_true_eq_false]; exact j0
    have x4 : am_I (am_sI (am_sI g1 22 p 0) 21 4 (nI (fr + 1))) 21 4 = nI (fr + 1) := by simp only [hx_nx_sI, hx_ce_sI, hx_sl_sI, hx_kd_sI, hx_ln_sI, hx_I_sI, hx_L_sI, hx_R_sI, hx_nx_sL, hx_ce_sL, hx_sl_sL, hx_kd_sL, hx_ln_sL, hx_I_sL, hx_L_sL, hx_R_sL, hx_nx_sR, hx_ce_sR, hx_sl_sR, hx_kd_sR, hx_ln_sR, hx_I_sR, hx_L_sR, hx_R_sR, hx_nx_al, hx_ce_al, hx_sl_al, hx_kd_al, hx_ln_al, hx_I_al, hx_L_al, hx_R_al, hx_nx_row, hx_ce_row, hx_sl_row, hx_kd_row, hx_ln_row, hx_I_row, hx_L_row, hx_R_row, hx_nx_mk, hx_kd_mk, hx_ln_mk, hx_I_mk, hx_L_mk, hx_R_mk, am_wp, am_stp, am_en, am_as, am_pad, am_nth, am_set, am_st1, am_st2, am_kl, am_kill, am_mem, am_fv, am_tk, am_wt, am_bk, Option.toList, List.cons_append, List.nil_append, Nat.reduceAdd, Nat.reduceEqDiff, Nat.reduceLeDiff, reduceIte, Nat.reduceLT, or_self, true_or, or_true, if_true, if_false, and_self, and_true, true_and, not_false_eq_true, not_true_eq_false]
    have x22 : am_I (am_sI (am_sI g1 22 p 0) 21 4 (nI (fr + 1))) 22 = fun q => if q = p then 0 else am_I g1 22 q := by funext q; simp only [hx_nx_sI, hx_ce_sI, hx_sl_sI, hx_kd_sI, hx_ln_sI, hx_I_sI, hx_L_sI, hx_R_sI, hx_nx_sL, hx_ce_sL, hx_sl_sL, hx_kd_sL, hx_ln_sL, hx_I_sL, hx_L_sL, hx_R_sL, hx_nx_sR, hx_ce_sR, hx_sl_sR, hx_kd_sR, hx_ln_sR, hx_I_sR, hx_L_sR, hx_R_sR, hx_nx_al, hx_ce_al, hx_sl_al, hx_kd_al, hx_ln_al, hx_I_al, hx_L_al, hx_R_al, hx_nx_row, hx_ce_row, hx_sl_row, hx_kd_row, hx_ln_row, hx_I_row, hx_L_row, hx_R_row, hx_nx_mk, hx_kd_mk, hx_ln_mk, hx_I_mk, hx_L_mk, hx_R_mk, am_wp, am_stp, am_en, am_as, am_pad, am_nth, am_set, am_st1, am_st2, am_kl, am_kill, am_mem, am_fv, am_tk, am_wt, am_bk, Option.toList, List.cons_append, List.nil_append, Nat.reduceAdd, Nat.reduceEqDiff, Nat.reduceLeDiff, reduceIte, Nat.reduceLT, or_self, true_or, or_true, if_true, if_false, and_self, and_true, true_and, not_false_eq_true, not_true_eq_false]
    have x23 : am_I g1 23 = am_I h 23 := F.2.2.2.2.2.2.1 23 (by simp)
    generalize am_sI (am_sI g1 22 p 0) 21 4 (nI (fr + 1)) = g2 at F' x0 x4 x22 ⊢
    have hnr := (List.nodup_cons.mp hnd)
    have := l2_giveBack_loop (d := d) hP ka i4 hn ha r (i + 1) (fr + 1) (am_I g1 23 p) g2 (by omega) (by omega) (by omega) hc3 hnr.2 (fun x hx => by
      rw [x22]
      have : x ≠ p := fun e => hnr.1 (e ▸ hx)
      dsimp only
      rw [if_neg this]
      exact h1 x (by simp [hx])) (by
      cases r with
      | nil => trivial
      | cons q r => show am_I g1 23 p = nI q; rw [x23]; exact hc2) F' x0 x4
    refine am_Ex_mono (fun o h' z => ?_) this
    obtain ⟨z1, z2, z3, z4, z5⟩ := z
    refine ⟨z1, z2, z3, by rw [z4]; congr 1; simp only [List.length_cons]; omega, ?_⟩
    rw [z5, x22]
    funext q
    by_cases e : q = p
    · subst e; simp
    · simp [e]
theorem l2_giveBack {d P a fr : Nat} {l : List Nat} {h : am_H} (hP : cl_Sp P h) (ka : am_kd h a = 5) (i4 : am_I h a 4 = nI l.length) (hl : l.length < 1500) (hf : fr < 1500) (ha : a ≠ 21 ∧ a ≠ 22) (hc : pc_L P h l) (hnd : l.Nodup) (h1 : ∀ p ∈ l, am_I h 22 p = 1) (h3 : ∀ p, l.head? = some p → am_I h a 3 = nI p) (j4 : am_I h 21 4 = nI fr) : am_Rt nm_pr (d + 2) mi_Space_giveBack [.ref 21, .ref a] h (fun o h' => o = .inl none ∧ am_fi [21, 22] h h' ∧ am_I h' 21 0 = am_I h 21 0 ∧ am_I h' 21 4 = nI (fr + l.length) ∧ am_I h' 22 = fun q => if q ∈ l then 0 else am_I h 22 q) := by
  refine am_in' (d := d + 1) mt_Space_giveBack 4 rfl rfl rfl ?_
  refine am_go [7] 6 ?_
  simp only [am_wp, am_stp, am_en, am_as, am_pad, am_nth, am_set, am_st1, am_st2, am_kl, am_kill, am_mem, am_fv, am_tk, am_wt, am_bk, Option.toList, List.cons_append, List.nil_append, Nat.reduceAdd, Nat.reduceEqDiff, Nat.reduceLeDiff, reduceIte, Nat.reduceLT, or_self, true_or, or_true, if_true, if_false, and_self, and_true, true_and, not_false_eq_true, not_true_eq_false, fd_Space_giveBack_0, fd_Space_giveBack_1, fd_Space_giveBack_4, fd_Space_giveBack_5, fd_Space_giveBack_6, ka]
  exact l2_giveBack_loop hP ka i4 (by omega) ha l 0 fr (am_I h a 3) h (by simp) (by omega) (by omega) hc hnd h1 (by
    cases l with
    | nil => trivial
    | cons p r => exact h3 p rfl) am_fi.refl rfl j4
/-! A RUN notes a key: a frame -/
theorem and7 (x : Int32) : ∃ k, k < 8 ∧ x &&& 7 = nI k := by
  refine ⟨(x &&& 7).toBitVec.toNat, ?_, ?_⟩
  · rw [Int32.toBitVec_and, BitVec.toNat_and]
    have : ((7 : Int32).toBitVec).toNat = 7 := by decide
    rw [this]
    have := Nat.and_le_right (n := x.toBitVec.toNat) (m := 7)
    omega
  · apply Int32.toBitVec_inj.mp
    show _ = BitVec.ofNat 32 _
    rw [BitVec.ofNat_toNat]
    simp
theorem l2_setBit {d a b : Nat} {z : Int64} {h : am_H} (ka : am_kd h a = 5) (r2 : am_R h a 2 = b) (kb : am_kd h b = 101) (nb : am_ln h b = 8) : am_Rt nm_pr (d + 1) mi_Run_setBit [.ref a, .long z] h (fun o h' => o = .inl none ∧ ∃ i v, h' = am_sL h b i v) := by
  obtain ⟨k, hk, ek⟩ := and7 ((z.toUInt64 >>> ((6 : Int32).toInt64.toUInt64 &&& Int64.toUInt64 63)).toInt64.toInt32)
  have i1 := am_inb (c := k) (N := 8) hk (by omega)
  have q1 : (nI k).toNatClampNeg = k := nI_clamp (by omega)
  refine am_in' mt_Run_setBit 3 rfl rfl rfl ?_
  refine am_go [] 8 ?_
  simp only [am_wp, am_stp, am_en, am_as, am_pad, am_nth, am_set, am_st1, am_st2, am_kl, am_kill, am_mem, am_fv, am_tk, am_wt, am_bk, Option.toList, List.cons_append, List.nil_append, Nat.reduceAdd, Nat.reduceEqDiff, Nat.reduceLeDiff, reduceIte, Nat.reduceLT, or_self, true_or, or_true, if_true, if_false, and_self, and_true, true_and, not_false_eq_true, not_true_eq_false, fd_Run_setBit_0, fd_Run_setBit_1, fd_Run_setBit_4, fd_Run_setBit_5, fd_Run_setBit_7, fd_Run_setBit_8, fd_Run_setBit_9, fd_Run_setBit_11, ka, r2]
  rw [ek]
  refine am_go [] 11 ?_
  simp only [am_wp, am_stp, am_en, am_as, am_pad, am_nth, am_set, am_st1, am_st2, am_kl, am_kill, am_mem, am_fv, am_tk, am_wt, am_bk, Option.toList, List.cons_append, List.nil_append, Nat.reduceAdd, Nat.reduceEqDiff, Nat.reduceLeDiff, reduceIte, Nat.reduceLT, or_self, true_or, or_true, if_true, if_false, and_self, and_true, true_and, not_false_eq_true, not_true_eq_false, fd_Run_setBit_12, fd_Run_setBit_13, fd_Run_setBit_14, fd_Run_setBit_15, fd_Run_setBit_16, fd_Run_setBit_19, fd_Run_setBit_20, fd_Run_setBit_21, fd_Run_setBit_22, fd_Run_setBit_23, fd_Run_setBit_24, kb, nb, i1, q1]
  exact ⟨_, _, rfl⟩
theorem l2_hashOf {d a : Nat} {z : Int64} {h : am_H} (ka : am_kd h a = 5) : am_Rt nm_pr (d + 1) mi_Run_hashOf [.ref a, .long z] h (fun o h' => (∃ v, o = .inl (some (.long v))) ∧ h' = h) := by
  refine am_in' mt_Run_hashOf 3 rfl rfl rfl ?_
  refine am_go [] 10 ?_
  simp only [am_wp, am_stp, am_en, am_as, am_pad, am_nth, am_set, am_st1, am_st2, am_kl, am_kill, am_mem, am_fv, am_tk, am_wt, am_bk, Option.toList, List.cons_append, List.nil_append, Nat.reduceAdd, Nat.reduceEqDiff, Nat.reduceLeDiff, reduceIte, Nat.reduceLT, or_self, true_or, or_true, if_true, if_false, and_self, and_true, true_and, not_false_eq_true, not_true_eq_false, fd_Run_hashOf_0, fd_Run_hashOf_1, fd_Run_hashOf_4, fd_Run_hashOf_5, fd_Run_hashOf_8, fd_Run_hashOf_9, fd_Run_hashOf_10, fd_Run_hashOf_11, fd_Run_hashOf_14, fd_Run_hashOf_15, ka]
  exact ⟨_, rfl⟩
/-- a run keeps its number, level, pages -/
def nt_S (a b : Nat) (h h' : am_H) : Prop := am_fi [a, b] h h' ∧ ∀ j, j ≠ 5 → am_I h' a j = am_I h a j
theorem l2_note {d a b : Nat} {z : Int64} {h : am_H} (ka : am_kd h a = 5) (r2 : am_R h a 2 = b) (kb : am_kd h b = 101) (nb : am_ln h b = 8) : am_Rt nm_pr (d + 2) mi_Run_note [.ref a, .long z] h (fun o h' => o = .inl none ∧ nt_S a b h h') := by
  refine am_in' (d := d + 1) mt_Run_note 5 rfl rfl rfl ?_
  have mid : ∀ g, nt_S a b h g → am_Ex nm_pr (d + 1) mt_Run_note (12, [.ref a, .long z, .retAddr 0, .retAddr 0, .retAddr 0], [], g) (fun o h' => o = .inl none ∧ nt_S a b h h') := by
    intro g N
    have kg : am_kd g a = 5 := by rw [N.1.2.2.2.1]; exact ka
    refine am_go [] 12 ?_
    simp only [am_wp, am_stp, am_en, am_as, am_pad, am_nth, am_set, am_st1, am_st2, am_kl, am_kill, am_mem, am_fv, am_tk, am_wt, am_bk, Option.toList, List.cons_append, List.nil_append, Nat.reduceAdd, Nat.reduceEqDiff, Nat.reduceLeDiff, reduceIte, Nat.reduceLT, or_self, true_or, or_true, if_true, if_false, and_self, and_true, true_and, not_false_eq_true, not_true_eq_false, fd_Run_note_12, fd_Run_note_13, fd_Run_note_14, fd_Run_note_17, fd_Run_note_18, fd_Run_note_19, fd_Run_note_22, fd_Run_note_23, fd_Run_note_24, fd_Run_note_27, fd_Run_note_28, fd_Run_note_29, hx_nx_sI, hx_ce_sI, hx_sl_sI, hx_kd_sI, hx_ln_sI, hx_I_sI, hx_L_sI, hx_R_sI, hx_nx_sL, hx_ce_sL, hx_sl_sL, hx_kd_sL, hx_ln_sL, hx_I_sL, hx_L_sL, hx_R_sL, hx_nx_sR, hx_ce_sR, hx_sl_sR, hx_kd_sR, hx_ln_sR, hx_I_sR, hx_L_sR, hx_R_sR, hx_nx_al, hx_ce_al, hx_sl_al, hx_kd_al, hx_ln_al, hx_I_al, hx_L_al, hx_R_al, hx_nx_row, hx_ce_row, hx_sl_row, hx_kd_row, hx_ln_row, hx_I_row, hx_L_row, hx_R_row, hx_nx_mk, hx_kd_mk, hx_ln_mk, hx_I_mk, hx_L_mk, hx_R_mk, kg]
    have N1 : nt_S a b h (am_sI (am_sL g a 7 z) a 5 (am_I g a 5 + 1)) := by
      refine ⟨(N.1.sL (by simp)).sI (by simp), fun j hj => ?_⟩
      simp only [hx_nx_sI, hx_ce_sI, hx_sl_sI, hx_kd_sI, hx_ln_sI, hx_I_sI, hx_L_sI, hx_R_sI, hx_nx_sL, hx_ce_sL, hx_sl_sL, hx_kd_sL, hx_ln_sL, hx_I_sL, hx_L_sL, hx_R_sL, hx_nx_sR, hx_ce_sR, hx_sl_sR, hx_kd_sR, hx_ln_sR, hx_I_sR, hx_L_sR, hx_R_sR, hx_nx_al, hx_ce_al, hx_sl_al, hx_kd_al, hx_ln_al, hx_I_al, hx_L_al, hx_R_al, hx_nx_row, hx_ce_row, hx_sl_row, hx_kd_row, hx_ln_row, hx_I_row, hx_L_row, hx_R_row, hx_nx_mk, hx_kd_mk, hx_ln_mk, hx_I_mk, hx_L_mk, hx_R_mk, am_wp, am_stp, am_en, am_as, am_pad, am_nth, am_set, am_st1, am_st2, am_kl, am_kill, am_mem, am_fv, am_tk, am_wt, am_bk, Option.toList, List.cons_append, List.nil_append, Nat.reduceAdd, Nat.reduceEqDiff, Nat.reduceLeDiff, reduceIte, Nat.reduceLT, or_self, true_or, or_true, if_true, if_false, and_self, and_true, true_and, not_false_eq_true, not_true_eq_false, hj]
      exact N.2 j hj
    generalize am_sI (am_sL g a 7 z) a 5 (am_I g a 5 + 1) = g1 at N1 ⊢
    have K : ∀ x, nt_S a b h x → am_kd x a = 5 ∧ am_R x a 2 = b ∧ am_kd x b = 101 ∧ am_ln x b = 8 := fun x X => ⟨by rw [X.1.2.2.2.1]; exact ka, by rw [X.1.2.2.2.2.2.1]; exact r2, by rw [X.1.2.2.2.1]; exact kb, by rw [X.1.2.2.2.2.1]; exact nb⟩
    have B : ∀ x i v, nt_S a b h x → nt_S a b h (am_sL x b i v) := fun x i v X => ⟨X.1.sL (by simp), X.2⟩
    obtain ⟨a1, a2, a3, a4⟩ := K g1 N1
    refine am_call (l2_hashOf (d := d) a1) (fun o g2 q => ?_)
    obtain ⟨⟨v, rfl⟩, rfl⟩ := q
    simp only [am_wp, am_stp, am_en, am_as, am_pad, am_nth, am_set, am_st1, am_st2, am_kl, am_kill, am_mem, am_fv, am_tk, am_wt, am_bk, Option.toList, List.cons_append, List.nil_append, Nat.reduceAdd, Nat.reduceEqDiff, Nat.reduceLeDiff, reduceIte, Nat.reduceLT, or_self, true_or, or_true, if_true, if_false, and_self, and_true, true_and, not_false_eq_true, not_true_eq_false]
    refine am_go [] 6 ?_
    simp only [am_wp, am_stp, am_en, am_as, am_pad, am_nth, am_set, am_st1, am_st2, am_kl, am_kill, am_mem, am_fv, am_tk, am_wt, am_bk, Option.toList, List.cons_append, List.nil_append, Nat.reduceAdd, Nat.reduceEqDiff, Nat.reduceLeDiff, reduceIte, Nat.reduceLT, or_self, true_or, or_true, if_true, if_false, and_self, and_true, true_and, not_false_eq_true, not_true_eq_false, fd_Run_note_32, fd_Run_note_33, fd_Run_note_34, fd_Run_note_35, fd_Run_note_37, fd_Run_note_38, a1]
    refine am_call (l2_setBit (d := d) a1 a2 a3 a4) (fun o g3 q => ?_)
    obtain ⟨rfl, i3, v3, e3⟩ := q
    have N3 : nt_S a b h g3 := by rw [e3]; exact B _ _ _ N1
    obtain ⟨b1, b2, b3, b4⟩ := K g3 N3
    simp only [am_wp, am_stp, am_en, am_as, am_pad, am_nth, am_set, am_st1, am_st2, am_kl, am_kill, am_mem, am_fv, am_tk, am_wt, am_bk, Option.toList, List.cons_append, List.nil_append, Nat.reduceAdd, Nat.reduceEqDiff, Nat.reduceLeDiff, reduceIte, Nat.reduceLT, or_self, true_or, or_true, if_true, if_false, and_self, and_true, true_and, not_false_eq_true, not_true_eq_false]
    refine am_go [] 5 ?_
    simp only [am_wp, am_stp, am_en, am_as, am_pad, am_nth, am_set, am_st1, am_st2, am_kl, am_kill, am_mem, am_fv, am_tk, am_wt, am_bk, Option.toList, List.cons_append, List.nil_append, Nat.reduceAdd, Nat.reduceEqDiff, Nat.reduceLeDiff, reduceIte, Nat.reduceLT, or_self, true_or, or_true, if_true, if_false, and_self, and_true, true_and, not_false_eq_true, not_true_eq_false, fd_Run_note_41, fd_Run_note_42, fd_Run_note_43, fd_Run_note_45, fd_Run_note_46, b1]
    refine am_call (l2_setBit (d := d) b1 b2 b3 b4) (fun o g4 q => ?_)
    obtain ⟨rfl, i4, v4, e4⟩ := q
    have N4 : nt_S a b h g4 := by rw [e4]; exact B _ _ _ N3
    obtain ⟨c1, c2, c3, c4⟩ := K g4 N4
    simp only [am_wp, am_stp, am_en, am_as, am_pad, am_nth, am_set, am_st1, am_st2, am_kl, am_kill, am_mem, am_fv, am_tk, am_wt, am_bk, Option.toList, List.cons_append, List.nil_append, Nat.reduceAdd, Nat.reduceEqDiff, Nat.reduceLeDiff, reduceIte, Nat.reduceLT, or_self, true_or, or_true, if_true, if_false, and_self, and_true, true_and, not_false_eq_true, not_true_eq_false]
    refine am_go [] 5 ?_
    simp only [am_wp, am_stp, am_en, am_as, am_pad, am_nth, am_set, am_st1, am_st2, am_kl, am_kill, am_mem, am_fv, am_tk, am_wt, am_bk, Option.toList, List.cons_append, List.nil_append, Nat.reduceAdd, Nat.reduceEqDiff, Nat.reduceLeDiff, reduceIte, Nat.reduceLT, or_self, true_or, or_true, if_true, if_false, and_self, and_true, true_and, not_false_eq_true, not_true_eq_false, fd_Run_note_49, fd_Run_note_50, fd_Run_note_51, fd_Run_note_53, fd_Run_note_54, c1]
    refine am_call (l2_setBit (d := d) c1 c2 c3 c4) (fun o g5 q => ?_)
    obtain ⟨rfl, i5, v5, e5⟩ := q
    have N5 : nt_S a b h g5 := by rw [e5]; exact B _ _ _ N4
    simp only [am_wp, am_stp, am_en, am_as, am_pad, am_nth, am_set, am_st1, am_st2, am_kl, am_kill, am_mem, am_fv, am_tk, am_wt, am_bk, Option.toList, List.cons_append, List.nil_append, Nat.reduceAdd, Nat.reduceEqDiff, Nat.reduceLeDiff, reduceIte, Nat.reduceLT, or_self, true_or, or_true, if_true, if_false, and_self, and_true, true_and, not_false_eq_true, not_true_eq_false]
    refine am_go [] 2 ?_
    simp only [am_wp, am_stp, am_en, am_as, am_pad, am_nth, am_set, am_st1, am_st2, am_kl, am_kill, am_mem, am_fv, am_tk, am_wt, am_bk, Option.toList, List.cons_append, List.nil_append, Nat.reduceAdd, Nat.reduceEqDiff, Nat.reduceLeDiff, reduceIte, Nat.reduceLT, or_self, true_or, or_true, if_true, if_false, and_self, and_true, true_and, not_false_eq_true, not_true_eq_false, fd_Run_note_57]
    exact N5
  refine am_go [7, 12] 3 ?_
  simp only [am_wp, am_stp, am_en, am_as, am_pad, am_nth, am_set, am_st1, am_st2, am_kl, am_kill, am_mem, am_fv, am_tk, am_wt, am_bk, Option.toList, List.cons_append, List.nil_append, Nat.reduceAdd, Nat.reduceEqDiff, Nat.reduceLeDiff, reduceIte, Nat.reduceLT, or_self, true_or, or_true, if_true, if_false, and_self, and_true, true_and, not_false_eq_true, not_true_eq_false, fd_Run_note_0, fd_Run_note_1, fd_Run_note_4, ka]
  by_cases e : am_I h a 5 = 0
  · simp only [e, am_wp, am_stp, am_en, am_as, am_pad, am_nth, am_set, am_st1, am_st2, am_kl, am_kill, am_mem, am_fv, am_tk, am_wt, am_bk, Option.toList, List.cons_append, List.nil_append, Nat.reduceAdd, Nat.reduceEqDiff, Nat.reduceLeDiff, reduceIte, Nat.reduceLT, or_self, true_or, or_true, if_true, if_false, and_self, and_true, true_and, not_false_eq_true, not_true_eq_false]
    refine am_go [12] 3 ?_
    simp only [am_wp, am_stp, am_en, am_as, am_pad, am_nth, am_set, am_st1, am_st2, am_kl, am_kill, am_mem, am_fv, am_tk, am_wt, am_bk, Option.toList, List.cons_append, List.nil_append, Nat.reduceAdd, Nat.reduceEqDiff, Nat.reduceLeDiff, reduceIte, Nat.reduceLT, or_self, true_or, or_true, if_true, if_false, and_self, and_true, true_and, not_false_eq_true, not_true_eq_false, fd_Run_note_7, fd_Run_note_8, fd_Run_note_9, ka]
    exact mid _ ⟨am_fi.refl.sL (by simp), fun j _ => rfl⟩
  · simp only [e, am_wp, am_stp, am_en, am_as, am_pad, am_nth, am_set, am_st1, am_st2, am_kl, am_kill, am_mem, am_fv, am_tk, am_wt, am_bk, Option.toList, List.cons_append, List.nil_append, Nat.reduceAdd, Nat.reduceEqDiff, Nat.reduceLeDiff, reduceIte, Nat.reduceLT, or_self, true_or, or_true, if_true, if_false, and_self, and_true, true_and, not_false_eq_true, not_true_eq_false]
    exact mid h ⟨am_fi.refl, fun j _ => rfl⟩
