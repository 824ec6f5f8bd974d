/-! THE CLASS'S CELLS, WEAKLY: kinds, lengths, refs; bounds of some ints -/
def wn (m : Nat) (v : Int32) : Prop := ∃ n, n ≤ m ∧ v = nI n
def wk_kd : List (Nat × Nat) := [(2, 1), (3, 10), (4, 101), (5, 100), (6, 101), (7, 3), (8, 6), (9, 200), (12, 201), (13, 3), (14, 8), (15, 102), (16, 101), (17, 101), (18, 4), (19, 102), (20, 103), (21, 9), (22, 100), (23, 100), (24, 101), (25, 2), (26, 3), (27, 202), (28, 203), (29, 11), (30, 7), (31, 7), (32, 7), (33, 7), (34, 7), (35, 7), (36, 7), (37, 7), (38, 7), (39, 7), (40, 6), (41, 200), (44, 6), (45, 200), (48, 6), (49, 200), (52, 6), (53, 200), (56, 6), (57, 200), (60, 6), (61, 200), (64, 6), (65, 200), (68, 6), (69, 200)]
def wk_ln : List (Nat × Nat) := [(4, 64), (5, 64), (6, 64), (9, 9), (12, 8), (15, 128), (16, 200), (17, 200), (27, 9), (28, 10), (41, 9), (45, 9), (49, 9), (53, 9), (57, 9), (61, 9), (65, 9), (69, 9)]
def wk_R : List (Nat × Nat × Nat) := [(2, 0, 18), (2, 1, 21), (2, 2, 3), (2, 3, 8), (2, 4, 12), (2, 5, 25), (2, 6, 39), (2, 7, 13), (2, 8, 14), (2, 9, 16), (2, 10, 17), (3, 0, 4), (3, 1, 5), (3, 2, 6), (3, 3, 7), (8, 0, 9), (12, 0, 40), (12, 1, 44), (12, 2, 48), (12, 3, 52), (12, 4, 56), (12, 5, 60), (12, 6, 64), (12, 7, 68), (14, 0, 15), (18, 1, 19), (18, 2, 20), (21, 1, 22), (21, 2, 23), (21, 3, 24), (25, 0, 26), (25, 2, 29), (25, 3, 27), (25, 4, 28), (27, 0, 30), (27, 1, 31), (27, 2, 32), (27, 3, 33), (27, 4, 34), (27, 5, 35), (27, 6, 36), (27, 7, 37), (27, 8, 38), (29, 4, 3), (30, 4, 18), (30, 5, 21), (31, 4, 18), (31, 5, 21), (32, 4, 18), (32, 5, 21), (33, 4, 18), (33, 5, 21), (34, 4, 18), (34, 5, 21), (35, 4, 18), (35, 5, 21), (36, 4, 18), (36, 5, 21), (37, 4, 18), (37, 5, 21), (38, 4, 18), (38, 5, 21), (39, 4, 18), (39, 5, 21), (40, 0, 41), (44, 0, 45), (48, 0, 49), (52, 0, 53), (56, 0, 57), (60, 0, 61), (64, 0, 65), (68, 0, 69)]
/-- the lists' arrays -/
def wk_as : List Nat := [9, 41, 45, 49, 53, 57, 61, 65, 69]
/-- the class's own part of the heap -/
def cw (a : Nat) : Prop := (2 ≤ a ∧ a < 72) ∨ 109 ≤ a
def ru0 (kd ln : Nat → Nat) (R : Nat → Nat → Nat) (nx a : Nat) : Prop := kd a = 5 ∧ kd (R a 2) = 101 ∧ ln (R a 2) = 8 ∧ cw a ∧ cw (R a 2) ∧ a < nx ∧ R a 2 < nx ∧ R a 2 ≠ 4
def ws0 (P : Nat) (kd ln : Nat → Nat) (R : Nat → Nat → Nat) (nx : Nat) : Prop := (∀ q ∈ wk_kd, kd q.1 = q.2) ∧ (∀ q ∈ wk_ln, ln q.1 = q.2) ∧ (ln 19 = P * 128 ∧ ln 20 = P ∧ ln 22 = P ∧ ln 23 = P ∧ ln 24 = P) ∧ (∀ q ∈ wk_R, R q.1 q.2.1 = q.2.2) ∧ (∀ t ∈ wk_as, ∀ i, i < 9 → ru0 kd ln R nx (R t i)) ∧ (∀ i, i < 10 → 29 ≤ R 28 i ∧ R 28 i ≤ 38) ∧ 109 ≤ nx ∧ 4 ≤ P ∧ P ≤ 1024
theorem ru0.up {kd ln kd' ln' : Nat → Nat} {R R' : Nat → Nat → Nat} {nx nx' a : Nat} (c : ru0 kd ln R nx a) (hk : ∀ q, q < nx → kd' q = kd q) (hl : ∀ q, q < nx → ln' q = ln q) (hR : R' a 2 = R a 2) (hn : nx ≤ nx') : ru0 kd' ln' R' nx' a := by
  obtain ⟨c1, c2, c3, c4, c5, c6, c7, c8⟩ := c
  unfold ru0
  rw [hR, hk a c6, hk _ c7, hl _ c7]
  exact ⟨c1, c2, c3, c4, c5, by omega, by omega, c8⟩
theorem wk_kd_lt : ∀ q ∈ wk_kd, q.1 < 109 := by decide
theorem wk_ln_lt : ∀ q ∈ wk_ln, q.1 < 109 := by decide
theorem wk_R_lt : ∀ q ∈ wk_R, q.1 < 109 := by decide
theorem wk_as_lt : ∀ q ∈ wk_as, q < 109 := by decide
theorem ws0.up {P : Nat} {kd ln kd' ln' : Nat → Nat} {R R' : Nat → Nat → Nat} {nx nx' : Nat} (c : ws0 P kd ln R nx) (hk : ∀ q, q < nx → kd' q = kd q) (hl : ∀ q, q < nx → ln' q = ln q) (hR : ∀ q, q < nx → R' q = R q) (hn : nx ≤ nx') : ws0 P kd' ln' R' nx' := by
  obtain ⟨c1, c2, ⟨p1, p2, p3, p4, p5⟩, c4, c5, c6, c7, c8, c9⟩ := c
  refine ⟨fun q hq => ?_, fun q hq => ?_, ⟨?_, ?_, ?_, ?_, ?_⟩, fun q hq => ?_, fun t ht i hi => ?_, fun i hi => ?_, by omega, c8, c9⟩
  · rw [hk _ (by have := wk_kd_lt q hq; omega)]; exact c1 q hq
  · rw [hl _ (by have := wk_ln_lt q hq; omega)]; exact c2 q hq
  · rw [hl _ (by omega)]; exact p1
  · rw [hl _ (by omega)]; exact p2
  · rw [hl _ (by omega)]; exact p3
  · rw [hl _ (by omega)]; exact p4
  · rw [hl _ (by omega)]; exact p5
  · rw [hR _ (by have := wk_R_lt q hq; omega)]; exact c4 q hq
  · have hr := c5 t ht i hi
    rw [hR t (by have := wk_as_lt t ht; omega)]
    exact hr.up hk hl (by rw [hR _ hr.2.2.2.2.2.1]) hn
  · rw [hR 28 (by omega)]; exact c6 i hi
/-- what an int of the class's cells may be -/
def wcell (P a j : Nat) (v : Int32) : Prop := ((a = 18 ∨ a = 21) ∧ j = 0 → v = nI P) ∧ (a = 20 → v = 0 ∨ v = 1) ∧ (a = 14 ∧ j = 1 → wn 120 v) ∧ (a = 2 ∧ j = 11 → wn 200 v) ∧ ((a = 8 ∨ (40 ≤ a ∧ a < 72 ∧ a % 4 = 0)) ∧ j = 1 → wn 9 v) ∧ (a = 25 ∧ j = 5 → wn 10 v) ∧ (a = 25 ∧ j = 6 → wn 9 v) ∧ (a = 29 ∧ j = 5 → wn 64 v)
/-- the table's keys rise -/
def wt (h : am_H) : Prop := ∃ n, am_I h 3 4 = nI n ∧ n ≤ 64 ∧ tb_O (am_L h 4) n
def wk (P : Nat) (h : am_H) : Prop := ws0 P (am_kd h) (am_ln h) (am_R h) (am_nx h) ∧ (∀ a j, wcell P a j (am_I h a j)) ∧ wt h
/-- what a method of the class does: k runs or throws are made -/
def wf (k : Nat) (h h' : am_H) : Prop := (∀ a, a < 2 ∨ (72 ≤ a ∧ a < 109) → am_kd h' a = am_kd h a ∧ am_ln h' a = am_ln h a ∧ am_I h' a = am_I h a ∧ am_L h' a = am_L h a ∧ am_R h' a = am_R h a) ∧ am_nx h ≤ am_nx h' ∧ am_ce h' ≤ am_ce h + 2 * k ∧ am_sl h' ≤ am_sl h + 17 * k ∧ (∀ a, am_kd h a = 5 → ru0 (am_kd h) (am_ln h) (am_R h) (am_nx h) a → ru0 (am_kd h') (am_ln h') (am_R h') (am_nx h') a)
theorem wf.refl {h : am_H} : wf 0 h h := ⟨fun _ _ => ⟨rfl, rfl, rfl, rfl, rfl⟩, Nat.le_refl _, by omega, by omega, fun _ _ q => q⟩
theorem wf.trans {k l : Nat} {h h1 h2 : am_H} (a : wf k h h1) (b : wf l h1 h2) : wf (k + l) h h2 := by
  obtain ⟨a1, a2, a3, a4, a5⟩ := a
  obtain ⟨b1, b2, b3, b4, b5⟩ := b
  refine ⟨fun q hq => ?_, by omega, by omega, by omega, fun q hq hr => ?_⟩
  · obtain ⟨x1, x2, x3, x4, x5⟩ := a1 q hq
    obtain ⟨y1, y2, y3, y4, y5⟩ := b1 q hq
    exact ⟨y1.trans x1, y2.trans x2, y3.trans x3, y4.trans x4, y5.trans x5⟩
  · have r1 := a5 q hq hr
    exact b5 q r1.1 r1
theorem wf.mono {k l : Nat} {h h1 : am_H} (a : wf k h h1) (hk : k ≤ l) : wf l h h1 := ⟨a.1, a.2.1, by have := a.2.2.1; omega, by have := a.2.2.2.1; omega, a.2.2.2.2⟩
def wp (P k : Nat) (h h' : am_H) : Prop := wk P h' ∧ wf k h h'
theorem wp.refl {P : Nat} {h : am_H} (w : wk P h) : wp P 0 h h := ⟨w, wf.refl⟩
theorem wp.trans {P k l : Nat} {h h1 h2 : am_H} (a : wp P k h h1) (b : wp P l h1 h2) : wp P (k + l) h h2 := ⟨b.1, a.2.trans b.2⟩
theorem wp.mono {P k l : Nat} {h h1 : am_H} (a : wp P k h h1) (hk : k ≤ l) : wp P l h h1 := ⟨a.1, a.2.mono hk⟩
theorem wp.sI {P k : Nat} {h g : am_H} {a j : Nat} {v : Int32} (w : wp P k h g) (hc : cw a) (h3 : a = 3 → j ≠ 4) (hv : wcell P a j v) : wp P k h (am_sI g a j v) := by
  obtain ⟨⟨w1, w2, w3⟩, f⟩ := w
  refine ⟨⟨w1, fun b i => ?_, ?_⟩, f.trans (l := 0) ⟨fun q hq => ⟨rfl, rfl, ?_, rfl, rfl⟩, Nat.le_refl _, Nat.le_refl _, Nat.le_refl _, fun _ _ q => q⟩⟩
  · rw [hx_I_sI]
    by_cases e : b = a
    · subst e
      rw [if_pos rfl]
      by_cases e2 : i = j
      · subst e2
        rw [if_pos rfl]; exact hv
      · rw [if_neg e2]; exact w2 b i
    · rw [if_neg e]; exact w2 b i
  · unfold wt
    rw [show am_L (am_sI g a j v) 4 = am_L g 4 from rfl, show am_I (am_sI g a j v) 3 4 = am_I g 3 4 by
      rw [hx_I_sI]
      by_cases e : 3 = a
      · rw [if_pos e, if_neg (fun e2 => h3 e.symm e2.symm)]
      · rw [if_neg e]]
    exact w3
  · have hne : q ≠ a := by unfold cw at hc; omega
    funext i
    rw [hx_I_sI, if_neg hne]
theorem wp.sL {P k : Nat} {h g : am_H} {a j : Nat} {v : Int64} (w : wp P k h g) (hc : cw a) (h4 : a ≠ 4) : wp P k h (am_sL g a j v) := by
  obtain ⟨⟨w1, w2, w3⟩, f⟩ := w
  have e4 : am_L (am_sL g a j v) 4 = am_L g 4 := by
    funext i
    rw [hx_L_sL, if_neg (Ne.symm h4)]
  refine ⟨⟨w1, w2, by unfold wt; rw [e4]; exact w3⟩, f.trans (l := 0) ⟨fun q hq => ⟨rfl, rfl, rfl, ?_, rfl⟩, Nat.le_refl _, Nat.le_refl _, Nat.le_refl _, fun _ _ q => q⟩⟩
  have hne : q ≠ a := by unfold cw at hc; omega
  funext i
  rw [hx_L_sL, if_neg hne]
theorem wk.kd {P : Nat} {h : am_H} (w : wk P h) (a k : Nat) (hq : (a, k) ∈ wk_kd) : am_kd h a = k := w.1.1 (a, k) hq
theorem wk.ln {P : Nat} {h : am_H} (w : wk P h) (a k : Nat) (hq : (a, k) ∈ wk_ln) : am_ln h a = k := w.1.2.1 (a, k) hq
theorem wk.R {P : Nat} {h : am_H} (w : wk P h) (a j r : Nat) (hq : (a, j, r) ∈ wk_R) : am_R h a j = r := w.1.2.2.2.1 (a, j, r) hq
theorem wk.ru {P : Nat} {h : am_H} (w : wk P h) (t i : Nat) (ht : t ∈ wk_as) (hi : i < 9) : ru0 (am_kd h) (am_ln h) (am_R h) (am_nx h) (am_R h t i) := w.1.2.2.2.2.1 t ht i hi
/-- a run's cells are not bound -/
theorem wk.run {P : Nat} {h : am_H} (w : wk P h) {a : Nat} (ha : am_kd h a = 5) (j : Nat) (v : Int32) : wcell P a j v := by
  have ne : ∀ q ∈ wk_kd, q.2 ≠ 5 → a ≠ q.1 := fun q hq h5 e => by
    have := w.1.1 q hq
    rw [← e, ha] at this
    exact h5 this.symm
  have n18 := ne (18, 4) (by decide) (by decide)
  have n21 := ne (21, 9) (by decide) (by decide)
  have n20 := ne (20, 103) (by decide) (by decide)
  have n3 := ne (3, 10) (by decide) (by decide)
  have n14 := ne (14, 8) (by decide) (by decide)
  have n2 := ne (2, 1) (by decide) (by decide)
  have n8 := ne (8, 6) (by decide) (by decide)
  have n25 := ne (25, 2) (by decide) (by decide)
  have n29 := ne (29, 11) (by decide) (by decide)
  have n40 := ne (40, 6) (by decide) (by decide)
  have n44 := ne (44, 6) (by decide) (by decide)
  have n48 := ne (48, 6) (by decide) (by decide)
  have n52 := ne (52, 6) (by decide) (by decide)
  have n56 := ne (56, 6) (by decide) (by decide)
  have n60 := ne (60, 6) (by decide) (by decide)
  have n64 := ne (64, 6) (by decide) (by decide)
  have n68 := ne (68, 6) (by decide) (by decide)
  dsimp only at *
  refine ⟨fun q => ?_, fun q => ?_, fun q => ?_, fun q => ?_, fun q => ?_, fun q => ?_, fun q => ?_, fun q => ?_⟩ <;> omega
/-- out of a frame of ints and longs -/
theorem wp.fi {P : Nat} {S : List Nat} {h h' : am_H} (w : wk P h) (f : am_fi S h h') (hS : ∀ q ∈ S, cw q) (hc : ∀ q ∈ S, ∀ j, wcell P q j (am_I h' q j)) (ht : wt h') : wp P 0 h h' := by
  obtain ⟨f1, f2, f3, f4, f5, f6, f7, f8⟩ := f
  obtain ⟨w1, w2, w3⟩ := w
  refine ⟨⟨by rw [f1, f4, f5, f6]; exact w1, fun a j => ?_, ht⟩, fun a ha => ?_, by omega, by omega, by omega, fun a _ hr => by rw [f1, f4, f5, f6]; exact hr⟩
  · by_cases e : a ∈ S
    · exact hc a e j
    · rw [f7 a e]; exact w2 a j
  · have hn : a ∉ S := fun q => by have := hS a q; unfold cw at this; omega
    exact ⟨by rw [f4], by rw [f5], f7 a hn, f8 a hn, by rw [f6]⟩
theorem wt.fi {S : List Nat} {h h' : am_H} (w : wt h) (f : am_fi S h h') (h3 : 3 ∉ S) (h4 : 4 ∉ S) : wt h' := by
  unfold wt
  rw [f.2.2.2.2.2.2.1 3 h3, f.2.2.2.2.2.2.2 4 h4]
  exact w
/-- cells that are not bound -/
theorem wcell_free {P a j : Nat} {v : Int32} (h1 : a ∉ [2, 8, 14, 18, 20, 21, 25, 29]) (h2 : ¬ (40 ≤ a ∧ a < 72 ∧ a % 4 = 0)) : wcell P a j v := by
  simp only [List.mem_cons, List.not_mem_nil, or_false, not_or] at h1
  refine ⟨fun q => ?_, fun q => ?_, fun q => ?_, fun q => ?_, fun q => ?_, fun q => ?_, fun q => ?_, fun q => ?_⟩ <;> omega
theorem wp.fi0 {P : Nat} {S : List Nat} {h h' : am_H} (w : wk P h) (f : am_fi S h h') (hS : ∀ q ∈ S, cw q ∧ q ∉ [2, 3, 4, 8, 14, 18, 20, 21, 25, 29] ∧ ¬ (40 ≤ q ∧ q < 72 ∧ q % 4 = 0)) : wp P 0 h h' :=
  wp.fi w f (fun q hq => (hS q hq).1) (fun q hq j => wcell_free (fun e => (hS q hq).2.1 (by simp at e ⊢; omega)) (hS q hq).2.2) (w.2.2.fi f (fun e => (hS 3 e).2.1 (by simp)) (fun e => (hS 4 e).2.1 (by simp)))
theorem wk.tb {P : Nat} {h : am_H} (w : wk P h) : ∃ n, tb_S h n ∧ tb_O (am_L h 4) n := by
  obtain ⟨n, t1, t2, t3⟩ := w.2.2
  exact ⟨n, ⟨w.kd 3 10 (by decide), w.R 3 0 4 (by decide), w.R 3 1 5 (by decide), w.R 3 2 6 (by decide), w.R 3 3 7 (by decide), w.kd 4 101 (by decide), w.ln 4 64 (by decide), w.kd 5 100 (by decide), w.ln 5 64 (by decide), w.kd 6 101 (by decide), w.ln 6 64 (by decide), w.kd 7 3 (by decide), t1, t2⟩, t3⟩
