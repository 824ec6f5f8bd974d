/-! WHAT THE CONSTRUCTORS LEAVE KEEPS BOTH INVARIANTS -/
theorem fr_RL.ru {t : Nat} {h : am_H} (c : fr_RL h t) (h1 : 8 ≤ t) (h2 : t + 3 < 72) (hn : am_nx h = 109) : ∀ i, i < 9 → ru0 (am_kd h) (am_ln h) (am_R h) (am_nx h) (am_R h (t + 1) i) := fun i hi => by
  obtain ⟨-, ⟨-, -, -, a1⟩, ⟨b1, -, -, b2⟩, ⟨d1, d2, -, -⟩⟩ := c
  have e1 : am_R h (t + 1) i = t + 2 := by rw [a1]; exact if_pos hi
  have e2 : am_R h (t + 2) 2 = t + 3 := by rw [b2]; rfl
  rw [e1]
  unfold ru0
  rw [e2, hn]
  refine ⟨b1, d1, d2, Or.inl ⟨by omega, by omega⟩, Or.inl ⟨by omega, by omega⟩, by omega, by omega, by omega⟩
theorem wn0 {m : Nat} {v : Int32} (e : v = 0) : wn m v := ⟨0, Nat.zero_le _, e⟩
theorem wk_new {P : Nat} {h : am_H} (c : fr_All P h) (i14 : am_I h 14 1 = nI 7) (hn : am_nx h = 109) : wk P h := by
  obtain ⟨⟨⟨t3, t4, t5, t6, t7⟩, l8⟩, ⟨c13, c16, c17⟩, ⟨s1, s2, s3, s4⟩, ⟨p1, p2, p3, p4, p5, p6, p7, p8, p9, p10⟩, i18, i19, i20, ⟨d1, d2, d3⟩, e22, e23, e24, ⟨b25, b26, b27, b28, b29, b30⟩, b39, ⟨g12, g⟩, ⟨r1, r2, r3⟩⟩ := c
  have m0 : fr_RL h 40 := g 0 (by decide)
  have m1 : fr_RL h 44 := g 1 (by decide)
  have m2 : fr_RL h 48 := g 2 (by decide)
  have m3 : fr_RL h 52 := g 3 (by decide)
  have m4 : fr_RL h 56 := g 4 (by decide)
  have m5 : fr_RL h 60 := g 5 (by decide)
  have m6 : fr_RL h 64 := g 6 (by decide)
  have m7 : fr_RL h 68 := g 7 (by decide)
  have q0 : fr_C h 30 7 0 (fun j => if j = 4 then 18 else if j = 5 then 21 else 0) := b30 0 (by decide)
  have q1 : fr_C h 31 7 0 (fun j => if j = 4 then 18 else if j = 5 then 21 else 0) := b30 1 (by decide)
  have q2 : fr_C h 32 7 0 (fun j => if j = 4 then 18 else if j = 5 then 21 else 0) := b30 2 (by decide)
  have q3 : fr_C h 33 7 0 (fun j => if j = 4 then 18 else if j = 5 then 21 else 0) := b30 3 (by decide)
  have q4 : fr_C h 34 7 0 (fun j => if j = 4 then 18 else if j = 5 then 21 else 0) := b30 4 (by decide)
  have q5 : fr_C h 35 7 0 (fun j => if j = 4 then 18 else if j = 5 then 21 else 0) := b30 5 (by decide)
  have q6 : fr_C h 36 7 0 (fun j => if j = 4 then 18 else if j = 5 then 21 else 0) := b30 6 (by decide)
  have q7 : fr_C h 37 7 0 (fun j => if j = 4 then 18 else if j = 5 then 21 else 0) := b30 7 (by decide)
  have q8 : fr_C h 38 7 0 (fun j => if j = 4 then 18 else if j = 5 then 21 else 0) := b30 8 (by decide)
  refine ⟨⟨?_, ?_, ⟨p6, p8, e22.2.1, e23.2.1, e24.2.1⟩, ?_, ?_, fun i hi => ?_, by omega, p9, p10⟩, fun a j => ?_, 0, t3.2.2.1.1 4, by omega, fun i j _ hj => by omega⟩
  · exact (List.forall_mem_cons.mpr ⟨r1, (List.forall_mem_cons.mpr ⟨t3.1, (List.forall_mem_cons.mpr ⟨t4.1, (List.forall_mem_cons.mpr ⟨t5.1, (List.forall_mem_cons.mpr ⟨t6.1, (List.forall_mem_cons.mpr ⟨t7.1, (List.forall_mem_cons.mpr ⟨l8.1.1, (List.forall_mem_cons.mpr ⟨l8.2.1.1, (List.forall_mem_cons.mpr ⟨g12.1, (List.forall_mem_cons.mpr ⟨c13.1, (List.forall_mem_cons.mpr ⟨s1, (List.forall_mem_cons.mpr ⟨s3, (List.forall_mem_cons.mpr ⟨c16.1, (List.forall_mem_cons.mpr ⟨c17.1, (List.forall_mem_cons.mpr ⟨p1, (List.forall_mem_cons.mpr ⟨p5, (List.forall_mem_cons.mpr ⟨p7, (List.forall_mem_cons.mpr ⟨d1, (List.forall_mem_cons.mpr ⟨e22.1, (List.forall_mem_cons.mpr ⟨e23.1, (List.forall_mem_cons.mpr ⟨e24.1, (List.forall_mem_cons.mpr ⟨b25.1, (List.forall_mem_cons.mpr ⟨b26.1, (List.forall_mem_cons.mpr ⟨b27.1, (List.forall_mem_cons.mpr ⟨b28.1, (List.forall_mem_cons.mpr ⟨b29.1, (List.forall_mem_cons.mpr ⟨q0.1, (List.forall_mem_cons.mpr ⟨q1.1, (List.forall_mem_cons.mpr ⟨q2.1, (List.forall_mem_cons.mpr ⟨q3.1, (List.forall_mem_cons.mpr ⟨q4.1, (List.forall_mem_cons.mpr ⟨q5.1, (List.forall_mem_cons.mpr ⟨q6.1, (List.forall_mem_cons.mpr ⟨q7.1, (List.forall_mem_cons.mpr ⟨q8.1, (List.forall_mem_cons.mpr ⟨b39.1, (List.forall_mem_cons.mpr ⟨m0.1.1, (List.forall_mem_cons.mpr ⟨m0.2.1.1, (List.forall_mem_cons.mpr ⟨m1.1.1, (List.forall_mem_cons.mpr ⟨m1.2.1.1, (List.forall_mem_cons.mpr ⟨m2.1.1, (List.forall_mem_cons.mpr ⟨m2.2.1.1, (List.forall_mem_cons.mpr ⟨m3.1.1, (List.forall_mem_cons.mpr ⟨m3.2.1.1, (List.forall_mem_cons.mpr ⟨m4.1.1, (List.forall_mem_cons.mpr ⟨m4.2.1.1, (List.forall_mem_cons.mpr ⟨m5.1.1, (List.forall_mem_cons.mpr ⟨m5.2.1.1, (List.forall_mem_cons.mpr ⟨m6.1.1, (List.forall_mem_cons.mpr ⟨m6.2.1.1, (List.forall_mem_cons.mpr ⟨m7.1.1, (List.forall_mem_cons.mpr ⟨m7.2.1.1, (fun q hq => nomatch hq)⟩)⟩)⟩)⟩)⟩)⟩)⟩)⟩)⟩)⟩)⟩)⟩)⟩)⟩)⟩)⟩)⟩)⟩)⟩)⟩)⟩)⟩)⟩)⟩)⟩)⟩)⟩)⟩)⟩)⟩)⟩)⟩)⟩)⟩)⟩)⟩)⟩)⟩)⟩)⟩)⟩)⟩)⟩)⟩)⟩)⟩)⟩)⟩)⟩)⟩)⟩)⟩)
  · exact (List.forall_mem_cons.mpr ⟨t4.2.1, (List.forall_mem_cons.mpr ⟨t5.2.1, (List.forall_mem_cons.mpr ⟨t6.2.1, (List.forall_mem_cons.mpr ⟨l8.2.1.2.1, (List.forall_mem_cons.mpr ⟨g12.2.1, (List.forall_mem_cons.mpr ⟨s4, (List.forall_mem_cons.mpr ⟨c16.2.1, (List.forall_mem_cons.mpr ⟨c17.2.1, (List.forall_mem_cons.mpr ⟨b27.2.1, (List.forall_mem_cons.mpr ⟨b28.2.1, (List.forall_mem_cons.mpr ⟨m0.2.1.2.1, (List.forall_mem_cons.mpr ⟨m1.2.1.2.1, (List.forall_mem_cons.mpr ⟨m2.2.1.2.1, (List.forall_mem_cons.mpr ⟨m3.2.1.2.1, (List.forall_mem_cons.mpr ⟨m4.2.1.2.1, (List.forall_mem_cons.mpr ⟨m5.2.1.2.1, (List.forall_mem_cons.mpr ⟨m6.2.1.2.1, (List.forall_mem_cons.mpr ⟨m7.2.1.2.1, (fun q hq => nomatch hq)⟩)⟩)⟩)⟩)⟩)⟩)⟩)⟩)⟩)⟩)⟩)⟩)⟩)⟩)⟩)⟩)⟩)⟩)
  · exact (List.forall_mem_cons.mpr ⟨((congrFun r2 0).trans rfl), (List.forall_mem_cons.mpr ⟨((congrFun r2 1).trans rfl), (List.forall_mem_cons.mpr ⟨((congrFun r2 2).trans rfl), (List.forall_mem_cons.mpr ⟨((congrFun r2 3).trans rfl), (List.forall_mem_cons.mpr ⟨((congrFun r2 4).trans rfl), (List.forall_mem_cons.mpr ⟨((congrFun r2 5).trans rfl), (List.forall_mem_cons.mpr ⟨((congrFun r2 6).trans rfl), (List.forall_mem_cons.mpr ⟨((congrFun r2 7).trans rfl), (List.forall_mem_cons.mpr ⟨((congrFun r2 8).trans rfl), (List.forall_mem_cons.mpr ⟨((congrFun r2 9).trans rfl), (List.forall_mem_cons.mpr ⟨((congrFun r2 10).trans rfl), (List.forall_mem_cons.mpr ⟨((congrFun t3.2.2.2 0).trans rfl), (List.forall_mem_cons.mpr ⟨((congrFun t3.2.2.2 1).trans rfl), (List.forall_mem_cons.mpr ⟨((congrFun t3.2.2.2 2).trans rfl), (List.forall_mem_cons.mpr ⟨((congrFun t3.2.2.2 3).trans rfl), (List.forall_mem_cons.mpr ⟨((congrFun l8.1.2.2.2 0).trans rfl), (List.forall_mem_cons.mpr ⟨((congrFun g12.2.2.2 0).trans rfl), (List.forall_mem_cons.mpr ⟨((congrFun g12.2.2.2 1).trans rfl), (List.forall_mem_cons.mpr ⟨((congrFun g12.2.2.2 2).trans rfl), (List.forall_mem_cons.mpr ⟨((congrFun g12.2.2.2 3).trans rfl), (List.forall_mem_cons.mpr ⟨((congrFun g12.2.2.2 4).trans rfl), (List.forall_mem_cons.mpr ⟨((congrFun g12.2.2.2 5).trans rfl), (List.forall_mem_cons.mpr ⟨((congrFun g12.2.2.2 6).trans rfl), (List.forall_mem_cons.mpr ⟨((congrFun g12.2.2.2 7).trans rfl), (List.forall_mem_cons.mpr ⟨s2, (List.forall_mem_cons.mpr ⟨p2, (List.forall_mem_cons.mpr ⟨p3, (List.forall_mem_cons.mpr ⟨((congrFun d2 1).trans rfl), (List.forall_mem_cons.mpr ⟨((congrFun d2 2).trans rfl), (List.forall_mem_cons.mpr ⟨((congrFun d2 3).trans rfl), (List.forall_mem_cons.mpr ⟨((congrFun b25.2.2.2 0).trans rfl), (List.forall_mem_cons.mpr ⟨((congrFun b25.2.2.2 2).trans rfl), (List.forall_mem_cons.mpr ⟨((congrFun b25.2.2.2 3).trans rfl), (List.forall_mem_cons.mpr ⟨((congrFun b25.2.2.2 4).trans rfl), (List.forall_mem_cons.mpr ⟨((congrFun b27.2.2.2 0).trans rfl), (List.forall_mem_cons.mpr ⟨((congrFun b27.2.2.2 1).trans rfl), (List.forall_mem_cons.mpr ⟨((congrFun b27.2.2.2 2).trans rfl), (List.forall_mem_cons.mpr ⟨((congrFun b27.2.2.2 3).trans rfl), (List.forall_mem_cons.mpr ⟨((congrFun b27.2.2.2 4).trans rfl), (List.forall_mem_cons.mpr ⟨((congrFun b27.2.2.2 5).trans rfl), (List.forall_mem_cons.mpr ⟨((congrFun b27.2.2.2 6).trans rfl), (List.forall_mem_cons.mpr ⟨((congrFun b27.2.2.2 7).trans rfl), (List.forall_mem_cons.mpr ⟨((congrFun b27.2.2.2 8).trans rfl), (List.forall_mem_cons.mpr ⟨((congrFun b29.2.2.2 4).trans rfl), (List.forall_mem_cons.mpr ⟨((congrFun q0.2.2.2 4).trans rfl), (List.forall_mem_cons.mpr ⟨((congrFun q0.2.2.2 5).trans rfl), (List.forall_mem_cons.mpr ⟨((congrFun q1.2.2.2 4).trans rfl), (List.forall_mem_cons.mpr ⟨((congrFun q1.2.2.2 5).trans rfl), (List.forall_mem_cons.mpr ⟨((congrFun q2.2.2.2 4).trans rfl), (List.forall_mem_cons.mpr ⟨((congrFun q2.2.2.2 5).trans rfl), (List.forall_mem_cons.mpr ⟨((congrFun q3.2.2.2 4).trans rfl), (List.forall_mem_cons.mpr ⟨((congrFun q3.2.2.2 5).trans rfl), (List.forall_mem_cons.mpr ⟨((congrFun q4.2.2.2 4).trans rfl), (List.forall_mem_cons.mpr ⟨((congrFun q4.2.2.2 5).trans rfl), (List.forall_mem_cons.mpr ⟨((congrFun q5.2.2.2 4).trans rfl), (List.forall_mem_cons.mpr ⟨((congrFun q5.2.2.2 5).trans rfl), (List.forall_mem_cons.mpr ⟨((congrFun q6.2.2.2 4).trans rfl), (List.forall_mem_cons.mpr ⟨((congrFun q6.2.2.2 5).trans rfl), (List.forall_mem_cons.mpr ⟨((congrFun q7.2.2.2 4).trans rfl), (List.forall_mem_cons.mpr ⟨((congrFun q7.2.2.2 5).trans rfl), (List.forall_mem_cons.mpr ⟨((congrFun q8.2.2.2 4).trans rfl), (List.forall_mem_cons.mpr ⟨((congrFun q8.2.2.2 5).trans rfl), (List.forall_mem_cons.mpr ⟨((congrFun b39.2.2.2 4).trans rfl), (List.forall_mem_cons.mpr ⟨((congrFun b39.2.2.2 5).trans rfl), (List.forall_mem_cons.mpr ⟨((congrFun m0.1.2.2.2 0).trans rfl), (List.forall_mem_cons.mpr ⟨((congrFun m1.1.2.2.2 0).trans rfl), (List.forall_mem_cons.mpr ⟨((congrFun m2.1.2.2.2 0).trans rfl), (List.forall_mem_cons.mpr ⟨((congrFun m3.1.2.2.2 0).trans rfl), (List.forall_mem_cons.mpr ⟨((congrFun m4.1.2.2.2 0).trans rfl), (List.forall_mem_cons.mpr ⟨((congrFun m5.1.2.2.2 0).trans rfl), (List.forall_mem_cons.mpr ⟨((congrFun m6.1.2.2.2 0).trans rfl), (List.forall_mem_cons.mpr ⟨((congrFun m7.1.2.2.2 0).trans rfl), (fun q hq => nomatch hq)⟩)⟩)⟩)⟩)⟩)⟩)⟩)⟩)⟩)⟩)⟩)⟩)⟩)⟩)⟩)⟩)⟩)⟩)⟩)⟩)⟩)⟩)⟩)⟩)⟩)⟩)⟩)⟩)⟩)⟩)⟩)⟩)⟩)⟩)⟩)⟩)⟩)⟩)⟩)⟩)⟩)⟩)⟩)⟩)⟩)⟩)⟩)⟩)⟩)⟩)⟩)⟩)⟩)⟩)⟩)⟩)⟩)⟩)⟩)⟩)⟩)⟩)⟩)⟩)⟩)⟩)⟩)⟩)⟩)⟩)⟩)⟩)
  · exact (List.forall_mem_cons.mpr ⟨(l8.ru (by decide) (by decide) hn), (List.forall_mem_cons.mpr ⟨(m0.ru (by decide) (by decide) hn), (List.forall_mem_cons.mpr ⟨(m1.ru (by decide) (by decide) hn), (List.forall_mem_cons.mpr ⟨(m2.ru (by decide) (by decide) hn), (List.forall_mem_cons.mpr ⟨(m3.ru (by decide) (by decide) hn), (List.forall_mem_cons.mpr ⟨(m4.ru (by decide) (by decide) hn), (List.forall_mem_cons.mpr ⟨(m5.ru (by decide) (by decide) hn), (List.forall_mem_cons.mpr ⟨(m6.ru (by decide) (by decide) hn), (List.forall_mem_cons.mpr ⟨(m7.ru (by decide) (by decide) hn), (fun q hq => nomatch hq)⟩)⟩)⟩)⟩)⟩)⟩)⟩)⟩)⟩)
  · have e : am_R h 28 i = 29 := (congrFun b28.2.2.2 i).trans (if_pos hi)
    rw [e]; omega
  · refine ⟨fun q => ?_, fun q => ?_, fun q => ?_, fun q => ?_, fun q => ?_, fun q => ?_, fun q => ?_, fun q => ?_⟩
    · obtain ⟨q1 | q1, rfl⟩ := q <;> subst q1
      · rw [i18]; rfl
      · rw [d3]; rfl
    · subst q
      rw [i20]
      show (if j = 1 then (1 : Int32) else if j = 0 then 1 else 0) = 0 ∨ (if j = 1 then (1 : Int32) else if j = 0 then 1 else 0) = 1
      (repeat' split) <;> simp
    · obtain ⟨rfl, rfl⟩ := q
      exact ⟨7, by omega, i14⟩
    · obtain ⟨rfl, rfl⟩ := q
      rw [r3]; exact wn0 rfl
    · obtain ⟨q1 | ⟨q1, q2, q3⟩, rfl⟩ := q
      · subst q1
        exact wn0 (l8.1.2.2.1.1 1)
      · obtain ⟨k, rfl⟩ : ∃ k, a = 40 + 4 * k := ⟨(a - 40) / 4, by omega⟩
        exact wn0 ((g k (by omega)).1.2.2.1.1 1)
    · obtain ⟨rfl, rfl⟩ := q
      exact wn0 (b25.2.2.1.1 5)
    · obtain ⟨rfl, rfl⟩ := q
      exact wn0 (b25.2.2.1.1 6)
    · obtain ⟨rfl, rfl⟩ := q
      exact wn0 (b29.2.2.1.1 5)
theorem rI_new {P : Nat} {h : am_H} (m : mo_All P h) (p4 : 4 ≤ P) (p5 : P ≤ 1024) : rI P h := by
  have hS := m.Sk
  obtain ⟨-, m2, -, -, m5, m6, -⟩ := m
  have z : ∀ j, j ≠ 1 → j ≠ 4 → j ≠ 5 → am_I h 72 j = 0 := fun j h1 h2 h3 => by rw [m2]; show (if j = 1 then nI P else if j = 4 then 1 else if j = 5 then 1 else 0) = 0; rw [if_neg h1, if_neg h2, if_neg h3]
  have z87 := (m5 14 _ (by decide) (by decide) rfl).2.2.1.1
  have z77 := (m5 4 _ (by decide) (by decide) rfl).2.2.1.1
  refine ⟨⟨hS, p4, p5, by rw [m2]; rfl, ⟨0, 0, by omega, by omega, z 8 (by decide) (by decide) (by decide), z 9 (by decide) (by decide) (by decide)⟩, ⟨0, by omega, z 45 (by decide) (by decide) (by decide)⟩, ⟨0, z 11 (by decide) (by decide) (by decide), by omega, fun i j _ hj => by omega, fun i hi => by omega⟩, fun j => ?_⟩, fun _ => [], [], fun _ => [], ⟨z 24 (by decide) (by decide) (by decide), fun i s e => by simp at e, fun s hs => by simp at hs, trivial, Nat.zero_le _⟩, fun k hk => Or.inl ⟨z87 k, rfl⟩, ⟨fun s hs => z77 s, fun s hs => by simp [al] at hs⟩, Or.inl (z 3 (by decide) (by decide) (by decide))⟩
  have e : am_I h 73 j = if 128 ≤ j ∧ j < 256 then hd_p (j - 128) else 0 := congrFun m6 j
  rw [e]
  by_cases q : 128 ≤ j ∧ j < 256
  · rw [if_pos q]; exact hd_b8 _
  · rw [if_neg q]; decide
