/-! THE CLASS's CONSTRUCTOR -/
/-- how many pages -/
def pg_n (x : Int32) : Nat := (am_mx 4 (am_mn 1024 x)).toNatClampNeg
theorem pg_spec (x : Int32) : am_mx 4 (am_mn 1024 x) = nI (pg_n x) ∧ 4 ≤ pg_n x ∧ pg_n x ≤ 1024 := by
  have h4 : (4 : Int32).toInt = 4 := by decide
  have h1024 : (1024 : Int32).toInt = 1024 := by decide
  have hb : 4 ≤ (am_mx 4 (am_mn 1024 x)).toInt ∧ (am_mx 4 (am_mn 1024 x)).toInt ≤ 1024 := by
    unfold am_mx am_mn
    simp only [Int32.lt_iff_toInt_lt, h4, h1024]
    by_cases e1 : x.toInt < 1024
    · rw [if_pos e1]
      by_cases e2 : 4 < x.toInt
      · rw [if_pos e2]; omega
      · rw [if_neg e2, h4]; omega
    · rw [if_neg e1, h1024]
      simp [h1024]
  generalize hv : am_mx 4 (am_mn 1024 x) = v at hb
  have hn : ¬ v < 0 := by
    rw [Int32.lt_iff_toInt_lt]
    have : (0 : Int32).toInt = 0 := by decide
    omega
  obtain ⟨j, hj, rfl⟩ := nI_of hn
  have e : pg_n x = j := by
    unfold pg_n
    rw [hv]
    exact nI_clamp hj
  rw [nI_toInt hj] at hb
  rw [e]
  exact ⟨rfl, by omega, by omega⟩
theorem l2_SR_init {d : Nat} {x : Int32} {h : am_H} (hq : am_nx h = 3) (hS : fr_SR h (fun _ => 0) (fun _ => 0)) : am_Rt nm_pr (d + 5) mi_SR_init [.ref 2, .int x] h (fun o h' => o = .inl none ∧ am_nx h' = 72 ∧ am_ce h' = am_ce h + 69 ∧ am_sl h' = am_sl h + 1160 + 132 * pg_n x ∧ fr_All (pg_n x) h' ∧ am_xt [2] 2 h h') := by
  obtain ⟨p1, p2, p3⟩ := pg_spec x
  refine am_in' mt_SR_init 4 rfl rfl rfl ?_
  show am_Ex nm_pr (d + 4) mt_SR_init (0, [.ref 2, .int x, .retAddr 0, .retAddr 0], [], h) _
  refine l2_SR_1 hq hS (fun h1 a1 a2 a3 a4 a5 a6 a7 a8 => ?_)
  refine l2_SR_2 a1 a7 (fun h2 b1 b2 b3 b4 b5 b6 => ?_)
  rw [p1]
  refine l2_SR_3 b1 b5 p2 p3 (fun h3 c1 c2 c3 c4 c5 c6 => ?_)
  refine l2_SR_4 c1 c5 rfl rfl rfl (fun h4 d1 d2 d3 d4 d5 d6 d7 => ?_)
  have t1 : fr_1 h1 := ⟨a4, a5⟩
  have t2 : fr_1 h4 := ((t1.xt b6 (by decide) (by simp)).xt c6 (by decide) (by simp)).xt d7 (by decide) (by simp)
  have u2 : fr_2 h4 := (b4.xt c6 (by decide) (by simp)).xt d7 (by decide) (by simp)
  have v2 : fr_3 (pg_n x) h4 := c4.xt d7 (by decide) (by simp)
  have w2 : fr_5 h4 0 := by
    refine ⟨?_, fun j hj => by omega⟩
    have e : (fun j => if j < 0 then 40 + 4 * j else 0) = fun _ => 0 := by funext j; rw [if_neg (by omega)]
    rw [e]
    exact ((a6.xt b6 (by decide) (by decide)).xt c6 (by decide) (by decide)).xt d7 (by decide) (by decide)
  refine l2_SR_5 rfl 8 0 h4 rfl d1 d6 w2 (fun h5 e1 e2 e3 e4 e5 e6 => ?_)
  have t5 : fr_1 h5 := t2.xt e6 (by decide) (by simp)
  have u5 : fr_2 h5 := u2.xt e6 (by decide) (by simp)
  have v5 : fr_3 (pg_n x) h5 := v2.xt e6 (by decide) (by simp)
  have x5 : fr_4 h5 := d4.xt e6 (by decide) (by simp)
  have y5 := d5.xt e6 (by decide) (by decide)
  obtain ⟨s1, s2, s3⟩ := id e4
  obtain ⟨⟨g1, g2, g3, g4⟩, g5, ⟨g6, g7, g8⟩, ⟨g9, g10, g11⟩, g12, g13, g14⟩ := id v5
  have sh : cl_Sh h5 := ⟨u5.2.1.1, by rw [u5.2.1.2.2.2]; rfl, u5.2.2.1.1, u5.2.2.1.2.1⟩
  have pg : cl_Pg (pg_n x) h5 := ⟨g1, by rw [g2]; rfl, by rw [g2]; rfl, by rw [g3]; rfl, g5.1, g5.2.1, g6, g7, p2, p3⟩
  have xt0 : am_xt [2, 12] 2 h h5 := by
    have q1 : am_xt [2, 12] 2 h h1 := a8.sub (by simp)
    have q2 : am_xt [2, 12] 13 h1 h2 := b6.sub (by simp)
    have q3 : am_xt [2, 12] 18 h2 h3 := c6.sub (by simp)
    have q4 : am_xt [2, 12] 25 h3 h4 := d7.sub (by simp)
    have q5 : am_xt [2, 12] 40 h4 h5 := e6.sub (by simp)
    exact (((q1.trans q2 (by decide)).trans q3 (by decide)).trans q4 (by decide)).trans q5 (by decide)
  refine l2_SR_6 sh pg s1 (by rw [s2]; rfl) (by rw [s2]; rfl) (by rw [s2]; rfl) t5.2.1.1 (t5.2.1.2.2.1.1 1) (by rw [s3]; rfl) (by rw [s3]; rfl) (funext u5.2.2.1.2.2.1.1) (funext g5.2.2.1.1) g8 (fun h' z1 z2 z3 z4 => ?_)
  have z5 : am_xt [14, 15, 19, 20] 72 h5 h' := am_xt.refl.fi z1
  refine ⟨rfl, z1.1.trans e1, ?_, ?_, ⟨t5.xt z5 (by decide) (by simp), ⟨u5.1.xt z5 (by decide) (by decide), u5.2.2.2.1.xt z5 (by decide) (by decide), u5.2.2.2.2.xt z5 (by decide) (by decide)⟩, sh.fi z1, pg.fi z1 (by decide), ?_, z3, z4, ?_, g12.xt z5 (by decide) (by decide), g13.xt z5 (by decide) (by decide), g14.xt z5 (by decide) (by decide), x5.xt z5 (by decide) (by simp), y5.xt z5 (by decide) (by decide), ?_, ?_⟩, ?_⟩
  · rw [z1.2.1, e2, d2, c2, b2, a2]
  · rw [z1.2.2.1, e3, d3, c3, b3, a3]; omega
  · rw [z1.2.2.2.2.2.2.1 18 (by decide)]; exact g3
  · obtain ⟨q1, q2, q3, q4, q5⟩ := z5 21 (by decide) (by decide)
    exact ⟨q1.trans g9, q5.trans g10, q3.trans g11⟩
  · refine ⟨e5.1.xt z5 (by decide) (by decide), fun j hj => (e5.2 j hj).xt z5 (by omega) ?_ ?_ ?_ ?_⟩
    all_goals (simp; omega)
  · obtain ⟨q1, q2, q3⟩ := e4.xt z5 (by decide) (by decide)
    refine ⟨q1, ?_, q3⟩
    rw [q2]
    funext j
    match j with
    | 0 => rfl
    | 1 => rfl
    | 2 => rfl
    | 3 => rfl
    | 4 => rfl
    | 5 => rfl
    | 6 => rfl
    | 7 => rfl
    | 8 => rfl
    | 9 => rfl
    | 10 => rfl
    | n + 11 => simp
  · intro q hq hS
    have r1 := xt0 q hq (by simp; omega)
    have r2 := z5 q (by omega) (by simp; omega)
    exact ⟨r2.1.trans r1.1, r2.2.1.trans r1.2.1, r2.2.2.1.trans r1.2.2.1, r2.2.2.2.1.trans r1.2.2.2.1, r2.2.2.2.2.trans r1.2.2.2.2⟩
