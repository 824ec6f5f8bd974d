/-! CELLS BELOW 109 ARE AS THEY WERE -/
def lo_E (h h' : am_H) : Prop := ∀ x, x < 109 → am_kd h' x = am_kd h x ∧ am_ln h' x = am_ln h x ∧ am_I h' x = am_I h x ∧ am_L h' x = am_L h x ∧ am_R h' x = am_R h x
section LE
variable {P : Nat} {h h' : am_H}
theorem lo_E.trans {h2 : am_H} (a : lo_E h h') (b : lo_E h' h2) : lo_E h h2 := fun x hx => by
  obtain ⟨a1, a2, a3, a4, a5⟩ := a x hx
  obtain ⟨b1, b2, b3, b4, b5⟩ := b x hx
  exact ⟨b1.trans a1, b2.trans a2, b3.trans a3, b4.trans a4, b5.trans a5⟩
theorem lo_E.sh (E : lo_E h h') (c : cl_Sh h) : cl_Sh h' := by
  unfold cl_Sh at *
  rw [(E 14 (by decide)).1, (E 14 (by decide)).2.2.2.2, (E 15 (by decide)).1, (E 15 (by decide)).2.1]
  exact c
theorem lo_E.pg (E : lo_E h h') (c : cl_Pg P h) : cl_Pg P h' := by
  unfold cl_Pg at *
  rw [(E 18 (by decide)).1, (E 18 (by decide)).2.2.2.2, (E 18 (by decide)).2.2.1, (E 19 (by decide)).1, (E 19 (by decide)).2.1, (E 20 (by decide)).1, (E 20 (by decide)).2.1]
  exact c
theorem lo_E.sp (E : lo_E h h') (c : cl_Sp P h) : cl_Sp P h' := by
  unfold cl_Sp at *
  rw [(E 21 (by decide)).1, (E 21 (by decide)).2.2.2.2, (E 21 (by decide)).2.2.1, (E 22 (by decide)).1, (E 22 (by decide)).2.1, (E 23 (by decide)).1, (E 23 (by decide)).2.1, (E 24 (by decide)).1, (E 24 (by decide)).2.1]
  exact c
theorem lo_E.rk {t : Nat} (E : lo_E h h') (ht : t < 109) (c : rs_K h t) : rs_K h' t := by
  unfold rs_K at *
  rw [(E t ht).1, (E t ht).2.2.2.2]
  exact c
theorem lo_E.tk {t : Nat} (E : lo_E h h') (ht : t < 109) (c : ts_K h t) : ts_K h' t := by
  unfold ts_K at *
  rw [(E t ht).1, (E t ht).2.2.2.2]
  exact c
theorem lo_E.bk (E : lo_E h h') (c : bl_K h) : bl_K h' := by
  obtain ⟨a1, a2, a3, a4, a5, a6, a7, a8, a9, a10, a11, a12, a13⟩ := c
  refine ⟨by rw [(E 25 (by decide)).1]; exact a1, by rw [(E 25 (by decide)).2.2.2.2]; exact a2, by rw [(E 26 (by decide)).1]; exact a3, by rw [(E 25 (by decide)).2.2.2.2]; exact a4, by rw [(E 25 (by decide)).2.2.2.2]; exact a5, by rw [(E 25 (by decide)).2.2.2.2]; exact a6, by rw [(E 28 (by decide)).1]; exact a7, by rw [(E 28 (by decide)).2.1]; exact a8, by rw [(E 27 (by decide)).1]; exact a9, by rw [(E 27 (by decide)).2.1]; exact a10, fun j hj => by rw [(E 27 (by decide)).2.2.2.2]; exact a11 j hj, E.tk (by decide) a12, fun j hj => E.rk (by omega) (a13 j hj)⟩
theorem lo_E.tb {n : Nat} (E : lo_E h h') (c : tb_S h n) : tb_S h' n := by
  unfold tb_S at *
  rw [(E 3 (by decide)).1, (E 3 (by decide)).2.2.2.2, (E 3 (by decide)).2.2.1, (E 4 (by decide)).1, (E 4 (by decide)).2.1, (E 5 (by decide)).1, (E 5 (by decide)).2.1, (E 6 (by decide)).1, (E 6 (by decide)).2.1, (E 7 (by decide)).1]
  exact c
theorem lo_E.rs {t : Nat} {L : List ent} (E : lo_E h h') (ht : t < 109) (a : rs_S P h t L) : rs_S P h' t L := by
  obtain ⟨-, -, e1, e2, -⟩ := E t ht
  have e4 := (E 19 (by decide)).2.2.1
  have e5 := (E 23 (by decide)).2.2.1
  have e6 := (E 22 (by decide)).2.2.1
  cases L with
  | nil =>
    obtain ⟨a1, a2⟩ := a
    exact ⟨E.rk ht a1, by rw [e1]; exact a2⟩
  | cons e L =>
    obtain ⟨a1, a2, a3, a4, C, ps, ⟨p1, p2, p3, p4, p5, p6, p7, p8, p9⟩, a6⟩ := a
    refine ⟨by rw [e1]; exact a1, by rw [e2]; exact a2, by rw [e1]; exact a3, by rw [e2]; exact a4, C, ps, ⟨E.rk ht p1, by rw [e1]; exact p2, p3, p4, fun hC => ?_, by rw [e1]; exact p6, p7, ?_, p9.mono (fun q _ j _ => congrFun e4 _) (fun q _ => congrFun e5 _) (fun q _ => congrFun e6 _)⟩, a6⟩
    · rw [e1, e2, e4, e6]
      exact p5 hC
    · cases ps with
      | nil => trivial
      | cons q r => rw [e1]; exact p8
theorem lo_E.ts {t : Nat} {L : List ent} (E : lo_E h h') (ht : t < 109) (a : ts_S h t L) : ts_S h' t L := by
  obtain ⟨-, -, e1, e2, -⟩ := E t ht
  cases L with
  | nil =>
    obtain ⟨a1, a2⟩ := a
    exact ⟨E.tk ht a1, by rw [e1]; exact a2⟩
  | cons e L =>
    obtain ⟨a1, a2, a3, a4, k1, i, n, T, a5, a6, a7⟩ := a
    refine ⟨by rw [e1]; exact a1, by rw [e2]; exact a2, by rw [e1]; exact a3, by rw [e2]; exact a4, E.tk ht k1, i, n, E.tb T, by rw [e1]; exact a5, a6, ?_⟩
    rw [tl_eq (E 4 (by decide)).2.2.2.1 (E 5 (by decide)).2.2.1 (E 6 (by decide)).2.2.2.1]
    exact a7
theorem lo_E.st {t : Nat} {L : List ent} (E : lo_E h h') (a : st_P P h t L) : st_P P h' t L := by
  have b := a.1
  exact ⟨a.1, a.2.imp (E.rs (by omega)) (E.ts (by omega))⟩
theorem lo_E.bl {ins : List (Nat × List ent)} (E : lo_E h h') (a : bl_S P h ins) : bl_S P h' ins := by
  obtain ⟨b1, b2, b3, b4, b5⟩ := a
  refine ⟨E.bk b1, by rw [(E 25 (by decide)).2.2.1]; exact b2, b3, b4, fun s x hx => ?_⟩
  obtain ⟨y1, y2⟩ := b5 s x hx
  exact ⟨by rw [(E 28 (by decide)).2.2.2.2]; exact y1, E.st y2⟩
theorem lo_E.sk (E : lo_E h h') (c : sk_K P h) : sk_K P h' := by
  obtain ⟨c1, c2, c3, c4, c5, c6, c7, c8⟩ := c
  exact ⟨by rw [(E 2 (by decide)).1, (E 2 (by decide)).2.2.2.2]; exact c1, E.sh c2, E.pg c3, E.sp c4, E.bk c5, by rw [(E 8 (by decide)).1, (E 8 (by decide)).2.2.2.2, (E 9 (by decide)).1, (E 9 (by decide)).2.1]; exact c6, by rw [(E 18 (by decide)).2.2.1]; exact c7, by rw [(E 2 (by decide)).2.2.1]; exact c8⟩
end LE
/-! A CHAIN WITH ITS END -/
def ch_T (P : Nat) (h : am_H) : List (Nat × List ent) → Int32 → Prop
  | [], _ => True
  | q :: r, t => pg_C P h q.1 q.2 ∧ am_I h 23 q.1 = (match r with
    | [] => t
    | q' :: _ => nI q'.1) ∧ ch_T P h r t
theorem ch_T.c {P : Nat} {h : am_H} {t : Int32} : ∀ {ps : List (Nat × List ent)}, ch_T P h ps t → ch_C P h ps
  | [], _ => trivial
  | q :: r, a => by
    refine ⟨a.1, ?_, a.2.2.c⟩
    have := a.2.1
    cases r with
    | nil => trivial
    | cons q' r => exact this
theorem ch_T.snoc {P p : Nat} {h : am_H} {t : Int32} {C : List ent} : ∀ {ps : List (Nat × List ent)}, ch_T P h ps (nI p) → pg_C P h p C → am_I h 23 p = t → ch_T P h (ps ++ [(p, C)]) t
  | [], _, hC, ht => ⟨hC, ht, trivial⟩
  | q :: r, a, hC, ht => by
    refine ⟨a.1, ?_, a.2.2.snoc hC ht⟩
    have := a.2.1
    cases r with
    | nil => exact this
    | cons q' r => exact this
theorem ch_T.mono {P : Nat} {h h' : am_H} {t : Int32} : ∀ {ps : List (Nat × List ent)}, ch_T P h ps t → (∀ q ∈ ps, ∀ j, j < 128 → am_I h' 19 (q.1 * 128 + j) = am_I h 19 (q.1 * 128 + j)) → (∀ q ∈ ps, am_I h' 23 q.1 = am_I h 23 q.1) → (∀ q ∈ ps, am_I h' 22 q.1 = am_I h 22 q.1) → ch_T P h' ps t
  | [], _, _, _, _ => trivial
  | q :: r, a, e1, e2, e3 => by
    refine ⟨a.1.mono (e1 q (by simp)) (e3 q (by simp)), ?_, a.2.2.mono (fun x hx => e1 x (by simp [hx])) (fun x hx => e2 x (by simp [hx])) (fun x hx => e3 x (by simp [hx]))⟩
    rw [e2 q (by simp)]
    exact a.2.1
theorem ch_T.held {P : Nat} {h : am_H} {t : Int32} : ∀ {ps : List (Nat × List ent)}, ch_T P h ps t → ∀ q ∈ ps, 2 ≤ q.1 ∧ q.1 < P ∧ am_I h 22 q.1 = 1
  | [], _, q, hq => by simp at hq
  | x :: r, a, q, hq => by
    rcases List.mem_cons.mp hq with e | e
    · subst e; exact ⟨a.1.1, a.1.2.1.1, a.1.2.1.2⟩
    · exact a.2.2.held q e
theorem ch_C.held {P : Nat} {h : am_H} : ∀ {ps : List (Nat × List ent)}, ch_C P h ps → ∀ q ∈ ps, 2 ≤ q.1 ∧ q.1 < P ∧ am_I h 22 q.1 = 1
  | [], _, q, hq => by simp at hq
  | x :: r, a, q, hq => by
    rcases List.mem_cons.mp hq with e | e
    · subst e; exact ⟨a.1.1, a.1.2.1.1, a.1.2.1.2⟩
    · exact a.2.2.held q e
theorem ch_E_snoc (p : Nat) (C : List ent) : ∀ ps : List (Nat × List ent), ch_E (ps ++ [(p, C)]) = ch_E ps ++ C
  | [] => by simp [ch_E]
  | q :: r => by simp [ch_E, ch_E_snoc p C r]
/-- what is known of pages but l is as it was -/
def fr_P (h g : am_H) (l : List Nat) : Prop := ∀ q, q ∉ l → am_I g 20 q = am_I h 20 q ∧ am_I g 22 q = am_I h 22 q ∧ am_I g 23 q = am_I h 23 q ∧ am_L g 24 q = am_L h 24 q ∧ ∀ j, j < 128 → am_I g 19 (q * 128 + j) = am_I h 19 (q * 128 + j)
theorem fr_P.refl {h : am_H} {l : List Nat} : fr_P h h l := fun _ _ => ⟨rfl, rfl, rfl, rfl, fun _ _ => rfl⟩
theorem fr_P.of {h g : am_H} {l : List Nat} (e1 : am_I g 20 = am_I h 20) (e2 : am_I g 22 = am_I h 22) (e3 : am_I g 23 = am_I h 23) (e4 : am_L g 24 = am_L h 24) (e5 : am_I g 19 = am_I h 19) : fr_P h g l := fun _ _ => ⟨by rw [e1], by rw [e2], by rw [e3], by rw [e4], fun _ _ => by rw [e5]⟩
theorem fr_P.fi {h g : am_H} {l S : List Nat} (f : am_fi S h g) (hS : 19 ∉ S ∧ 20 ∉ S ∧ 22 ∉ S ∧ 23 ∉ S ∧ 24 ∉ S) : fr_P h g l := fr_P.of (f.2.2.2.2.2.2.1 20 hS.2.1) (f.2.2.2.2.2.2.1 22 hS.2.2.1) (f.2.2.2.2.2.2.1 23 hS.2.2.2.1) (f.2.2.2.2.2.2.2 24 hS.2.2.2.2) (f.2.2.2.2.2.2.1 19 hS.1)
theorem fr_P.trans {h g g' : am_H} {l l' : List Nat} (a : fr_P h g l) (b : fr_P g g' l') : fr_P h g' (l ++ l') := fun q hq => by
  have h1 : q ∉ l := fun z => hq (by simp [z])
  have h2 : q ∉ l' := fun z => hq (by simp [z])
  obtain ⟨a1, a2, a3, a4, a5⟩ := a q h1
  obtain ⟨b1, b2, b3, b4, b5⟩ := b q h2
  exact ⟨b1.trans a1, b2.trans a2, b3.trans a3, b4.trans a4, fun j hj => (b5 j hj).trans (a5 j hj)⟩
theorem wp_Q.fr {P a p k : Nat} {nx : Int32} {C : List ent} {h h' : am_H} (w : wp_Q P h h' a p nx k C) : fr_P h h' [p] := fun q hq => by
  obtain ⟨w1, w2, w3, w4, w5, w6, w7, w8, w9, w10, w11⟩ := w
  have hne : q ≠ p := by simpa using hq
  refine ⟨?_, ?_, ?_, ?_, fun j hj => ?_⟩
  · rw [w4]; unfold up_f; rw [if_neg hne]
  · rw [w5]; unfold up_f; rw [if_neg hne]
  · rw [w6]; unfold up_f; rw [if_neg hne]
  · rw [w7]; unfold up_f; rw [if_neg hne]
  · refine w8 _ ?_
    rcases Nat.lt_or_gt_of_ne hne with e | e <;> omega
/-- the least long is below every one that is above another -/
theorem l_min {a b : Int64} (h : a < b) : (-9223372036854775808 : Int64) < b := by
  rw [Int64.lt_iff_toInt_lt] at *
  have : (-9223372036854775808 : Int64).toInt = -9223372036854775808 := by decide
  have := Int64.le_toInt a
  omega
/-! RUNS ARE WRITTEN: what holds meanwhile -/
def wr_w : List Nat := [14, 15, 18, 19, 20, 21, 22, 23, 24, 25, 26, 29, 30, 31, 32, 33, 34, 35, 36, 37, 38]
/-- the sheet holds C -/
def wr_S (g : am_H) (C : List ent) (u : Nat) (pk : Option Int64) : Prop := sh_U g u C.length pk ∧ el (am_I g 15) 5 none C u ∧ pk = lk none C ∧ (∀ e ∈ C, eo e) ∧ ∀ e, C.head? = some e → am_L g 14 3 = e.1
/-- the run at a: k pages are written -/
def wr_A (h g : am_H) (a k : Nat) : Prop := (∀ j, j ≠ 4 → j ≠ 5 → am_I g a j = am_I h a j) ∧ am_I g a 4 = nI k
/-- the pages done, and the page that is next -/
def wr_D (P : Nat) (h g : am_H) (a : Nat) (done : List (Nat × List ent)) (pg : Nat) : Prop := ch_T P g done (nI pg) ∧ (∀ q ∈ done, am_I g 20 q.1 = 1 ∧ am_I h 22 q.1 = 0 ∧ q.1 < pg ∧ ∀ e, q.2.head? = some e → am_L g 24 q.1 = e.1) ∧ (done.map (·.1)).Nodup ∧ fr_P h g (done.map (·.1)) ∧ ∀ q, (done.map (·.1) ++ [pg]).head? = some q → am_I h a 3 = nI q
/-- m pages more are free -/
def wr_F (P : Nat) (h g : am_H) (k pg m : Nat) : Prop := 2 ≤ pg ∧ pg < P ∧ am_I g 22 pg = 0 ∧ (∀ q, 2 ≤ q → q < pg → am_I g 22 q ≠ 0) ∧ fz (am_I g 22) P + k = fz (am_I h 22) P ∧ am_I g 21 4 = nI (fz (am_I g 22) P) ∧ m ≤ fz (am_I g 22) P
theorem sh_U.fi {S : List Nat} {h h' : am_H} {u c : Nat} {p : Option Int64} (a : sh_U h u c p) (f : am_fi S h h') (hS : 14 ∉ S) : sh_U h' u c p := by
  obtain ⟨v1, v2, v3, v4, v5, v6⟩ := a
  have i14 := f.2.2.2.2.2.2.1 14 hS
  have l14 := f.2.2.2.2.2.2.2 14 hS
  refine ⟨v1.fi f, by rw [i14]; exact v2, by rw [i14]; exact v3, v4, v5, ?_⟩
  cases p with
  | none => exact v6
  | some x => rw [l14]; exact v6
theorem wr_S.fi {S : List Nat} {g g' : am_H} {C : List ent} {u : Nat} {pk : Option Int64} (a : wr_S g C u pk) (f : am_fi S g g') (hS : 14 ∉ S ∧ 15 ∉ S) : wr_S g' C u pk := by
  obtain ⟨a1, a2, a3, a4, a5⟩ := a
  exact ⟨a1.fi f hS.1, by rw [f.2.2.2.2.2.2.1 15 hS.2]; exact a2, a3, a4, fun e he => by rw [f.2.2.2.2.2.2.2 14 hS.1]; exact a5 e he⟩
theorem wr_A.fi {S : List Nat} {h g g' : am_H} {a k : Nat} (c : wr_A h g a k) (f : am_fi S g g') (hS : a ∉ S) : wr_A h g' a k := by
  have e := f.2.2.2.2.2.2.1 a hS
  exact ⟨fun j h1 h2 => by rw [e]; exact c.1 j h1 h2, by rw [e]; exact c.2⟩
theorem wr_D.fi {P : Nat} {S : List Nat} {h g g' : am_H} {a : Nat} {done : List (Nat × List ent)} {pg : Nat} (c : wr_D P h g a done pg) (f : am_fi S g g') (hS : 19 ∉ S ∧ 20 ∉ S ∧ 22 ∉ S ∧ 23 ∉ S ∧ 24 ∉ S) : wr_D P h g' a done pg := by
  obtain ⟨c1, c2, c3, c4, c5⟩ := c
  refine ⟨c1.mono (fun q _ j _ => congrFun (f.2.2.2.2.2.2.1 19 hS.1) _) (fun q _ => congrFun (f.2.2.2.2.2.2.1 23 hS.2.2.2.1) _) (fun q _ => congrFun (f.2.2.2.2.2.2.1 22 hS.2.2.1) _), fun q hq => ?_, c3, ?_, c5⟩
  · obtain ⟨x1, x2, x3, x4⟩ := c2 q hq
    exact ⟨by rw [f.2.2.2.2.2.2.1 20 hS.2.1]; exact x1, x2, x3, fun e he => by rw [f.2.2.2.2.2.2.2 24 hS.2.2.2.2]; exact x4 e he⟩
  · have := c4.trans (fr_P.fi (l := []) f hS)
    simpa using this
theorem wr_F.fi {P : Nat} {S : List Nat} {h g g' : am_H} {k pg m : Nat} (c : wr_F P h g k pg m) (f : am_fi S g g') (hS : 21 ∉ S ∧ 22 ∉ S) : wr_F P h g' k pg m := by
  unfold wr_F at *
  rw [f.2.2.2.2.2.2.1 22 hS.2, f.2.2.2.2.2.2.1 21 hS.1]
  exact c
/-- an entry has come onto the sheet -/
theorem wr_S.app {g g' : am_H} {C : List ent} {u : Nat} {pk : Option Int64} {e : ent} (a : wr_S g C u pk) (he : eo e) (U : sh_U g' (u + es (sh1 pk e.1) e) (C.length + 1) (some e.1)) (E : ea (am_I g' 15) u (sh1 pk e.1) e) (K : ∀ j, j < u → am_I g' 15 j = am_I g 15 j) (L : am_L g' 14 3 = if C.length = 0 then e.1 else am_L g 14 3) : wr_S g' (C ++ [e]) (u + es (sh1 pk e.1) e) (some e.1) := by
  obtain ⟨a1, a2, a3, a4, a5⟩ := a
  subst a3
  refine ⟨by rw [List.length_append]; exact U, el_snoc (el_ext (fun j _ j2 => K j j2) a2) E, (lk_snoc C none e).symm, fun x hx => ?_, fun x hx => ?_⟩
  · rcases List.mem_append.mp hx with q | q
    · exact a4 x q
    · have : x = e := by simpa using q
      rw [this]; exact he
  · cases C with
    | nil =>
      have : e = x := by simpa using hx
      rw [L, if_pos (show ([] : List ent).length = 0 from rfl), this]
    | cons c C =>
      have : c = x := by simpa using hx
      rw [L, if_neg (by simp), ← this]
      exact a5 c rfl
/-- the page pg is written -/
theorem wr_D.fin {P : Nat} {h g g' : am_H} {a k u pg m : Nat} {nx : Int32} {C : List ent} {pk : Option Int64} {done : List (Nat × List ent)} (c : wr_D P h g a done pg) (S : wr_S g C u pk) (F : wr_F P h g k pg m) (w : wp_Q P g g' a pg nx k C) : ch_T P g' (done ++ [(pg, C)]) nx ∧ (∀ q ∈ done ++ [(pg, C)], am_I g' 20 q.1 = 1 ∧ am_I h 22 q.1 = 0 ∧ q.1 ≤ pg ∧ ∀ e, q.2.head? = some e → am_L g' 24 q.1 = e.1) ∧ ((done ++ [(pg, C)]).map (·.1)).Nodup ∧ fr_P h g' ((done ++ [(pg, C)]).map (·.1)) ∧ ∀ q, ((done ++ [(pg, C)]).map (·.1)).head? = some q → am_I h a 3 = nI q := by
  obtain ⟨c1, c2, c3, c4, c5⟩ := c
  have W := w.fr
  obtain ⟨w1, w2, w3, w4, w5, w6, w7, w8, w9, w10, w11⟩ := w
  have ne : ∀ x ∈ done, x.1 ∉ [pg] := fun x hx => by have := (c2 x hx).2.2.1; simp; omega
  have pd : pg ∉ done.map (·.1) := fun hm => by
    obtain ⟨x, x1, x2⟩ := List.mem_map.mp hm
    have := (c2 x x1).2.2.1
    omega
  refine ⟨ch_T.snoc (c1.mono (fun x hx j hj => (W x.1 (ne x hx)).2.2.2.2 j hj) (fun x hx => (W x.1 (ne x hx)).2.2.1) (fun x hx => (W x.1 (ne x hx)).2.1)) w3 (by rw [w6]; unfold up_f; rw [if_pos rfl]), fun x hx => ?_, ?_, ?_, fun x hx => ?_⟩
  · rcases List.mem_append.mp hx with hx | hx
    · obtain ⟨x1, x2, x3, x4⟩ := c2 x hx
      exact ⟨by rw [(W x.1 (ne x hx)).1]; exact x1, x2, by omega, fun e he => by rw [(W x.1 (ne x hx)).2.2.2.1]; exact x4 e he⟩
    · have e : x = (pg, C) := by simpa using hx
      subst e
      refine ⟨by rw [w4]; unfold up_f; rw [if_pos rfl], ?_, Nat.le_refl _, fun e he => ?_⟩
      · rw [← (c4 pg pd).2.1]; exact F.2.2.1
      · rw [w7]
        unfold up_f
        rw [if_pos rfl]
        exact S.2.2.2.2 e he
  · rw [List.map_append]
    refine List.nodup_append.mpr ⟨c3, by simp, fun x hx y hy => ?_⟩
    have : y = pg := by simpa using hy
    rw [this]
    exact fun e => pd (e ▸ hx)
  · rw [List.map_append]
    exact c4.trans W
  · refine c5 x ?_
    rw [← hx, List.map_append]
    rfl
/-- .. and q is the next -/
theorem wr_D.wp {P : Nat} {h g g' : am_H} {a k u pg q m : Nat} {C : List ent} {pk : Option Int64} {done : List (Nat × List ent)} (c : wr_D P h g a done pg) (S : wr_S g C u pk) (F : wr_F P h g k pg m) (w : wp_Q P g g' a pg (nI q) k C) (hq : pg < q) : wr_D P h g' a (done ++ [(pg, C)]) q := by
  obtain ⟨x1, x2, x3, x4, x5⟩ := c.fin S F w
  refine ⟨x1, fun y hy => ?_, x3, x4, fun y hy => x5 y ?_⟩
  · obtain ⟨y1, y2, y3, y4⟩ := x2 y hy
    exact ⟨y1, y2, by omega, y4⟩
  · rw [← hy]
    cases done <;> rfl
theorem wr_F.wp {P : Nat} {h g g' : am_H} {a k pg q m m' : Nat} {C : List ent} (F : wr_F P h g k pg m) (w : wp_Q P g g' a pg (nI q) k C) (h1 : pg < q) (h2 : q < P) (h3 : am_I g 22 q = 0) (h4 : ∀ r, pg < r → r < q → am_I g 22 r ≠ 0) (hm : m' + 1 ≤ m) : wr_F P h g' (k + 1) q m' := by
  obtain ⟨f1, f2, f3, f4, f5, f6, f7⟩ := F
  obtain ⟨w1, w2, w3, w4, w5, w6, w7, w8, w9, w10, w11⟩ := w
  have z := fz_up (f := am_I g 22) (p := pg) (v := 1) P f1 f2
  rw [if_pos f3, if_neg (by decide)] at z
  replace z : fz (up_f (am_I g 22) pg 1) P + 1 = fz (am_I g 22) P := by omega
  refine ⟨by omega, h2, ?_, fun r r1 r2 => ?_, by rw [w5]; omega, ?_, by rw [w5]; omega⟩
  · rw [w5]; unfold up_f; rw [if_neg (by omega)]; exact h3
  · rw [w5]
    unfold up_f
    by_cases e : r = pg
    · rw [if_pos e]; decide
    · rw [if_neg e]
      rcases Nat.lt_or_gt_of_ne e with e | e
      · exact f4 r r1 e
      · exact h4 r e r2
  · rw [w9, f6, w5, ← z]
    exact nI_pred _
