/-! THE REFERENCE IN ANY STATE -/
theorem mo_Sk.all {h : am_H} (c : mo_Sk h) : am_kd h 72 = 12 ∧ ((0 : Int32) = 0 ∨ (0 : Int32) = 1) ∧ ((1 : Int32) = 0 ∨ (1 : Int32) = 1) ∧ am_R h 72 2 = 73 ∧ am_kd h 73 = 102 ∧ am_ln h 73 = 131072 ∧ am_R h 72 12 = 74 ∧ am_kd h 74 = 101 ∧ am_ln h 74 = 64 ∧ am_R h 72 13 = 75 ∧ am_kd h 75 = 100 ∧ am_ln h 75 = 64 ∧ am_R h 72 14 = 76 ∧ am_kd h 76 = 101 ∧ am_ln h 76 = 64 ∧ am_R h 72 15 = 77 ∧ am_kd h 77 = 100 ∧ am_ln h 77 = 100 ∧ am_R h 72 16 = 78 ∧ am_kd h 78 = 100 ∧ am_ln h 78 = 100 ∧ am_R h 72 17 = 79 ∧ am_kd h 79 = 100 ∧ am_ln h 79 = 100 ∧ am_R h 72 18 = 80 ∧ am_kd h 80 = 100 ∧ am_ln h 80 = 100 ∧ am_R h 72 19 = 81 ∧ am_kd h 81 = 100 ∧ am_ln h 81 = 100 ∧ am_R h 72 20 = 82 ∧ am_kd h 82 = 100 ∧ am_ln h 82 = 102400 ∧ am_R h 72 21 = 83 ∧ am_kd h 83 = 101 ∧ am_ln h 83 = 102400 ∧ am_R h 72 22 = 84 ∧ am_kd h 84 = 101 ∧ am_ln h 84 = 100 ∧ am_R h 72 23 = 85 ∧ am_kd h 85 = 101 ∧ am_ln h 85 = 800 ∧ am_R h 72 25 = 86 ∧ am_kd h 86 = 100 ∧ am_ln h 86 = 9 ∧ am_R h 72 26 = 87 ∧ am_kd h 87 = 103 ∧ am_ln h 87 = 8 ∧ am_R h 72 27 = 88 ∧ am_kd h 88 = 100 ∧ am_ln h 88 = 8 ∧ am_R h 72 28 = 89 ∧ am_kd h 89 = 100 ∧ am_ln h 89 = 72 ∧ am_R h 72 29 = 90 ∧ am_kd h 90 = 103 ∧ am_ln h 90 = 1024 ∧ am_R h 72 30 = 91 ∧ am_kd h 91 = 102 ∧ am_ln h 91 = 128 ∧ am_R h 72 32 = 92 ∧ am_kd h 92 = 101 ∧ am_ln h 92 = 45000 ∧ am_R h 72 33 = 93 ∧ am_kd h 93 = 100 ∧ am_ln h 93 = 45000 ∧ am_R h 72 34 = 94 ∧ am_kd h 94 = 101 ∧ am_ln h 94 = 45000 ∧ am_R h 72 36 = 95 ∧ am_kd h 95 = 101 ∧ am_ln h 95 = 60 ∧ am_R h 72 37 = 96 ∧ am_kd h 96 = 100 ∧ am_ln h 96 = 60 ∧ am_R h 72 38 = 97 ∧ am_kd h 97 = 101 ∧ am_ln h 97 = 60 ∧ am_R h 72 39 = 98 ∧ am_kd h 98 = 101 ∧ am_ln h 98 = 45000 ∧ am_R h 72 40 = 99 ∧ am_kd h 99 = 100 ∧ am_ln h 99 = 45000 ∧ am_R h 72 41 = 100 ∧ am_kd h 100 = 101 ∧ am_ln h 100 = 45000 ∧ am_R h 72 42 = 101 ∧ am_kd h 101 = 101 ∧ am_ln h 101 = 45000 ∧ am_R h 72 43 = 102 ∧ am_kd h 102 = 100 ∧ am_ln h 102 = 45000 ∧ am_R h 72 44 = 103 ∧ am_kd h 103 = 101 ∧ am_ln h 103 = 45000 ∧ am_R h 72 46 = 104 ∧ am_kd h 104 = 101 ∧ am_ln h 104 = 200 ∧ am_R h 72 47 = 105 ∧ am_kd h 105 = 101 ∧ am_ln h 105 = 200 ∧ am_R h 72 48 = 106 ∧ am_kd h 106 = 100 ∧ am_ln h 106 = 8 ∧ am_R h 72 49 = 107 ∧ am_kd h 107 = 100 ∧ am_ln h 107 = 8 := by
  obtain ⟨c1, c2, c3⟩ := c
  exact ⟨c1, by decide, by decide, (c2 2).trans rfl, (c3 0 _ rfl).1, (c3 0 _ rfl).2, (c2 12).trans rfl, (c3 1 _ rfl).1, (c3 1 _ rfl).2, (c2 13).trans rfl, (c3 2 _ rfl).1, (c3 2 _ rfl).2, (c2 14).trans rfl, (c3 3 _ rfl).1, (c3 3 _ rfl).2, (c2 15).trans rfl, (c3 4 _ rfl).1, (c3 4 _ rfl).2, (c2 16).trans rfl, (c3 5 _ rfl).1, (c3 5 _ rfl).2, (c2 17).trans rfl, (c3 6 _ rfl).1, (c3 6 _ rfl).2, (c2 18).trans rfl, (c3 7 _ rfl).1, (c3 7 _ rfl).2, (c2 19).trans rfl, (c3 8 _ rfl).1, (c3 8 _ rfl).2, (c2 20).trans rfl, (c3 9 _ rfl).1, (c3 9 _ rfl).2, (c2 21).trans rfl, (c3 10 _ rfl).1, (c3 10 _ rfl).2, (c2 22).trans rfl, (c3 11 _ rfl).1, (c3 11 _ rfl).2, (c2 23).trans rfl, (c3 12 _ rfl).1, (c3 12 _ rfl).2, (c2 25).trans rfl, (c3 13 _ rfl).1, (c3 13 _ rfl).2, (c2 26).trans rfl, (c3 14 _ rfl).1, (c3 14 _ rfl).2, (c2 27).trans rfl, (c3 15 _ rfl).1, (c3 15 _ rfl).2, (c2 28).trans rfl, (c3 16 _ rfl).1, (c3 16 _ rfl).2, (c2 29).trans rfl, (c3 17 _ rfl).1, (c3 17 _ rfl).2, (c2 30).trans rfl, (c3 18 _ rfl).1, (c3 18 _ rfl).2, (c2 32).trans rfl, (c3 19 _ rfl).1, (c3 19 _ rfl).2, (c2 33).trans rfl, (c3 20 _ rfl).1, (c3 20 _ rfl).2, (c2 34).trans rfl, (c3 21 _ rfl).1, (c3 21 _ rfl).2, (c2 36).trans rfl, (c3 22 _ rfl).1, (c3 22 _ rfl).2, (c2 37).trans rfl, (c3 23 _ rfl).1, (c3 23 _ rfl).2, (c2 38).trans rfl, (c3 24 _ rfl).1, (c3 24 _ rfl).2, (c2 39).trans rfl, (c3 25 _ rfl).1, (c3 25 _ rfl).2, (c2 40).trans rfl, (c3 26 _ rfl).1, (c3 26 _ rfl).2, (c2 41).trans rfl, (c3 27 _ rfl).1, (c3 27 _ rfl).2, (c2 42).trans rfl, (c3 28 _ rfl).1, (c3 28 _ rfl).2, (c2 43).trans rfl, (c3 29 _ rfl).1, (c3 29 _ rfl).2, (c2 44).trans rfl, (c3 30 _ rfl).1, (c3 30 _ rfl).2, (c2 46).trans rfl, (c3 31 _ rfl).1, (c3 31 _ rfl).2, (c2 47).trans rfl, (c3 32 _ rfl).1, (c3 32 _ rfl).2, (c2 48).trans rfl, (c3 33 _ rfl).1, (c3 33 _ rfl).2, (c2 49).trans rfl, (c3 34 _ rfl).1, (c3 34 _ rfl).2⟩
def pe (E : Nat → List ent) (pl : List Nat) : List (Nat × List ent) := pl.map (fun q => (q, E q))
/-- a page of a run: laid as its entries, or its sum is wrong -/
def pgw (P : Nat) (h : am_H) (E : Nat → List ent) (q : Nat) : Prop := 2 ≤ q ∧ q < P ∧ E q ≠ [] ∧ (E q).length ≤ 36 ∧ (∀ e ∈ E q, eo e) ∧ (mo_Rt h q → pg_M P h q (E q))
def rs_W (P : Nat) (h : am_H) (E : Nat → List ent) (s : Nat) : Prop := s < 100 ∧ ∃ pl : List Nat, pl ≠ [] ∧ am_I h 80 s = nI pl.length ∧ (∀ k q, pl[k]? = some q → am_I h 82 (1024 * s + k) = nI q) ∧ (∀ q ∈ pl, pgw P h E q) ∧ so (ch_E (pe E pl))
/-- all references to slots -/
def al (now : List Nat) (mk : Nat → List Nat) : List Nat := now ++ (mk 0 ++ (mk 1 ++ (mk 2 ++ (mk 3 ++ (mk 4 ++ (mk 5 ++ (mk 6 ++ mk 7)))))))
def lev (h : am_H) (s : Nat) : Nat := (am_I h 79 s).toNatClampNeg
def rR_n (h : am_H) (now : List Nat) : Prop := am_I h 72 24 = nI now.length ∧ (∀ i s, now[i]? = some s → am_I h 86 i = nI s) ∧ (∀ s ∈ now, am_I h 79 s = nI (lev h s)) ∧ lv_ok 0 (now.map (lev h)) ∧ up 0 (now.map (lev h)) ≤ 6
def rR_m (h : am_H) (mk : Nat → List Nat) : Prop := ∀ m, m < 8 → (am_I h 87 m = 0 ∧ mk m = []) ∨ (am_I h 87 m = 1 ∧ (mk m).length ≤ 9 ∧ am_I h 88 m = nI (mk m).length ∧ ∀ k s, (mk m)[k]? = some s → am_I h 89 (9 * m + k) = nI s)
def rR_u (P : Nat) (h : am_H) (E : Nat → List ent) (l : List Nat) : Prop := (∀ s, s < 100 → am_I h 77 s = nI (l.count s)) ∧ ∀ s ∈ l, rs_W P h E s
def rR (P : Nat) (h : am_H) (E : Nat → List ent) (now : List Nat) (mk : Nat → List Nat) : Prop := rR_n h now ∧ rR_m h mk ∧ rR_u P h E (al now mk) ∧ (am_I h 72 3 = 0 ∨ (am_I h 72 3 = 1 ∧ al now mk = []))
/-- the octets are octets -/
def BY (h : am_H) : Prop := ∀ j, am_b8 (am_I h 73 j) = am_I h 73 j
def rC (P : Nat) (h : am_H) : Prop := mo_Sk h ∧ 4 ≤ P ∧ P ≤ 1024 ∧ am_I h 72 1 = nI P ∧ (∃ a b, a ≤ 1000 ∧ b ≤ 127 ∧ am_I h 72 8 = nI a ∧ am_I h 72 9 = nI b) ∧ (∃ r, r ≤ 200 ∧ am_I h 72 45 = nI r) ∧ (∃ n, am_I h 72 11 = nI n ∧ ta_S n (am_L h 74) (am_I h 75) (am_L h 76)) ∧ BY h
def rI (P : Nat) (h : am_H) : Prop := rC P h ∧ ∃ E now mk, rR P h E now mk
/-- the reference's addresses -/
def rA : List Nat := [72, 73, 74, 75, 76, 77, 78, 79, 80, 81, 82, 83, 84, 85, 86, 87, 88, 89, 90, 91, 92, 93, 94, 95, 96, 97, 98, 99, 100, 101, 102, 103, 104, 105, 106, 107]
/-- those that the invariant does not look at -/
def rB : List Nat := [78, 81, 83, 84, 85, 90, 91, 92, 93, 94, 95, 96, 97, 98, 99, 100, 101, 102, 103, 104, 105, 106, 107]
def rq (P : Nat) (h h' : am_H) : Prop := rI P h' ∧ am_fi rA h h'
theorem mo_Rt.eq {h h' : am_H} {p : Nat} (e : ∀ j, j < 128 → am_I h' 73 (128 * p + j) = am_I h 73 (128 * p + j)) : mo_Rt h' p ↔ mo_Rt h p := by
  unfold mo_Rt
  have e2 : ∀ j, j < 8 → am_I h' 73 (128 * p + 120 + j) = am_I h 73 (128 * p + 120 + j) := fun j hj => by
    have := e (120 + j) (by omega)
    rw [Nat.add_assoc]; exact this
  have e3 : sm_F (fun j => am_I h' 73 (128 * p + j)) (nI p).toInt64 120 = sm_F (fun j => am_I h 73 (128 * p + j)) (nI p).toInt64 120 := sm_F_ext 120 (fun j hj => e j (by omega))
  constructor
  · intro q j hj
    rw [← e2 j hj, ← e3]; exact q j hj
  · intro q j hj
    rw [e2 j hj, e3]; exact q j hj
theorem pgw.eq {P q : Nat} {h h' : am_H} {E : Nat → List ent} (c : pgw P h E q) (e : ∀ j, j < 128 → am_I h' 73 (q * 128 + j) = am_I h 73 (q * 128 + j)) : pgw P h' E q := by
  obtain ⟨c1, c2, c3, c4, c5, c6⟩ := c
  refine ⟨c1, c2, c3, c4, c5, fun r => ?_⟩
  have e' : ∀ j, j < 128 → am_I h' 73 (128 * q + j) = am_I h 73 (128 * q + j) := fun j hj => by rw [Nat.mul_comm 128 q]; exact e j hj
  exact (c6 ((mo_Rt.eq e').mp r)).mono e
theorem nd_le {α : Type} [DecidableEq α] : ∀ (l b : List α), l.Nodup → (∀ x ∈ l, x ∈ b) → l.length ≤ b.length
  | [], b, _, _ => Nat.zero_le _
  | x :: l, b, hd, hs => by
    obtain ⟨h1, h2⟩ := List.nodup_cons.mp hd
    have hx : x ∈ b := hs x (by simp)
    have ih := nd_le l (b.erase x) h2 (fun y hy => (List.mem_erase_of_ne (fun e : y = x => h1 (e ▸ hy))).mpr (hs y (by simp [hy])))
    rw [List.length_erase_of_mem hx] at ih
    have : 0 < b.length := List.length_pos_of_mem hx
    simp only [List.length_cons]
    omega
theorem ch_E_pe {E : Nat → List ent} : ∀ (pl : List Nat) (q : Nat) (e : ent), q ∈ pl → e ∈ E q → e ∈ ch_E (pe E pl)
  | [], q, e, hq, _ => by simp at hq
  | r :: pl, q, e, hq, he => by
    show e ∈ E r ++ ch_E (pe E pl)
    rw [List.mem_append]
    rcases List.mem_cons.mp hq with h | h
    · exact Or.inl (h ▸ he)
    · exact Or.inr (ch_E_pe pl q e h he)
theorem ch_E_in {E : Nat → List ent} : ∀ (pl : List Nat) (e : ent), e ∈ ch_E (pe E pl) → ∃ q ∈ pl, e ∈ E q
  | [], e, he => by simp [pe, ch_E] at he
  | r :: pl, e, he => by
    have he : e ∈ E r ++ ch_E (pe E pl) := he
    rcases List.mem_append.mp he with h | h
    · exact ⟨r, by simp, h⟩
    · obtain ⟨q, h1, h2⟩ := ch_E_in pl e h
      exact ⟨q, by simp [h1], h2⟩
theorem so_app3 : ∀ (A B : List ent), so (A ++ B) ↔ so A ∧ so B ∧ ∀ x ∈ A, ∀ y ∈ B, x.1 < y.1
  | [], B => by simp [so]
  | a :: A, B => by
    show (∀ x ∈ A ++ B, a.1 < x.1) ∧ so (A ++ B) ↔ _
    rw [so_app3 A B]
    constructor
    · rintro ⟨h1, h2, h3, h4⟩
      refine ⟨⟨fun x hx => h1 x (by simp [hx]), h2⟩, h3, fun x hx y hy => ?_⟩
      rcases List.mem_cons.mp hx with h | h
      · rw [h]; exact h1 y (by simp [hy])
      · exact h4 x h y hy
    · rintro ⟨⟨h1, h2⟩, h3, h4⟩
      refine ⟨fun x hx => ?_, h2, h3, fun x hx y hy => h4 x (by simp [hx]) y hy⟩
      rcases List.mem_append.mp hx with h | h
      · exact h1 x h
      · exact h4 a (by simp) x h
theorem pe_nodup {E : Nat → List ent} : ∀ (pl : List Nat), (∀ q ∈ pl, E q ≠ []) → so (ch_E (pe E pl)) → pl.Nodup
  | [], _, _ => List.nodup_nil
  | q :: pl, hn, hs => by
    have hs : so (E q ++ ch_E (pe E pl)) := hs
    obtain ⟨s1, s2, s3⟩ := (so_app3 _ _).mp hs
    refine List.nodup_cons.mpr ⟨fun hq => ?_, pe_nodup pl (fun r hr => hn r (by simp [hr])) s2⟩
    obtain ⟨e, he⟩ := List.exists_mem_of_ne_nil _ (hn q (by simp))
    have := s3 e he e (ch_E_pe pl q e hq he)
    rw [Int64.lt_iff_toInt_lt] at this
    omega
theorem pl_len {P : Nat} {pl : List Nat} (hn : pl.Nodup) (hp : ∀ q ∈ pl, 2 ≤ q ∧ q < P) : pl.length ≤ P - 2 := by
  have := nd_le pl (List.range' 2 (P - 2)) hn (fun q hq => by
    have := hp q hq
    rw [List.mem_range'_1]
    omega)
  rw [List.length_range'] at this
  exact this
theorem pw_len {P : Nat} {h : am_H} {E : Nat → List ent} {pl : List Nat} (c5 : ∀ q ∈ pl, pgw P h E q) (c6 : so (ch_E (pe E pl))) : pl.Nodup ∧ pl.length ≤ P - 2 := by
  have h1 := pe_nodup pl (fun q hq => (c5 q hq).2.2.1) c6
  exact ⟨h1, pl_len h1 (fun q hq => ⟨(c5 q hq).1, (c5 q hq).2.1⟩)⟩
theorem rs_W.eq {P s : Nat} {h h' : am_H} {E : Nat → List ent} (c : rs_W P h E s) (hP : P ≤ 1024) (e0 : am_I h' 80 s = am_I h 80 s) (e1 : ∀ k, k < 1024 → am_I h' 82 (1024 * s + k) = am_I h 82 (1024 * s + k)) (e2 : ∀ q, pgw P h E q → pgw P h' E q) : rs_W P h' E s := by
  obtain ⟨c1, pl, c2, c3, c4, c5, c6⟩ := c
  have hl := (pw_len c5 c6).2
  refine ⟨c1, pl, c2, e0.trans c3, fun k q hk => ?_, fun q hq => e2 q (c5 q hq), c6⟩
  have : k < pl.length := (List.getElem?_eq_some_iff.mp hk).1
  rw [e1 k (by omega)]
  exact c4 k q hk
/-! FRAMES -/
theorem rfr {S : List Nat} {h h' : am_H} (f : am_fi S h h') (hS : ∀ q ∈ S, q = 72 ∨ q ∈ rB) (a : Nat) (h1 : a ≠ 72) (h2 : a ∉ rB) : am_I h' a = am_I h a ∧ am_L h' a = am_L h a := by
  have hn : a ∉ S := fun q => by
    rcases hS a q with e | e
    · exact h1 e
    · exact h2 e
  exact ⟨f.2.2.2.2.2.2.1 a hn, f.2.2.2.2.2.2.2 a hn⟩
def rJ (j : Nat) : Prop := j = 1 ∨ j = 3 ∨ j = 8 ∨ j = 9 ∨ j = 11 ∨ j = 24 ∨ j = 45
theorem rC.fr {P : Nat} {S : List Nat} {h h' : am_H} (R : rC P h) (f : am_fi S h h') (hS : ∀ q ∈ S, q = 72 ∨ q ∈ rB) (h72 : ∀ j, rJ j → am_I h' 72 j = am_I h 72 j) : rC P h' := by
  obtain ⟨c1, c2, c3, c4, c5, c6, c7, c8⟩ := R
  have w := rfr f hS
  refine ⟨c1.fi f, c2, c3, ?_, ?_, ?_, ?_, by unfold BY; rw [(w 73 (by decide) (by decide)).1]; exact c8⟩
  · rw [h72 1 (by simp [rJ])]; exact c4
  · rw [h72 8 (by simp [rJ]), h72 9 (by simp [rJ])]; exact c5
  · rw [h72 45 (by simp [rJ])]; exact c6
  · rw [h72 11 (by simp [rJ]), (w 74 (by decide) (by decide)).2, (w 75 (by decide) (by decide)).1, (w 76 (by decide) (by decide)).2]; exact c7
theorem rR.fr {P : Nat} {S : List Nat} {h h' : am_H} {E : Nat → List ent} {now : List Nat} {mk : Nat → List Nat} (R : rR P h E now mk) (hP : P ≤ 1024) (f : am_fi S h h') (hS : ∀ q ∈ S, q = 72 ∨ q ∈ rB) (h72 : ∀ j, rJ j → am_I h' 72 j = am_I h 72 j) : rR P h' E now mk := by
  obtain ⟨c1, c2, ⟨c3, c4⟩, c5⟩ := R
  have w := rfr f hS
  refine ⟨?_, ?_, ⟨?_, fun s hs => ?_⟩, ?_⟩
  · unfold rR_n lev
    rw [h72 24 (by simp [rJ]), (w 86 (by decide) (by decide)).1, (w 79 (by decide) (by decide)).1]; exact c1
  · unfold rR_m
    rw [(w 87 (by decide) (by decide)).1, (w 88 (by decide) (by decide)).1, (w 89 (by decide) (by decide)).1]; exact c2
  · rw [(w 77 (by decide) (by decide)).1]; exact c3
  · refine (c4 s hs).eq hP ?_ (fun k _ => ?_) (fun q hq => hq.eq (fun j _ => ?_))
    · rw [(w 80 (by decide) (by decide)).1]
    · rw [(w 82 (by decide) (by decide)).1]
    · rw [(w 73 (by decide) (by decide)).1]
  · rw [h72 3 (by simp [rJ])]; exact c5
theorem rI.fr {P : Nat} {S : List Nat} {h h' : am_H} (R : rI P h) (f : am_fi S h h') (hS : ∀ q ∈ S, q = 72 ∨ q ∈ rB) (h72 : ∀ j, rJ j → am_I h' 72 j = am_I h 72 j) : rI P h' := by
  obtain ⟨c, E, now, mk, r⟩ := R
  exact ⟨c.fr f hS h72, E, now, mk, r.fr c.2.2.1 f hS h72⟩
theorem rA_of {S : List Nat} (hS : ∀ q ∈ S, q = 72 ∨ q ∈ rB) : ∀ q ∈ S, q ∈ rA := fun q hq => by
  rcases hS q hq with e | e
  · subst e; decide
  · simp only [rB, List.mem_cons, List.not_mem_nil, or_false] at e
    simp only [rA, List.mem_cons, List.not_mem_nil, or_false]
    omega
theorem rq.fr {P : Nat} {S : List Nat} {h h' : am_H} (R : rI P h) (f : am_fi S h h') (hS : ∀ q ∈ S, q = 72 ∨ q ∈ rB) (h72 : ∀ j, rJ j → am_I h' 72 j = am_I h 72 j) : rq P h h' := ⟨R.fr f hS h72, f.sub (rA_of hS)⟩
theorem rq.refl {P : Nat} {h : am_H} (R : rI P h) : rq P h h := ⟨R, am_fi.refl⟩
theorem rq.trans {P : Nat} {h h1 h2 : am_H} (a : rq P h h1) (b : rq P h1 h2) : rq P h h2 := ⟨b.1, a.2.trans b.2⟩
/-- a field of the object that the invariant does not look at -/
theorem rq.s {P j : Nat} {v : Int32} {h g : am_H} (R : rq P h g) (hj : ¬ rJ j) : rq P h (am_sI g 72 j v) :=
  R.trans (rq.fr (S := [72]) R.1 (am_fi.refl.sI (by simp)) (by simp) (fun i hi => by
    have : i ≠ j := fun e => hj (e ▸ hi)
    rw [hx_I_sI, if_pos rfl, if_neg this]))
/-! WHAT FOLLOWS -/
theorem rR.n9 {P : Nat} {h : am_H} {E : Nat → List ent} {now : List Nat} {mk : Nat → List Nat} (R : rR P h E now mk) : now.length ≤ 9 := by
  obtain ⟨⟨-, -, -, c1, c2⟩, -⟩ := R
  have := lv_len0 _ c1
  rw [List.length_map] at this
  omega
theorem rR.m9 {P m : Nat} {h : am_H} {E : Nat → List ent} {now : List Nat} {mk : Nat → List Nat} (R : rR P h E now mk) (hm : m < 8) : (mk m).length ≤ 9 := by
  rcases R.2.1 m hm with ⟨-, e⟩ | ⟨-, e, -⟩
  · rw [e]; exact Nat.zero_le _
  · exact e
theorem rR.a81 {P : Nat} {h : am_H} {E : Nat → List ent} {now : List Nat} {mk : Nat → List Nat} (R : rR P h E now mk) : (al now mk).length ≤ 81 := by
  have h0 := R.n9
  have h1 := R.m9 (m := 0) (by omega)
  have h2 := R.m9 (m := 1) (by omega)
  have h3 := R.m9 (m := 2) (by omega)
  have h4 := R.m9 (m := 3) (by omega)
  have h5 := R.m9 (m := 4) (by omega)
  have h6 := R.m9 (m := 5) (by omega)
  have h7 := R.m9 (m := 6) (by omega)
  have h8 := R.m9 (m := 7) (by omega)
  unfold al
  simp only [List.length_append]
  omega
theorem cnt_le {α : Type} [DecidableEq α] (l : List α) (s : α) : l.count s ≤ l.length := List.count_le_length
theorem rR.mem {P s : Nat} {h : am_H} {E : Nat → List ent} {now : List Nat} {mk : Nat → List Nat} (R : rR P h E now mk) (hs : s < 100) (hu : 0 < am_I h 77 s) : s ∈ al now mk := by
  rw [R.2.2.1.1 s hs] at hu
  have : (al now mk).count s ≠ 0 := fun e => by rw [e] at hu; exact absurd hu (by decide)
  exact List.count_pos_iff.mp (by omega)
theorem rR.W {P : Nat} {h : am_H} {E : Nat → List ent} {now : List Nat} {mk : Nat → List Nat} (R : rR P h E now mk) (hP : P ≤ 1024) : us_W P h := fun s hs hu => by
  obtain ⟨c1, pl, c2, c3, c4, c5, c6⟩ := R.2.2.1.2 s (R.mem hs hu)
  have hl := (pw_len c5 c6).2
  refine ⟨pl.length, by omega, c3, fun k hk => ?_⟩
  obtain ⟨q, hq⟩ : ∃ q, pl[k]? = some q := ⟨pl[k], List.getElem?_eq_getElem hk⟩
  exact ⟨q, (c5 q (List.mem_of_getElem? hq)).2.1, c4 k q hq⟩
theorem rR.slot {P : Nat} {h : am_H} {E : Nat → List ent} {now : List Nat} {mk : Nat → List Nat} (R : rR P h E now mk) : ∃ s, s < 100 ∧ ¬ 0 < am_I h 77 s := by
  rcases Classical.em (∃ s, s < 100 ∧ ¬ 0 < am_I h 77 s) with h1 | h1
  · exact h1
  · exfalso
    have h2 : ∀ s ∈ List.range 100, s ∈ al now mk := fun s hs => by
      have hs := List.mem_range.mp hs
      refine R.mem hs ?_
      rcases Classical.em (0 < am_I h 77 s) with q | q
      · exact q
      · exact absurd ⟨s, hs, q⟩ h1
    have := nd_le (List.range 100) (al now mk) List.nodup_range h2
    rw [List.length_range] at this
    have := R.a81
    omega
