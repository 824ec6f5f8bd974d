/-! THE LOCALS -/
theorem am_nth_set : ∀ (l : List Value) (i j : Nat) (v : Value), i < l.length → am_nth (am_set l i v) j = if j = i then v else am_nth l j
  | [], i, j, v, h => by simp at h
  | w :: l, 0, 0, v, _ => rfl
  | w :: l, 0, j + 1, v, _ => by simp [am_set, am_nth]
  | w :: l, i + 1, 0, v, _ => by simp [am_set, am_nth]
  | w :: l, i + 1, j + 1, v, h => by
    simp only [am_set, am_nth]
    rw [am_nth_set l i j v (by simpa using h)]
    simp
theorem am_len_set : ∀ (l : List Value) (i : Nat) (v : Value), (am_set l i v).length = l.length
  | [], _, _ => rfl
  | _ :: _, 0, _ => rfl
  | _ :: l, i + 1, v => by simp [am_set, am_len_set l i v]
theorem am_nth_out : ∀ (l : List Value) (i : Nat), l.length ≤ i → am_nth l i = .retAddr 0
  | [], _, _ => rfl
  | _ :: l, 0, h => by simp at h
  | _ :: l, i + 1, h => am_nth_out l i (by simpa using h)
theorem am_len_kl (l : List Value) (i : Nat) : (am_kl l i).length = l.length := by
  cases i with
  | zero => rfl
  | succ n => exact am_len_set _ _ _
theorem am_nth_kl {l : List Value} {i j : Nat} (hi : i < l.length) : am_nth (am_kl l i) j = if j + 1 = i then am_kill (am_nth l j) else am_nth l j := by
  cases i with
  | zero => simp [am_kl]
  | succ n =>
    simp only [am_kl]
    rw [am_nth_set _ _ _ _ (by omega)]
    by_cases h : j = n
    · subst h; simp
    · rw [if_neg h, if_neg (by omega)]
def so_al (B b : Nat) (l : List Value) : List (Nat × Value) := ((List.range l.length).filter (fun j => decide (am_nth l j ≠ .retAddr 0))).map (fun j => (j, so_cv B b (am_nth l j)))
theorem so_al_mem {B b : Nat} {l : List Value} {q : Nat × Value} : q ∈ so_al B b l ↔ q.1 < l.length ∧ am_nth l q.1 ≠ .retAddr 0 ∧ q.2 = so_cv B b (am_nth l q.1) := by
  unfold so_al
  simp only [List.mem_map, List.mem_filter, List.mem_range, decide_eq_true_eq]
  constructor
  · rintro ⟨j, ⟨h1, h2⟩, rfl⟩
    exact ⟨h1, h2, rfl⟩
  · rintro ⟨h1, h2, h3⟩
    exact ⟨q.1, ⟨h1, h2⟩, by rw [← h3]⟩
/-- the locals as they lie -/
def so_L (B b : Nat) (ls : Array Slot) (n : Nat) (l : List Value) : Prop := l.length = n ∧ lv_has ls n (so_al B b l)
theorem so_L.get {B b n i : Nat} {ls : Array Slot} {l : List Value} {v : Value} (h : so_L B b ls n l) (hv : am_nth l i = v) (hn : v ≠ .retAddr 0) : ls[i]? = some (.val (so_cv B b v)) := by
  have hi : i < l.length := by
    rcases Nat.lt_or_ge i l.length with q | q
    · exact q
    · rw [am_nth_out l i q] at hv
      exact absurd hv.symm hn
  exact h.2.2.2 (i, so_cv B b v) (so_al_mem.mpr ⟨hi, by rw [hv]; exact hn, by rw [hv]⟩)
theorem lv_has.sub {ls : Array Slot} {n : Nat} {l l' : List (Nat × Value)} (h : lv_has ls n l) (hs : ∀ q ∈ l', q ∈ l) : lv_has ls n l' := ⟨h.1, h.2.1, fun q hq => h.2.2 q (hs q hq)⟩
theorem so_kill {B b : Nat} {v : Value} (h : am_kill v ≠ .retAddr 0) : am_kill v = v ∧ ((so_cv B b v).category == 2) = false ∨ (∃ x, v = .double x) := by
  cases v with
  | long x => exact absurd rfl h
  | double x => exact Or.inr ⟨x, rfl⟩
  | ref k => cases k <;> exact Or.inl ⟨rfl, rfl⟩
  | _ => exact Or.inl ⟨rfl, rfl⟩
/-- no double stands among the locals -/
def so_nd (l : List Value) : Prop := ∀ i x, am_nth l i ≠ .double x
theorem so_L.st1 {B b n i : Nat} {ls' : Array Slot} {l : List Value} {v : Value} (hl : l.length = n) (hnd : so_nd l) (hi : i < n) (h' : lv_has ls' n ((i, so_cv B b v) :: (so_al B b l).filter (fun q => !(q.1 == i) && !(q.1 + 1 == i && q.2.category == 2)))) : so_L B b ls' n (am_st1 l i v) := by
  refine ⟨by unfold am_st1; rw [am_len_set, am_len_kl, hl], h'.sub (fun q hq => ?_)⟩
  obtain ⟨h1, h2, h3⟩ := so_al_mem.mp hq
  unfold am_st1 at h1 h2 h3
  rw [am_len_set, am_len_kl] at h1
  rw [am_nth_set _ _ _ _ (by rw [am_len_kl]; omega)] at h2 h3
  by_cases hqi : q.1 = i
  · rw [if_pos hqi] at h3
    rw [← hqi, ← h3]
    exact List.mem_cons_self
  · rw [if_neg hqi, am_nth_kl (by omega)] at h2 h3
    refine List.mem_cons_of_mem _ (List.mem_filter.mpr ?_)
    by_cases hk : q.1 + 1 = i
    · rw [if_pos hk] at h2 h3
      rcases so_kill (B := B) (b := b) h2 with ⟨e1, e2⟩ | ⟨x, hx⟩
      · rw [e1] at h2 h3
        exact ⟨so_al_mem.mpr ⟨h1, h2, h3⟩, by rw [h3]; simp [hqi, e2]⟩
      · exact absurd hx (hnd _ _)
    · rw [if_neg hk] at h2 h3
      exact ⟨so_al_mem.mpr ⟨h1, h2, h3⟩, by simp [hqi, hk]⟩
theorem so_L.st2 {B b n i : Nat} {ls' : Array Slot} {l : List Value} {x : Int64} (hl : l.length = n) (hnd : so_nd l) (hi : i + 1 < n) (h' : lv_has ls' n ((i, .long x) :: (so_al B b l).filter (fun q => !(q.1 == i) && (!(q.1 == i + 1) && !(q.1 + 1 == i && q.2.category == 2))))) : so_L B b ls' n (am_st2 l i (.long x)) := by
  refine ⟨by unfold am_st2; rw [am_len_set, am_len_set, am_len_kl, hl], h'.sub (fun q hq => ?_)⟩
  obtain ⟨h1, h2, h3⟩ := so_al_mem.mp hq
  unfold am_st2 at h1 h2 h3
  rw [am_len_set, am_len_set, am_len_kl] at h1
  rw [am_nth_set _ _ _ _ (by rw [am_len_set, am_len_kl]; omega)] at h2 h3
  by_cases hq1 : q.1 = i + 1
  · rw [if_pos hq1] at h2
    exact absurd rfl h2
  rw [if_neg hq1, am_nth_set _ _ _ _ (by rw [am_len_kl]; omega)] at h2 h3
  by_cases hqi : q.1 = i
  · rw [if_pos hqi] at h3
    have : q = (i, .long x) := Prod.ext hqi h3
    rw [this]
    exact List.mem_cons_self
  · rw [if_neg hqi, am_nth_kl (by omega)] at h2 h3
    refine List.mem_cons_of_mem _ (List.mem_filter.mpr ?_)
    by_cases hk : q.1 + 1 = i
    · rw [if_pos hk] at h2 h3
      rcases so_kill (B := B) (b := b) h2 with ⟨e1, e2⟩ | ⟨x, hx⟩
      · rw [e1] at h2 h3
        exact ⟨so_al_mem.mpr ⟨h1, h2, h3⟩, by rw [h3]; simp [hqi, hq1, e2]⟩
      · exact absurd hx (hnd _ _)
    · rw [if_neg hk] at h2 h3
      exact ⟨so_al_mem.mpr ⟨h1, h2, h3⟩, by simp [hqi, hk, hq1]⟩
theorem so_nd.set {l : List Value} (h : so_nd l) (i : Nat) {v : Value} (hv : ∀ x, v ≠ .double x) : so_nd (am_set l i v) := by
  intro j x
  by_cases hi : i < l.length
  · rw [am_nth_set l i j v hi]
    split
    · exact hv x
    · exact h j x
  · have : am_set l i v = l := by
      clear h
      induction l generalizing i with
      | nil => rfl
      | cons w l ih =>
        cases i with
        | zero => simp at hi
        | succ i => simp only [am_set]; rw [ih i (by simpa using hi)]
    rw [this]
    exact h j x
theorem so_nd.kl {l : List Value} (h : so_nd l) (i : Nat) : so_nd (am_kl l i) := by
  cases i with
  | zero => exact h
  | succ n =>
    refine h.set n (fun x hx => ?_)
    have := h n x
    cases hv : am_nth l n with
    | double y => exact h n y hv
    | _ => rw [hv] at hx; cases hx
theorem so_nd.st1 {l : List Value} (h : so_nd l) (i : Nat) {v : Value} (hv : ∀ x, v ≠ .double x) : so_nd (am_st1 l i v) := (h.kl i).set i hv
theorem so_nd.st2 {l : List Value} (h : so_nd l) (i : Nat) {v : Value} (hv : ∀ x, v ≠ .double x) : so_nd (am_st2 l i v) := ((h.kl i).set i hv).set (i + 1) (fun x hx => by cases hx)
