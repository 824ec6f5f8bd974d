/-! THE TABLE AS BOTH HOLD IT -/
theorem tf_mem {K : Nat → Int64} {N : Nat → Int32} {V : Nat → Int64} : ∀ (r i : Nat) (e : ent), e ∈ tf K N V i r → ∃ j, i ≤ j ∧ j < i + r ∧ e = (K j, N j, V j)
  | 0, i, e, h => by simp [tf] at h
  | r + 1, i, e, h => by
    simp only [tf, List.mem_cons] at h
    rcases h with h | h
    · exact ⟨i, Nat.le_refl _, by omega, h⟩
    · obtain ⟨j, j1, j2, j3⟩ := tf_mem r (i + 1) e h
      exact ⟨j, by omega, by omega, j3⟩
theorem tf_so {K : Nat → Int64} {N : Nat → Int32} {V : Nat → Int64} {n : Nat} (h : tb_O K n) : ∀ (r i : Nat), i + r ≤ n → so (tf K N V i r)
  | 0, i, _ => trivial
  | r + 1, i, hi => by
    refine ⟨fun x hx => ?_, tf_so h r (i + 1) (by omega)⟩
    obtain ⟨j, j1, j2, j3⟩ := tf_mem r (i + 1) x hx
    rw [j3]
    exact h i j (by omega) (by omega)
/-- the table's state -/
def ta_S (n : Nat) (K : Nat → Int64) (N : Nat → Int32) (V : Nat → Int64) : Prop := n ≤ 64 ∧ tb_O K n ∧ ∀ i, i < n → eo (K i, N i, V i)
/-- behind an entry -/
def ta_n (n : Nat) (K : Nat → Int64) (p : Nat) (key : Int64) : Nat := match tb_H K n p key with
  | true => n
  | false => n + 1
def ta_K (n : Nat) (K : Nat → Int64) (p : Nat) (key : Int64) : Nat → Int64 := match tb_H K n p key with
  | true => up_f K p key
  | false => up_f (sh_f K p n) p key
def ta_N (n : Nat) (K : Nat → Int64) (N : Nat → Int32) (p : Nat) (key : Int64) (kd : Int32) : Nat → Int32 := match tb_H K n p key with
  | true => up_f N p (fl_K kd (N p))
  | false => up_f (sh_f N p n) p kd
def ta_V (n : Nat) (K : Nat → Int64) (N : Nat → Int32) (V : Nat → Int64) (p : Nat) (key : Int64) (kd : Int32) (vl : Int64) : Nat → Int64 := match tb_H K n p key with
  | true => up_f V p (fl_V kd (en_V kd vl) (N p) (V p))
  | false => up_f (sh_f V p n) p (en_V kd vl)
theorem en_eo {key : Int64} {kd : Int32} {vl : Int64} (hk : kd = 1 ∨ kd = 2 ∨ kd = 3) : eo (key, kd, en_V kd vl) := ⟨hk, fun h => by unfold en_V; rw [if_pos h]⟩
theorem tb_H_t {K : Nat → Int64} {n p : Nat} {key : Int64} (h : tb_H K n p key = true) : p < n ∧ K p = key := by
  unfold tb_H at h
  simpa using h
theorem tb_H_f {K : Nat → Int64} {n p : Nat} {key : Int64} (h : tb_H K n p key = false) : p < n → K p ≠ key := fun h1 h2 => by
  unfold tb_H at h
  simp [h1, h2] at h
theorem ta_step {n p : Nat} {K : Nat → Int64} {N : Nat → Int32} {V : Nat → Int64} {key : Int64} {kd : Int32} {vl : Int64} (S : ta_S n K N V) (hk : kd = 1 ∨ kd = 2 ∨ kd = 3) (hp : tb_P K n key p) (hpl : n < 64 ∨ tb_H K n p key = true) : ta_S (ta_n n K p key) (ta_K n K p key) (ta_N n K N p key kd) (ta_V n K N V p key kd vl) ∧ ta_n n K p key ≤ n + 1 := by
  obtain ⟨s1, s2, s3⟩ := S
  obtain ⟨p1, p2, p3⟩ := hp
  unfold ta_S ta_n ta_K ta_N ta_V
  cases hH : tb_H K n p key with
  | true =>
    obtain ⟨h1, h2⟩ := tb_H_t hH
    dsimp only
    have eK : up_f K p key = K := up_id h2
    rw [eK]
    refine ⟨⟨s1, s2, fun i hi => ?_⟩, by omega⟩
    by_cases e : i = p
    · subst e
      unfold up_f
      rw [if_pos rfl, if_pos rfl]
      have c := cb_eo (en_eo (key := K i) (vl := vl) hk) (s3 i hi)
      exact c
    · unfold up_f
      rw [if_neg e, if_neg e]
      exact s3 i hi
  | false =>
    dsimp only
    have hn : n < 64 := hpl.resolve_right (by rw [hH]; decide)
    have hne := tb_H_f hH
    -- what lies behind p is above the key
    have above : ∀ j, p ≤ j → j < n → key < K j := fun j h1 h2 => by
      have hkp : key < K p := l_tri (p3 p (Nat.le_refl _) (by omega)) (hne (by omega))
      by_cases e : j = p
      · rw [e]; exact hkp
      · exact l_tr hkp (s2 p j (by omega) h2)
    have val : ∀ j, up_f (sh_f K p n) p key j = if j = p then key else if p < j ∧ j ≤ n then K (j - 1) else K j := fun j => rfl
    refine ⟨⟨by omega, fun i j hij hj => ?_, fun i hi => ?_⟩, by omega⟩
    · rw [val, val]
      by_cases ei : i = p
      · rw [if_pos ei, if_neg (by omega), if_pos (by omega)]
        exact above (j - 1) (by omega) (by omega)
      · rw [if_neg ei]
        by_cases ej : j = p
        · rw [if_pos ej, if_neg (by omega)]
          exact p2 i (by omega)
        · rw [if_neg ej]
          by_cases e1 : p < i ∧ i ≤ n
          · rw [if_pos e1, if_pos (by omega)]
            exact s2 (i - 1) (j - 1) (by omega) (by omega)
          · rw [if_neg e1]
            by_cases e2 : p < j ∧ j ≤ n
            · rw [if_pos e2]
              by_cases e3 : i = j - 1
              · omega
              · exact s2 i (j - 1) (by omega) (by omega)
            · rw [if_neg e2]
              exact s2 i j hij (by omega)
    · unfold up_f sh_f
      by_cases ei : i = p
      · rw [if_pos ei, if_pos ei, if_pos ei]
        exact en_eo hk
      · rw [if_neg ei, if_neg ei, if_neg ei]
        by_cases e1 : p < i ∧ i ≤ n
        · rw [if_pos e1, if_pos e1, if_pos e1]
          exact s3 (i - 1) (by omega)
        · rw [if_neg e1, if_neg e1, if_neg e1]
          exact s3 i (by omega)
theorem tb_P_ex (K : Nat → Int64) (key : Int64) : ∀ n, tb_O K n → ∃ p, tb_P K n key p
  | 0, _ => ⟨0, Nat.le_refl _, fun i hi => by omega, fun i h1 h2 => by omega⟩
  | n + 1, hO => by
    obtain ⟨p, a1, a2, a3⟩ := tb_P_ex K key n (fun i j h1 h2 => hO i j h1 (by omega))
    by_cases e : p = n ∧ K n < key
    · refine ⟨n + 1, Nat.le_refl _, fun i hi => ?_, fun i h1 h2 => by omega⟩
      by_cases ei : i = n
      · rw [ei]; exact e.2
      · exact a2 i (by omega)
    · refine ⟨p, by omega, a2, fun i h1 h2 => ?_⟩
      by_cases ei : i = n
      · rw [ei]
        by_cases ep : p = n
        · exact fun q => e ⟨ep, q⟩
        · exact l_ntr (a3 p (Nat.le_refl _) (by omega)) (hO p n (by omega) (by omega))
      · exact a3 i h1 (by omega)
/-! LEVELS -/
/-- noughts first, then rising -/
def lv_ok : Nat → List Nat → Prop
  | _, [] => True
  | m, l :: ls => ((l = 0 ∧ m = 0) ∨ m < l) ∧ l ≤ 3 ∧ lv_ok l ls
theorem lv_len : ∀ (ls : List Nat) (m : Nat), 1 ≤ m → m ≤ 3 → lv_ok m ls → ls.length ≤ 3 - m
  | [], m, _, _, _ => Nat.zero_le _
  | l :: ls, m, h1, h3, h => by
    obtain ⟨a, b, c⟩ := h
    have hl : m < l := by rcases a with a | a <;> omega
    have := lv_len ls l (by omega) b c
    simp only [List.length_cons]
    omega
theorem lv_len0 : ∀ (ls : List Nat), lv_ok 0 ls → ls.length ≤ up 0 ls + 3
  | [], _ => Nat.zero_le _
  | l :: ls, h => by
    obtain ⟨a, b, c⟩ := h
    unfold up
    by_cases e : l ≤ 0
    · have el : l = 0 := by omega
      subst el
      rw [if_pos e]
      have := lv_len0 ls c
      simp only [List.length_cons]
      omega
    · rw [if_neg e]
      have := lv_len ls l (by omega) b c
      simp only [List.length_cons]
      omega
theorem lv_drop {L : Nat} (hL : 1 ≤ L) : ∀ (ls : List Nat) (m : Nat), m ≤ L → lv_ok m ls → lv_ok L (ls.drop (up L ls))
  | [], m, _, _ => by simp [lv_ok]
  | l :: ls, m, hm, h => by
    obtain ⟨a, b, c⟩ := h
    unfold up
    by_cases e : l ≤ L
    · rw [if_pos e]
      exact lv_drop hL ls l e c
    · rw [if_neg e]
      exact ⟨Or.inr (by omega), b, c⟩
theorem lv_low {L : Nat} {ls : List Nat} (h : lv_ok L ls) (hL : 1 ≤ L) : lv_ok 0 ls ∧ up 0 ls = 0 := by
  cases ls with
  | nil => exact ⟨trivial, rfl⟩
  | cons l ls =>
    obtain ⟨a, b, c⟩ := h
    have hl : L < l := by rcases a with a | a <;> omega
    refine ⟨⟨Or.inr (by omega), b, c⟩, ?_⟩
    unfold up
    rw [if_neg (by omega)]
theorem alv_drop (As : List ar) (k : Nat) : alv (As.drop k) = (alv As).drop k := by simp [alv, List.map_drop]
theorem alevel_le (As : List ar) : 1 ≤ alevel As ∧ alevel As ≤ 3 := by
  unfold alevel
  split
  · omega
  · split <;> omega
/-- a merge that was done leaves no noughts -/
theorem amerge_lv {P : Nat} {As : List ar} (h : lv_ok 0 (alv As)) : amerge P As = As ∨ (lv_ok 0 (alv (amerge P As)) ∧ up 0 (alv (amerge P As)) = 0) := by
  obtain ⟨l1, l3⟩ := alevel_le As
  have hd := lv_drop l1 (alv As) 0 (by omega) h
  unfold amerge amerge1
  generalize alevel As = lv at *
  by_cases c1 : npg (aou As (up lv (alv As))) + apg As ≤ P - 2
  · rw [if_pos c1]
    right
    by_cases c2 : npg (aou As (up lv (alv As))) = 0
    · rw [if_pos c2, alv_drop]
      exact lv_low hd l1
    · rw [if_neg c2]
      have e : alv ((lv, aou As (up lv (alv As))) :: As.drop (up lv (alv As))) = lv :: (alv As).drop (up lv (alv As)) := by
        rw [← alv_drop]
        rfl
      rw [e]
      refine ⟨⟨Or.inr (by omega), l3, hd⟩, ?_⟩
      unfold up
      rw [if_neg (by omega)]
  · rw [if_neg c1]
    exact Or.inl rfl
theorem aen_split (As : List ar) (k : Nat) : aen As = aen (As.take k) + aen (As.drop k) := by
  unfold aen
  rw [← List.sum_append, ← List.map_append, List.take_append_drop]
theorem aou_len (As : List ar) (k : Nat) : (aou As k).length ≤ aen (As.take k) := by
  have h1 := bm_len ((As.take k).map (·.2)) []
  have e : (((As.take k).map (·.2)).map List.length).sum = aen (As.take k) := by
    unfold aen
    rw [List.map_map]
    rfl
  have h2 : (bm ((As.take k).map (·.2))).length ≤ aen (As.take k) := by
    unfold bm
    simp only [List.length_nil] at h1
    omega
  unfold aou ou
  split
  · have := rp_len (bm ((As.take k).map (·.2)))
    omega
  · exact h2
theorem amerge_len (P : Nat) (As : List ar) : aen (amerge P As) ≤ aen As := by
  unfold amerge amerge1
  generalize up (alevel As) (alv As) = k
  have h1 := aen_split As k
  have h2 := aou_len As k
  split
  · split
    · omega
    · show (aou As k).length + aen (As.drop k) ≤ _
      omega
  · exact Nat.le_refl _
