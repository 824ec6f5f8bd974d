/-! ENTRIES ON PAGES -/
/-- key, kind, value -/
abbrev ent : Type := Int64 × Int32 × Int64
/-- an entry's size where s octets of its key are shared -/
def es (s : Nat) (e : ent) : Nat := 10 - s + if e.2.1 = 2 then 0 else vs (zf e.2.2)
/-- an entry at place a -/
def ea (B : Nat → Int32) (a s : Nat) (e : ent) : Prop := B a = nI s ∧ (∀ j, s ≤ j → j < 8 → B (a + 1 + (j - s)) = sm_O (kt e.1) j) ∧ B (a + 9 - s) = e.2.1 ∧ (e.2.1 ≠ 2 → ∀ i, i < vs (zf e.2.2) → B (a + 10 - s + i) = am_b8 (nI (vb (zN (zf e.2.2)) (vs (zf e.2.2)) i)))
/-- shared with the key before, if there is one -/
def sh1 (p : Option Int64) (k : Int64) : Nat := match p with
  | none => 0
  | some q => kc q k
theorem sh1_le (p : Option Int64) (k : Int64) : sh1 p k ≤ 8 := by
  cases p with
  | none => exact Nat.zero_le _
  | some q => exact (kc_r_le q k 8 (Nat.le_refl _)).2
theorem es_le (s : Nat) (e : ent) : es s e ≤ 20 := by
  unfold es
  have := vs_le (zf e.2.2)
  split <;> omega
theorem es_ge {s : Nat} (hs : s ≤ 8) (e : ent) : 2 ≤ es s e := by
  unfold es
  split <;> omega
/-- entries from place a to place b -/
def el (B : Nat → Int32) : Nat → Option Int64 → List ent → Nat → Prop
  | a, _, [], b => a = b
  | a, p, e :: L, b => ea B a (sh1 p e.1) e ∧ el B (a + es (sh1 p e.1) e) (some e.1) L b
theorem ea_ext {B B' : Nat → Int32} {a s : Nat} {e : ent} (hs : s ≤ 8) (h : ∀ j, a ≤ j → j < a + es s e → B' j = B j) (q : ea B a s e) : ea B' a s e := by
  unfold es at h
  obtain ⟨q1, q2, q3, q4⟩ := q
  refine ⟨?_, fun j h1 h2 => ?_, ?_, fun hk i hi => ?_⟩
  · rw [h a (by omega) (by omega)]; exact q1
  · rw [h _ (by omega) (by omega)]; exact q2 j h1 h2
  · rw [h _ (by omega) (by omega)]; exact q3
  · rw [if_neg hk] at h
    rw [h _ (by omega) (by omega)]; exact q4 hk i hi
theorem el_le {B : Nat → Int32} : ∀ {L : List ent} {a b : Nat} {p : Option Int64}, el B a p L b → a + 2 * L.length ≤ b
  | [], a, b, p, h => by unfold el at h; simp; omega
  | e :: L, a, b, p, h => by
    have := el_le h.2
    have := es_ge (sh1_le p e.1) e
    simp only [List.length_cons]
    omega
theorem el_ext {B B' : Nat → Int32} : ∀ {L : List ent} {a b : Nat} {p : Option Int64}, (∀ j, a ≤ j → j < b → B' j = B j) → el B a p L b → el B' a p L b
  | [], a, b, p, _, h => h
  | e :: L, a, b, p, hx, h => by
    have l := el_le h.2
    refine ⟨ea_ext (sh1_le _ _) (fun j h1 h2 => hx j h1 (by omega)) h.1, el_ext (fun j h1 h2 => hx j (by omega) h2) h.2⟩
/-- the last key -/
def lk (p : Option Int64) : List ent → Option Int64
  | [] => p
  | e :: L => lk (some e.1) L
theorem el_snoc {B : Nat → Int32} : ∀ {L : List ent} {a b : Nat} {p : Option Int64} {e : ent}, el B a p L b → ea B b (sh1 (lk p L) e.1) e → el B a p (L ++ [e]) (b + es (sh1 (lk p L) e.1) e)
  | [], a, b, p, e, h, q => by
    unfold el at h
    subst h
    exact ⟨q, rfl⟩
  | x :: L, a, b, p, e, h, q => ⟨h.1, el_snoc h.2 q⟩
theorem lk_snoc : ∀ (L : List ent) (p : Option Int64) (e : ent), lk p (L ++ [e]) = some e.1
  | [], _, _ => rfl
  | x :: L, p, e => lk_snoc L (some x.1) e
/-- kinds as they must be -/
def eo (e : ent) : Prop := (e.2.1 = 1 ∨ e.2.1 = 2 ∨ e.2.1 = 3) ∧ (e.2.1 = 2 → e.2.2 = 0)
theorem ea_b8 {B : Nat → Int32} {a s : Nat} {e : ent} (hs : s ≤ 8) (he : eo e) (q : ea B a s e) : ea (fun j => am_b8 (B j)) a s e := by
  obtain ⟨q1, q2, q3, q4⟩ := q
  have bb : ∀ x : Int32, am_b8 (am_b8 x) = am_b8 x := fun x => by unfold am_b8; simp
  refine ⟨?_, fun j h1 h2 => ?_, ?_, fun hk i hi => ?_⟩
  · show am_b8 (B a) = nI s
    rw [q1]
    have : ∀ s : Fin 9, am_b8 (nI s.1) = nI s.1 := by decide
    exact this ⟨s, by omega⟩
  · show am_b8 (B _) = _
    rw [q2 j h1 h2]
    exact bb _
  · show am_b8 (B _) = _
    rw [q3]
    rcases he.1 with e | e | e <;> rw [e] <;> decide
  · show am_b8 (B _) = _
    rw [q4 hk i hi, bb]
theorem el_b8 {B : Nat → Int32} : ∀ {L : List ent} {a b : Nat} {p : Option Int64}, (∀ e ∈ L, eo e) → el B a p L b → el (fun j => am_b8 (B j)) a p L b
  | [], a, b, p, _, h => h
  | e :: L, a, b, p, ho, h => ⟨ea_b8 (sh1_le _ _) (ho e (by simp)) h.1, el_b8 (fun x hx => ho x (by simp [hx])) h.2⟩
/-- how many pages are begun, u octets used on this one, p the last key -/
def np : Nat → Option Int64 → List ent → Nat
  | _, _, [] => 0
  | u, p, e :: L => if u + es (sh1 p e.1) e ≤ 120 then np (u + es (sh1 p e.1) e) (some e.1) L else np (5 + es 0 e) (some e.1) L + 1
def npg (L : List ent) : Nat := np 121 none L
theorem np_121 (p : Option Int64) (e : ent) (L : List ent) : np 121 p (e :: L) = np (5 + es 0 e) (some e.1) L + 1 := by
  rw [np, if_neg (by omega)]
/-! MERGING -/
/-- keys rise -/
def so : List ent → Prop
  | [] => True
  | e :: L => (∀ x ∈ L, e.1 < x.1) ∧ so L
/-- a newer entry on an older one -/
def cb (a b : ent) : ent := (a.1, fl_K a.2.1 b.2.1, fl_V a.2.1 a.2.2 b.2.1 b.2.2)
def mg : List ent → List ent → List ent
  | [], M => M
  | a :: L, [] => a :: L
  | a :: L, b :: M => if a.1 < b.1 then a :: mg L (b :: M) else if a.1 = b.1 then cb a b :: mg L M else b :: mg (a :: L) M
termination_by L M => L.length + M.length
theorem l_tri {a b : Int64} (h1 : ¬ a < b) (h2 : a ≠ b) : b < a := by
  rw [Int64.lt_iff_toInt_lt] at *
  have : a.toInt ≠ b.toInt := fun e => h2 (Int64.toInt_inj.mp e)
  omega
theorem l_irr (a : Int64) : ¬ a < a := by rw [Int64.lt_iff_toInt_lt]; omega
theorem mg_nil (L : List ent) : mg L [] = L := by
  cases L <;> simp [mg]
theorem mg_low {m : Int64} : ∀ (n : Nat) (L M : List ent), L.length + M.length ≤ n → (∀ x ∈ L, m < x.1) → (∀ x ∈ M, m < x.1) → ∀ x ∈ mg L M, m < x.1
  | 0, L, M, hn, hL, hM => by
    have e1 : L = [] := List.length_eq_zero_iff.mp (by omega)
    subst e1
    simpa [mg] using hM
  | n + 1, [], M, hn, hL, hM => by simpa [mg] using hM
  | n + 1, a :: L, [], hn, hL, hM => by simpa [mg] using hL
  | n + 1, a :: L, b :: M, hn, hL, hM => by
    simp only [List.length_cons] at hn
    rw [mg]
    have ha := hL a (by simp)
    have hb := hM b (by simp)
    split
    · intro x hx
      rcases List.mem_cons.mp hx with e | e
      · subst e; exact ha
      · exact mg_low n L (b :: M) (by simp only [List.length_cons]; omega) (fun y hy => hL y (by simp [hy])) hM x e
    · split
      · intro x hx
        rcases List.mem_cons.mp hx with e | e
        · subst e; exact ha
        · exact mg_low n L M (by omega) (fun y hy => hL y (by simp [hy])) (fun y hy => hM y (by simp [hy])) x e
      · intro x hx
        rcases List.mem_cons.mp hx with e | e
        · subst e; exact hb
        · exact mg_low n (a :: L) M (by simp only [List.length_cons]; omega) hL (fun y hy => hM y (by simp [hy])) x e
theorem mg_so : ∀ (n : Nat) (L M : List ent), L.length + M.length ≤ n → so L → so M → so (mg L M)
  | 0, L, M, hn, hL, hM => by
    have e1 : L = [] := List.length_eq_zero_iff.mp (by omega)
    subst e1
    simpa [mg] using hM
  | n + 1, [], M, hn, hL, hM => by simpa [mg] using hM
  | n + 1, a :: L, [], hn, hL, hM => by simpa [mg] using hL
  | n + 1, a :: L, b :: M, hn, hL, hM => by
    simp only [List.length_cons] at hn
    rw [mg]
    split
    · rename_i h
      refine ⟨mg_low _ L (b :: M) (Nat.le_refl _) hL.1 (fun x hx => ?_), mg_so n L (b :: M) (by simp only [List.length_cons]; omega) hL.2 hM⟩
      rcases List.mem_cons.mp hx with e | e
      · subst e; exact h
      · exact l_tr h (hM.1 x e)
    · split
      · rename_i h1 h2
        refine ⟨mg_low _ L M (Nat.le_refl _) hL.1 (fun x hx => ?_), mg_so n L M (by omega) hL.2 hM.2⟩
        show a.1 < x.1
        rw [h2]; exact hM.1 x hx
      · rename_i h1 h2
        have h3 := l_tri h1 h2
        refine ⟨mg_low _ (a :: L) M (Nat.le_refl _) (fun x hx => ?_) hM.1, mg_so n (a :: L) M (by simp only [List.length_cons]; omega) hL hM.2⟩
        rcases List.mem_cons.mp hx with e | e
        · subst e; exact h3
        · exact l_tr h3 (hL.1 x e)
theorem cb_eo {a b : ent} (ha : eo a) (hb : eo b) : eo (cb a b) := by
  obtain ⟨a1, a2⟩ := ha
  obtain ⟨b1, b2⟩ := hb
  unfold cb eo fl_K fl_V
  dsimp only
  rcases a1 with e | e | e
  · rw [e]; simp
  · rw [e, a2 e]; simp
  · rw [e]
    simp only [show ¬ (3 : Int32) = 0 by decide, if_false, if_true]
    split <;> simp
theorem mg_eo : ∀ (n : Nat) (L M : List ent), L.length + M.length ≤ n → (∀ x ∈ L, eo x) → (∀ x ∈ M, eo x) → ∀ x ∈ mg L M, eo x
  | 0, L, M, hn, hL, hM => by
    have e1 : L = [] := List.length_eq_zero_iff.mp (by omega)
    subst e1
    simpa [mg] using hM
  | n + 1, [], M, hn, hL, hM => by simpa [mg] using hM
  | n + 1, a :: L, [], hn, hL, hM => by simpa [mg] using hL
  | n + 1, a :: L, b :: M, hn, hL, hM => by
    simp only [List.length_cons] at hn
    rw [mg]
    have ha := hL a (by simp)
    have hb := hM b (by simp)
    split
    · intro x hx
      rcases List.mem_cons.mp hx with e | e
      · subst e; exact ha
      · exact mg_eo n L (b :: M) (by simp only [List.length_cons]; omega) (fun y hy => hL y (by simp [hy])) hM x e
    · split
      · intro x hx
        rcases List.mem_cons.mp hx with e | e
        · subst e; exact cb_eo ha hb
        · exact mg_eo n L M (by omega) (fun y hy => hL y (by simp [hy])) (fun y hy => hM y (by simp [hy])) x e
      · intro x hx
        rcases List.mem_cons.mp hx with e | e
        · subst e; exact hb
        · exact mg_eo n (a :: L) M (by simp only [List.length_cons]; omega) hL (fun y hy => hM y (by simp [hy])) x e
theorem mg_len : ∀ (n : Nat) (L M : List ent), L.length + M.length ≤ n → (mg L M).length ≤ L.length + M.length
  | 0, L, M, hn => by
    have e1 : L = [] := List.length_eq_zero_iff.mp (by omega)
    subst e1
    simp [mg]
  | n + 1, [], M, hn => by simp [mg]
  | n + 1, a :: L, [], hn => by simp [mg]
  | n + 1, a :: L, b :: M, hn => by
    simp only [List.length_cons] at hn
    rw [mg]
    split
    · have := mg_len n L (b :: M) (by simp only [List.length_cons]; omega)
      simp only [List.length_cons] at *; omega
    · split
      · have := mg_len n L M (by omega)
        simp only [List.length_cons] at *; omega
      · have := mg_len n (a :: L) M (by simp only [List.length_cons]; omega)
        simp only [List.length_cons] at *; omega
/-- several, the newest first -/
def bm (Ls : List (List ent)) : List ent := Ls.foldl mg []
/-- the head has key m -/
def hm (m : Int64) : List ent → Bool
  | [] => false
  | e :: _ => decide (e.1 = m)
/-- without that head -/
def dm (m : Int64) : List ent → List ent
  | [] => []
  | e :: L => if e.1 = m then L else e :: L
/-- a fate with that head laid below -/
def lm (m : Int64) (s : Int32 × Int64) : List ent → Int32 × Int64
  | [] => s
  | e :: _ => if e.1 = m then (fl_K s.1 e.2.1, fl_V s.1 s.2 e.2.1 e.2.2) else s
/-- no head below m -/
def nm (m : Int64) : List ent → Prop
  | [] => True
  | e :: _ => ¬ e.1 < m
theorem fl_K0 (k : Int32) : fl_K 0 k = k := by simp [fl_K]
theorem fl_V0 (k : Int32) (v w : Int64) : fl_V 0 w k v = v := by simp [fl_V]
theorem dm_nil_so {m : Int64} {L : List ent} (h : so L) (hn : nm m L) : ∀ x ∈ dm m L, m < x.1 := by
  cases L with
  | nil => intro x hx; simp [dm] at hx
  | cons e L =>
    intro x hx
    simp only [dm] at hx
    simp only [nm] at hn
    by_cases q : e.1 = m
    · rw [if_pos q] at hx
      rw [← q]; exact h.1 x hx
    · rw [if_neg q] at hx
      have : m < e.1 := l_tri hn q
      rcases List.mem_cons.mp hx with e1 | e1
      · subst e1; exact this
      · exact l_tr this (h.1 x e1)
theorem mg_dm {m : Int64} {A L : List ent} (hA : so A) (hL : so L) (nA : nm m A) (nL : nm m L) (oA : ∀ x ∈ A, eo x) :
    dm m (mg A L) = mg (dm m A) (dm m L) ∧ hm m (mg A L) = (hm m A || hm m L) ∧ nm m (mg A L) ∧ lm m (0, 0) (mg A L) = lm m (lm m (0, 0) A) L := by
  cases A with
  | nil => simp [mg, dm, hm, lm, nL]
  | cons a A =>
    cases L with
    | nil => simp [mg_nil, dm, hm, lm, nA]
    | cons b L =>
      simp only [nm] at nA nL
      rw [mg]
      by_cases h1 : a.1 < b.1
      · rw [if_pos h1]
        by_cases ea : a.1 = m
        · have eb : ¬ b.1 = m := fun e => l_irr m (by rw [ea, e] at h1; exact h1)
          simp only [dm, hm, lm, ea, eb, if_true, if_false, decide_true, decide_false, Bool.true_or, true_and, nm, l_irr, not_false_eq_true, and_true]
        · have eb : ¬ b.1 = m := fun e => by rw [e] at h1; exact nA h1
          simp only [dm, hm, lm, ea, eb, if_true, if_false, decide_false, Bool.or_self, true_and, nm, nA, not_false_eq_true, and_true]
          rw [mg, if_pos h1]
      · rw [if_neg h1]
        by_cases h2 : a.1 = b.1
        · rw [if_pos h2]
          by_cases ea : a.1 = m
          · have eb : b.1 = m := by rw [← h2]; exact ea
            have hc : (cb a b).1 = m := ea
            simp only [dm, hm, lm, ea, eb, hc, if_true, decide_true, Bool.true_or, true_and, nm, l_irr, not_false_eq_true]
            simp only [fl_K0, fl_V0, cb]
          · have eb : ¬ b.1 = m := by rw [← h2]; exact ea
            have hc : ¬ (cb a b).1 = m := ea
            simp only [dm, hm, lm, ea, eb, hc, if_false, decide_false, Bool.or_self, true_and, nm, not_false_eq_true, and_true]
            rw [mg, if_neg h1, if_pos h2]
            exact ⟨rfl, nA⟩
        · rw [if_neg h2]
          have h3 := l_tri h1 h2
          have ea : ¬ a.1 = m := fun e => by rw [e] at h3; exact nL h3
          by_cases eb : b.1 = m
          · simp only [dm, hm, lm, ea, eb, if_true, if_false, decide_true, decide_false, Bool.false_or, true_and, nm, l_irr, not_false_eq_true]
          · simp only [dm, hm, lm, ea, eb, if_false, decide_false, Bool.or_self, true_and, nm, nL, not_false_eq_true, and_true]
            rw [mg, if_neg h1, if_neg h2]
theorem bm_go {m : Int64} : ∀ (Ls : List (List ent)) (A : List ent), so A → nm m A → (∀ x ∈ A, eo x) → (∀ L ∈ Ls, so L ∧ nm m L ∧ ∀ x ∈ L, eo x) →
    dm m (Ls.foldl mg A) = (Ls.map (dm m)).foldl mg (dm m A) ∧ hm m (Ls.foldl mg A) = (hm m A || Ls.any (hm m)) ∧ nm m (Ls.foldl mg A) ∧ lm m (0, 0) (Ls.foldl mg A) = Ls.foldl (lm m) (lm m (0, 0) A)
  | [], A, hA, nA, oA, _ => by simp [nA]
  | L :: Ls, A, hA, nA, oA, hL => by
    obtain ⟨l1, l2, l3⟩ := hL L (by simp)
    obtain ⟨q1, q2, q3, q4⟩ := mg_dm hA l1 nA l2 oA
    have := bm_go Ls (mg A L) (mg_so _ A L (Nat.le_refl _) hA l1) q3 (mg_eo _ A L (Nat.le_refl _) oA l3) (fun M hM => hL M (by simp [hM]))
    rw [q1, q2, q4] at this
    simpa [Bool.or_assoc] using this
/-- ONE STEP of the blend: the least key m -/
theorem bm_step {m : Int64} {Ls : List (List ent)} (hL : ∀ L ∈ Ls, so L ∧ nm m L ∧ ∀ x ∈ L, eo x) (ha : Ls.any (hm m) = true) :
    bm Ls = (m, (Ls.foldl (lm m) (0, 0)).1, (Ls.foldl (lm m) (0, 0)).2) :: bm (Ls.map (dm m)) := by
  obtain ⟨q1, q2, q3, q4⟩ := bm_go (m := m) Ls [] trivial trivial (by simp) hL
  rw [ha] at q2
  unfold bm
  have q4' : lm m (0, 0) (Ls.foldl mg []) = Ls.foldl (lm m) (0, 0) := q4
  cases hB : Ls.foldl mg [] with
  | nil => rw [hB] at q2; simp [hm] at q2
  | cons e B =>
    rw [hB] at q1 q2 q4'
    have em : e.1 = m := by simpa [hm] using q2
    have q1' : B = (Ls.map (dm m)).foldl mg [] := by
      have := q1
      simp only [dm, em, if_true] at this
      exact this
    rw [← q4', ← q1']
    simp only [lm, em, if_true, fl_K0, fl_V0]
    rw [← em]
theorem bm_nil : ∀ {Ls : List (List ent)}, (∀ L ∈ Ls, L = []) → bm Ls = []
  | [], _ => rfl
  | L :: Ls, h => by
    have e := h L (by simp)
    subst e
    show Ls.foldl mg (mg [] []) = []
    rw [mg_nil]
    exact bm_nil (fun M hM => h M (by simp [hM]))
/-- with nothing older: no ends, all puts -/
def rp (L : List ent) : List ent := (L.filter (fun e => decide (e.2.1 ≠ 2))).map (fun e => (e.1, 1, e.2.2))
