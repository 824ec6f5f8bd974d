/-! THE ABSTRACT HEAP AND THE MACHINE'S. H0: the heap at the law's start; b: the script's cell; D: classes and slots; cA: the arrays' classes by their kind. -/
def so_TB : List Cond := lw_tbl.filter goodWord
theorem so_TB_in {w : Cond} (h : w ∈ lw_tbl) (hg : goodWord w = true) : w ∈ so_TB := List.mem_filter.mpr ⟨h, hg⟩
theorem so_TB_good : ∀ w ∈ so_TB, (w.onTables && w.keeps) = true ∨ ∃ ty, w = .arrayClass ty := fun w h => good_of_word (List.mem_filter.mp h).2
def so_ad (B b : Nat) : Nat → Nat
  | 0 => 0
  | 1 => b
  | n + 2 => B + n
def so_cv (B b : Nat) : Value → Value
  | .ref 0 => .null
  | .ref (k + 1) => .ref (so_ad B b (k + 1))
  | v => v
theorem so_cv_ref {B b k : Nat} (h : k ≠ 0) : so_cv B b (.ref k) = .ref (so_ad B b k) := by
  cases k with
  | zero => exact absurd rfl h
  | succ k => rfl
theorem so_ad_2 {B b k : Nat} (h : 2 ≤ k) : so_ad B b k = B + (k - 2) := by
  match k, h with
  | n + 2, _ => rfl
theorem so_ad_inj {B b k k' : Nat} (h : 2 ≤ k) (h' : 2 ≤ k') (he : so_ad B b k = so_ad B b k') : k = k' := by
  rw [so_ad_2 h, so_ad_2 h'] at he
  omega
def so_tg : FieldType → Nat
  | .long => 1
  | .object _ => 2
  | .array _ => 2
  | _ => 0
/-- an array's elements by its kind -/
def so_at (kd : Nat) : Nat := if kd = 101 then 1 else if 200 ≤ kd then 2 else 0
def so_ob (D : va_G) (B b : Nat) (h : am_H) (k : Nat) (H : Heap) : Prop := ∃ r : vw_C, nm_cl[am_kd h k - 1]? = some r ∧ t_OB (so_ad B b k) (D.1 (am_kd h k - 1)) r.2.2 (D.2 (am_kd h k - 1)) H (fun j => so_cv B b (am_fv h k j (so_tg (nm_ty (am_kd h k - 1) j))))
def so_ar (cA : Nat → ClassId) (B b : Nat) (h : am_H) (k : Nat) (H : Heap) : Prop := H[so_ad B b k]? = some (arrV (cA (am_kd h k)) (am_ln h k) (fun j => so_cv B b (am_fv h k j (so_at (am_kd h k)))))
def so_cell (D : va_G) (cA : Nat → ClassId) (B b : Nat) (h : am_H) (k : Nat) (H : Heap) : Prop := (am_kd h k ≠ 0 → am_kd h k < 99 → so_ob D B b h k H) ∧ (99 ≤ am_kd h k → so_ar cA B b h k H)
def so_Rp (D : va_G) (cA : Nat → ClassId) (H0 : Heap) (b L : Nat) (xs : Nat → Int32) (h : am_H) (H : Heap) : Prop :=
  2 ≤ am_nx h ∧ H.size + 2 = H0.size + am_nx h ∧ (∀ q : Nat, q < H0.size → H[q]? = H0[q]?) ∧ (∀ k, 2 ≤ k → k < am_nx h → so_cell D cA H0.size b h k H) ∧
  (∀ k, am_kd h k ≠ 0 → (k = 1 ∧ am_kd h k = 99) ∨ (2 ≤ k ∧ k < am_nx h ∧ am_kd h k ≠ 99)) ∧ am_ln h 1 = L ∧ (∀ j, am_I h 1 j = xs j)
def so_tys (cA : Nat → ClassId) : List (ClassId × FieldType) := [(cA 100, .int), (cA 101, .long), (cA 102, .byte), (cA 103, .boolean)] ++ (List.range nm_el.length).map (fun i => (cA (200 + i), .object (nm_el.getD i "")))
theorem so_cell.kept {D : va_G} {cA : Nat → ClassId} {B b k : Nat} {h h' : am_H} {H H' : Heap} (hc : so_cell D cA B b h k H) (hk : am_kd h' k = am_kd h k) (hl : am_ln h' k = am_ln h k) (hf : ∀ j ty, am_fv h' k j ty = am_fv h k j ty) (hH : H'[so_ad B b k]? = H[so_ad B b k]?) : so_cell D cA B b h' k H' := by
  refine ⟨fun h0 h1 => ?_, fun h0 => ?_⟩
  · obtain ⟨r, e1, e2⟩ := hc.1 (by rw [← hk]; exact h0) (by rw [← hk]; exact h1)
    refine ⟨r, by rw [hk]; exact e1, ?_⟩
    rw [hk]
    refine (e2.kept hH).to (fun j _ => ?_)
    rw [hf]
  · have e := hc.2 (by rw [← hk]; exact h0)
    unfold so_ar at e ⊢
    rw [hH, e, hk, hl]
    congr 2
    funext j
    rw [hf]
/-- one cell has changed -/
theorem so_Rp.put {D : va_G} {cA : Nat → ClassId} {H0 H H' : Heap} {b L a : Nat} {xs : Nat → Int32} {h h' : am_H} (hR : so_Rp D cA H0 b L xs h H) (ha : 2 ≤ a) (hn : a < am_nx h) (e1 : am_nx h' = am_nx h) (e2 : ∀ k, am_kd h' k = am_kd h k) (e3 : ∀ k, am_ln h' k = am_ln h k)
    (e4 : ∀ k, k ≠ a → ∀ j ty, am_fv h' k j ty = am_fv h k j ty) (z : H'.size = H.size) (oq : ∀ q : Nat, q ≠ so_ad H0.size b a → H'[q]? = H[q]?) (hc : so_cell D cA H0.size b h' a H') : so_Rp D cA H0 b L xs h' H' := by
  obtain ⟨r1, r2, r3, r4, r5, r6, r7⟩ := hR
  refine ⟨by rw [e1]; exact r1, by rw [e1, z]; exact r2, fun q hq => ?_, fun k h1 h2 => ?_, fun k hk => ?_, by rw [e3]; exact r6, fun j => ?_⟩
  · rw [oq q (by rw [so_ad_2 ha]; omega)]
    exact r3 q hq
  · by_cases hka : k = a
    · subst hka; exact hc
    · refine (r4 k h1 (by rw [← e1]; exact h2)).kept (e2 k) (e3 k) (e4 k hka) (oq _ (fun he => hka (so_ad_inj h1 ha he)))
  · rw [e1, e2] at *
    exact r5 k hk
  · have := e4 1 (by omega) j 0
    simp only [am_fv] at this
    rw [Value.int.inj this]
    exact r7 j
