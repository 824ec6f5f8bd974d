/-! THE START -/
def am_0 (L : Nat) (xs : Nat → Int32) : am_H := (2, 0, 0, fun k => if k = 1 then 99 else 0, fun k => if k = 1 then L else 0, fun k j => if k = 1 then xs j else 0, fun _ _ => 0, fun _ _ => 0)
theorem so_Rp0 {D : va_G} {cA : Nat → ClassId} {H0 : Heap} {b L : Nat} {xs : Nat → Int32} : so_Rp D cA H0 b L xs (am_0 L xs) H0 := by
  refine ⟨Nat.le_refl _, rfl, fun _ _ => rfl, fun k h1 h2 => ?_, fun k hk => ?_, rfl, fun j => rfl⟩
  · have h2 : k < 2 := h2
    omega
  · have hk : (if k = 1 then 99 else 0) ≠ 0 := hk
    by_cases h : k = 1
    · subst h; exact Or.inl ⟨rfl, rfl⟩
    · rw [if_neg h] at hk; exact absurd rfl hk
/-- .. a static field's words, wherever the old cells lie as they lay -/
theorem so_ls {A A' : Array Value} {s S : State} {C n d : String} (hW : s.WarmedH S.vm) (hh : ∀ q : Nat, q < s.heap.size → S.heap[q]? = s.heap[q]?) (h : (Cond.laysStatic C n d).before A s = true) : (Cond.laysStatic C n d).before A' S = true := by
  obtain ⟨c, k, i, f, a, cell, hc, hf, hst, hsta, hcell, hiss, hcls, hlt, hty⟩ := Cond.laysStatic_spec h
  obtain ⟨k', hi', he⟩ := State.fieldFound?_setVm hW.alike hf
  have hc' : S.vm.findClass C = some c := by rw [hW.alike.findClass]; exact hc
  have hi2 : S.fieldFound? C n d = some (c, k', i, f) := hi'
  have hcell' : S.heap[a]? = some cell := by rw [hh a (Array.getElem?_eq_some_iff.mp hcell).1]; exact hcell
  have e1 : k'.statics = some a := by rw [he]; exact hsta
  have e2 : k'.staticTypes[f.slot]? = some f.type := by rw [he]; exact hty
  simp [Cond.before, Cond.holds, Cond.value, hc', hi2, hst, e1, hcell', hiss, hcls, hlt, e2]
theorem so_ir {A A' : Array Value} {s S : State} {C n d : String} (hW : s.WarmedH S.vm) (hh : ∀ q : Nat, q < s.heap.size → S.heap[q]? = s.heap[q]?) (h : (Cond.laysStatic C n d).before A s = true) (hr : (Cond.isRef (.static C n d)).before A s = true) : (Cond.isRef (.static C n d)).before A' S = true := by
  obtain ⟨c, k, i, f, a, cell, hc, hf, hst, hsta, hcell, hiss, hcls, hlt, hty⟩ := Cond.laysStatic_spec h
  obtain ⟨v, hv, hvr⟩ := Cond.isRef_spec hr
  obtain ⟨-, a', cell', ha', hcell', hun, hslot⟩ := Term.static_spec hf hv
  cases hsta.symm.trans ha'
  cases hcell.symm.trans hcell'
  obtain ⟨k', hi', he⟩ := State.fieldFound?_setVm hW.alike hf
  have hi2 : S.fieldFound? C n d = some (c, k', i, f) := hi'
  have hc2 : S.heap[a]? = some cell := by rw [hh a (Array.getElem?_eq_some_iff.mp hcell).1]; exact hcell
  have e1 : k'.statics = some a := by rw [he]; exact hsta
  have hev : (Term.static C n d).eval A' S none [] S = some v := by
    simp [Term.eval, State.fieldNamed?, hi2, hst, e1, hc2, hiss, hslot]
  have hz : (Cond.isRef (.static C n d)).before A' S = v.isRef := by
    cases v <;> simp [Cond.before, Cond.holds, Cond.value, hev, Value.isRef]
  rw [hz]
  exact hvr
def so_ft (w : Cond) : Bool := decide (w ∈ flatC (Jvm.Cond.and given_1 narrow_1))
theorem so_ft1 : (so_ft (.isRef (.static Bundle.tN "UNASSIGNED_STACK" Bundle.steD)) && so_ft (.isRef (.static Bundle.tN "SUPPRESSED_SENTINEL" Bundle.listD)) && nm_nc.all fun q => so_ft (.not (.castable (so_ex q.1) (so_ex q.2)))) = true := by decide +kernel
theorem so_ft2 : (decide (Cond.laysStatic Bundle.tN "UNASSIGNED_STACK" Bundle.steD ∈ lw_tbl) && decide (Cond.laysStatic Bundle.tN "SUPPRESSED_SENTINEL" Bundle.listD ∈ lw_tbl) && (so_NS.all fun w => decide (w ∈ lw_tbl)) && nm_str.all fun q => decide (Cond.stringRef q.1 q.2.1 q.2.2 ∈ lw_tbl)) = true := by decide +kernel
theorem so_2h (i k : Nat) (hk : k < 200) : ¬ (200 + i = k) := by omega
section SO0
variable {p : Program} {l : Launch} {e : Env} {s : State} {m : MethodId} {below : List Frame} {meth : Method} {c : Code} {b L : Nat} {xs : Nat → Int32}
theorem so_K0 (C0 : lw_At p s m meth c b L xs) : ∃ (D : va_G) (cA : Nat → ClassId), so_K D cA s.heap b L xs s := by
  obtain ⟨hx, hb, hr, hml, hown, hts, hX, hbl, hlocks, hgv, -, -⟩ := id C0
  have hTB : ∀ w ∈ so_TB, w.before #[Value.ref b] s = true := fun w hw => hts w (List.mem_filter.mp hw).1
  have hfl := flat_of_before _ hgv
  have f1 := so_ft1
  have f2 := so_ft2
  simp only [Bool.and_eq_true, List.all_eq_true, so_ft, decide_eq_true_eq] at f1 f2
  have hD : ∀ i : Nat, ∃ (cC : ClassId) (iS : Nat → Nat), ∀ q : vw_C, nm_cl[i]? = some q → u_Kn s q.1 q.2.1 q.2.2 cC iS := by
    intro i
    cases hq : nm_cl[i]? with
    | none => exact ⟨0, fun _ => 0, fun q h => nomatch h⟩
    | some q =>
      obtain ⟨C, T, N⟩ := q
      obtain ⟨q1, q2, q3, -⟩ := so_cw_get hq
      obtain ⟨cC, iS, hk⟩ := u_known (C := C) (T := T) (N := N) (n := N) hTB q3 (hTB _ q1)
      exact ⟨cC, iS, fun q h => by cases h; exact hk⟩
  have hA : ∀ ty : FieldType, (∀ C, ty ≠ .object C) → Cond.arrayClass ty ∈ so_TB → ∃ cc, ArrOfT s cc ty ∧ va_RA s cc ty := by
    intro ty hno hw
    obtain ⟨cc, kk, comp, h1, h2, h3⟩ := Cond.arrayClass_spec (hTB _ hw)
    refine ⟨cc, fun n z => ⟨(fun k h => by cases h), kk, h2, comp, h3⟩, ?_⟩
    unfold va_RA
    split
    · rename_i C; exact absurd rfl (hno C)
    · exact h1
  have hB : ∀ i : Nat, ∃ cc, i < nm_el.length → ArrOfT s cc (.object (nm_el.getD i "")) ∧ va_RA s cc (.object (nm_el.getD i "")) := by
    intro i
    by_cases hi : i < nm_el.length
    · obtain ⟨comp, cc, kk, h1, h2, h3, h4, h5⟩ := Cond.arrayOver_spec (hts _ (f2.1.2 _ (so_aov i hi)))
      exact ⟨cc, fun _ => ⟨fun n z => ⟨(fun k h => by cases h), kk, h3, comp, h4⟩, kk, comp, h3, h4, h1, h5⟩⟩
    · exact ⟨0, fun h => absurd h hi⟩
  obtain ⟨a1, a2, a3, a4⟩ := so_acls
  obtain ⟨c1, g1⟩ := hA .int (fun C h => by cases h) a1
  obtain ⟨c2, g2⟩ := hA .long (fun C h => by cases h) a2
  obtain ⟨c3, g3⟩ := hA .byte (fun C h => by cases h) a3
  obtain ⟨c4, g4⟩ := hA .boolean (fun C h => by cases h) a4
  obtain ⟨cA, k1, k2, k3, k4, k5⟩ : ∃ cA : Nat → ClassId, cA 100 = c1 ∧ cA 101 = c2 ∧ cA 102 = c3 ∧ cA 103 = c4 ∧ ∀ i, cA (200 + i) = (hB i).choose := by
    refine ⟨fun k => if k = 100 then c1 else if k = 101 then c2 else if k = 102 then c3 else if k = 103 then c4 else (hB (k - 200)).choose, if_pos rfl, (if_neg (by decide)).trans (if_pos rfl), (if_neg (by decide)).trans ((if_neg (by decide)).trans (if_pos rfl)), (if_neg (by decide)).trans ((if_neg (by decide)).trans ((if_neg (by decide)).trans (if_pos rfl))), fun i => ?_⟩
    show (if 200 + i = 100 then c1 else if 200 + i = 101 then c2 else if 200 + i = 102 then c3 else if 200 + i = 103 then c4 else (hB (200 + i - 200)).choose) = (hB i).choose
    exact ((if_neg (so_2h i 100 (by decide))).trans ((if_neg (so_2h i 101 (by decide))).trans ((if_neg (so_2h i 102 (by decide))).trans (if_neg (so_2h i 103 (by decide)))))).trans (congrArg (fun z => (hB z).choose) (Nat.add_sub_cancel_left 200 i))
  refine ⟨(fun i => (hD i).choose, fun i => (hD i).choose_spec.choose), cA, ⟨fun i q hq => (hD i).choose_spec.choose_spec q hq, fun k q hq => ?_⟩, hX, hbl, ?_, ?_, ?_, ?_⟩
  · unfold so_tys at hq
    rcases Nat.lt_or_ge k 4 with h | h
    · rw [List.getElem?_append_left (by exact h)] at hq
      rcases (show k = 0 ∨ k = 1 ∨ k = 2 ∨ k = 3 by omega) with rfl | rfl | rfl | rfl
      · have e := Option.some.inj hq
        rw [← e]; dsimp only; rw [k1]; exact g1
      · have e := Option.some.inj hq
        rw [← e]; dsimp only; rw [k2]; exact g2
      · have e := Option.some.inj hq
        rw [← e]; dsimp only; rw [k3]; exact g3
      · have e := Option.some.inj hq
        rw [← e]; dsimp only; rw [k4]; exact g4
    · rw [List.getElem?_append_right (by exact h), List.getElem?_map] at hq
      obtain ⟨i, hr, hq2⟩ := Option.map_eq_some_iff.mp hq
      have hi : i < nm_el.length := List.mem_range.mp (List.mem_of_getElem? hr)
      rw [← hq2]
      dsimp only
      rw [k5]
      exact (hB i).choose_spec hi
  · intro w hw
    have h1 := hts _ (f2.1.2 w hw)
    have hk : so_nsk w = true := List.all_eq_true.mp so_NS_ok w hw
    cases w with
    | methodLinkNest _ _ _ _ => exact va_Nw.of rfl h1
    | declares _ => exact va_Nw.of rfl h1
    | castable _ _ => exact va_Nw.of rfl h1
    | arrayOver ty =>
      cases ty with
      | object C => exact va_AO.of h1
      | _ => cases hk
    | _ => cases hk
  · intro A S hW hh w hw
    have l1 := hts _ f2.1.1.1
    have l2 := hts _ f2.1.1.2
    have r1 := hfl _ f1.1.1
    have r2 := hfl _ f1.1.2
    simp only [so_zw, List.mem_cons, List.not_mem_nil, or_false] at hw
    rcases hw with rfl | rfl | rfl | rfl
    · exact so_ls hW hh l1
    · exact so_ls hW hh l2
    · exact so_ir hW hh l1 r1
    · exact so_ir hW hh l2 r2
  · intro q hq
    have h1 := hts _ (f2.2 q hq)
    cases hc : s.vm.findClass q.1 with
    | none => simp [Cond.before, Cond.holds, Cond.value, hc] at h1
    | some cur =>
      obtain ⟨k, cf, i, a, -, -, -, -, -, hev⟩ := Cond.stringRef_spec hc h1
      exact ⟨a, vk_R.of h1 hev⟩
  · intro q hq c1 c2 h1 h2
    have hv := Cond.holds_not_iff.mp (hfl _ (f1.2 q hq))
    simp only [Cond.value, h1, h2] at hv
    exact Option.some.inj hv
end SO0
