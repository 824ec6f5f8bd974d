section SON
variable {p : Program} {l : Launch} {e : Env} {R : Room} {s : State} {m : MethodId} {args : Array Value} {below : List Frame} {meth : Method} {c : Code} {H : Heap} {locs : List Loc} {cells slots : Nat} {Q : State → Prop}
variable {cc : ByteArray} {pc : Nat} {ls : Array Slot} {rest : List Value} {D : va_G} {cA : Nat → ClassId} {H0 : Heap} {b L : Nat} {xs : Nat → Int32} {h : am_H} {own : String} {index a : Nat}
theorem so_aast (hexec : p.tables.exec = Jvm.exec) (hb : c.code = cc) (hK : so_K D cA H0 b L xs s) (hR : so_Rp D cA H0 b L xs h H) {k kv r : Nat} {C : String} {T : u_T} {N : Nat} (hk : am_kd h a = 200 + k) (hk4 : k < nm_el.length) (hv : am_kd h r = kv) (h0 : kv ≠ 0) (h99 : kv < 99) (hcl : nm_cl[kv - 1]? = some (C, T, N))
    (hca : C = nm_el.getD k "" ∨ Cond.castable C (nm_el.getD k "") ∈ so_NS) {i : Int32} (hi : ¬ (i < 0 ∨ am_ln h a ≤ i.toNatClampNeg)) (hlo : ∀ q ∈ locs, H0.size ≤ q.base) (hdg : decode cc pc = .ok (.aastore, 1))
    (kk : ∀ (H1 : Heap) (locs1 : List Loc), so_Rp D cA H0 b L xs (am_sR h a i.toNatClampNeg r) H1 → (∀ q ∈ locs1, H0.size ≤ q.base) → W p l e R s m args below meth c H1 locs1 cells slots Q (F0 m (pc + 1) ls rest)) : W p l e R s m args below meth c H locs cells slots Q (F0 m pc ls (so_cv H0.size b (.ref r) :: .int i :: so_cv H0.size b (.ref a) :: rest)) := by
  have hlt : i.toNatClampNeg < am_ln h a := Nat.not_le.mp fun q => hi (Or.inr q)
  have hi0 : ¬ i < 0 := fun q => hi (Or.inl q)
  obtain ⟨a2, an, ec, hc⟩ := so_arr hR (a := a) (by omega)
  have ht : (so_tys cA)[4 + k]? = some (cA (200 + k), .object (nm_el.getD k "")) := by
    unfold so_tys
    rw [List.getElem?_append_right (by simp)]
    simp [hk4]
  have h2 : so_at (am_kd h a) = 2 := by unfold so_at; rw [if_neg (by omega), if_pos (by omega)]
  rw [h2, hk] at hc
  obtain ⟨kA, comp, k1, k2, k3, -⟩ := (so_ty hK (4 + k) ht).2
  obtain ⟨r1, r2, r3, r4, r5, r6, r7⟩ := id hR
  rcases r5 r (by rw [hv]; exact h0) with ⟨-, h9⟩ | ⟨v2, vn, -⟩
  · omega
  subst hv
  obtain ⟨rr, g0, cellV, g1, g2, g3, -⟩ := (r4 r v2 vn).1 h0 h99
  have hcls := (hK.1.1 _ _ hcl).2
  obtain ⟨kC, hkC, hkind⟩ := hcls.2
  obtain ⟨kE, hkE, -⟩ := Vm.findClass_spec k3
  have hasg : s.vm.assignable cellV.cls comp = true := by
    rw [g2]
    rcases hca with hca | hca
    · rw [← hca] at k3
      cases k3.symm.trans hcls.1
      exact va_assign hcls
    · obtain ⟨c0, t1, f1, f2, f3⟩ := Cond.castable_spec (va_Nw.use (A := args) rfl (hK.2.2.2.1 _ hca))
      cases hcls.1.symm.trans f1
      cases k3.symm.trans f2
      exact f3
  rw [ec, so_cv_ref (k := r) (by omega)]
  refine W.aast hexec hb hc (fun q h => by cases h) (fun h => by cases h) k1 k2 rfl hkE ⟨hi0, by rw [arrV_size]; exact hlt⟩ g1 (fun q h => by rw [g3] at h; cases h) (by rw [g2]; exact hkC) hasg rfl rfl hdg fun H1 f1 f2 f3 => ?_
  refine kk H1 _ (so_Rp.elem (v := .ref r) hR (a := a) (by omega) rfl (fun _ => rfl) (fun _ => rfl) (fun k hk j t => so_fvR' hk) (fun k => by rw [h2]; exact so_fvR) (by rw [h2, hk, so_cv_ref (k := r) (by omega)]; exact f1) f2 f3) (t_lc (free := fun x => H0.size ≤ x) hlo (by rw [so_ad_2 a2]; omega))
theorem so_alk {k n sl q : Nat} (hq : q ≠ am_nx h) : am_kd (am_al h k n sl) q = am_kd h q ∧ am_ln (am_al h k n sl) q = am_ln h q ∧ ∀ j ty, am_fv (am_al h k n sl) q j ty = am_fv h q j ty := by
  refine ⟨if_neg hq, if_neg hq, fun j ty => ?_⟩
  match ty with
  | 0 => exact congrArg Value.int (if_neg hq)
  | 1 => exact congrArg Value.long (if_neg hq)
  | 2 => exact congrArg Value.ref (if_neg hq)
  | t + 3 => exact congrArg Value.int (if_neg hq)
theorem so_alx {k n sl : Nat} : am_kd (am_al h k n sl) (am_nx h) = k ∧ am_ln (am_al h k n sl) (am_nx h) = n ∧ ∀ j ty, am_fv (am_al h k n sl) (am_nx h) j ty = match ty with | 1 => .long 0 | 2 => .ref 0 | _ => .int 0 := by
  refine ⟨if_pos rfl, if_pos rfl, fun j ty => ?_⟩
  match ty with
  | 0 => exact congrArg Value.int (if_pos rfl)
  | 1 => exact congrArg Value.long (if_pos rfl)
  | 2 => exact congrArg Value.ref (if_pos rfl)
  | t + 3 => exact congrArg Value.int (if_pos rfl)
/-- a cell has been made -/
theorem so_Rp.push {H' : Heap} {k n sl : Nat} (hR : so_Rp D cA H0 b L xs h H) (hk : k ≠ 99) (z : H'.size = H.size + 1) (o1 : ∀ q, q < H.size → H'[q]? = H[q]?) (hc : so_cell D cA H0.size b (am_al h k n sl) (am_nx h) H') : so_Rp D cA H0 b L xs (am_al h k n sl) H' := by
  obtain ⟨r1, r2, r3, r4, r5, r6, r7⟩ := hR
  have hn : am_nx (am_al h k n sl) = am_nx h + 1 := rfl
  refine ⟨by rw [hn]; omega, by rw [hn, z]; omega, fun q hq => ?_, fun q h1 h2 => ?_, fun q hq => ?_, ?_, fun j => ?_⟩
  · rw [o1 q (by omega)]
    exact r3 q hq
  · by_cases hqn : q = am_nx h
    · subst hqn; exact hc
    · rw [hn] at h2
      obtain ⟨e1, e2, e3⟩ := so_alk (h := h) (k := k) (n := n) (sl := sl) hqn
      exact (r4 q h1 (by omega)).kept e1 e2 e3 (o1 _ (by rw [so_ad_2 h1]; omega))
  · by_cases hqn : q = am_nx h
    · subst hqn
      rw [so_alx.1] at hq ⊢
      exact Or.inr ⟨r1, by rw [hn]; omega, hk⟩
    · rw [(so_alk hqn).1] at hq ⊢
      rcases r5 q hq with h1 | ⟨h1, h2, h3⟩
      · exact Or.inl h1
      · exact Or.inr ⟨h1, by rw [hn]; omega, h3⟩
  · rw [(so_alk (q := 1) (by omega)).2.1]; exact r6
  · have := (so_alk (h := h) (k := k) (n := n) (sl := sl) (q := 1) (by omega)).2.2 j 0
    exact (Value.int.inj this).trans (r7 j)
theorem so_def (ty : FieldType) (hty : ty = .int ∨ ty = .long ∨ ty = .boolean ∨ ty = .byte ∨ (∃ C, ty = .object C) ∨ ∃ t, ty = .array t) {B : Nat} : defaultValue ty = so_cv B b (match so_tg ty with | 1 => .long 0 | 2 => .ref 0 | _ => .int 0) := by
  rcases hty with rfl | rfl | rfl | rfl | ⟨C, rfl⟩ | ⟨t, rfl⟩ <;> rfl
theorem so_new (hexec : p.tables.exec = Jvm.exec) (hb : c.code = cc) (hts : ∀ w ∈ so_TB, w.before args s = true) (hown : s.vm.findClass own = some m.cls) (hK : so_K D cA H0 b L xs s) (hR : so_Rp D cA H0 b L xs h H) {kd : Nat} {C : String} {T : u_T} {N : Nat} (h0 : kd ≠ 0) (h99 : kd < 99) (hcl : nm_cl[kd - 1]? = some (C, T, N)) (hin : ∀ w ∈ u_ws C T N, w ∈ so_TB)
    (hpd : ∀ k, k < N → parseFieldDescriptor (T k).2.2.1 = some (nm_ty (kd - 1) k)) (hpt : ∀ k, k < N → nm_ty (kd - 1) k = .int ∨ nm_ty (kd - 1) k = .long ∨ nm_ty (kd - 1) k = .boolean ∨ nm_ty (kd - 1) k = .byte ∨ (∃ C, nm_ty (kd - 1) k = .object C) ∨ ∃ t, nm_ty (kd - 1) k = .array t)
    (hlink : Cond.classLink own index C ∈ so_TB) (hinst : Cond.instantiable C N ∈ so_TB) (hini : Cond.initialized C ∈ so_TB) (hcells : cells + 1 ≤ R.cells) (hslots : slots + N ≤ R.slots) (hdg : decode cc pc = .ok (.new index, 3))
    (kk : ∀ H1 : Heap, so_Rp D cA H0 b L xs (am_al h kd 0 N) H1 → W p l e R s m args below meth c H1 locs (cells + 1) (slots + N) Q (F0 m (pc + 3) ls (so_cv H0.size b (.ref (am_nx h)) :: rest))) : W p l e R s m args below meth c H locs cells slots Q (F0 m pc ls rest) := by
  have hKn := hK.1.1 _ _ hcl
  have hsz : H.size = so_ad H0.size b (am_nx h) := by
    obtain ⟨r1, r2, -⟩ := hR
    rw [so_ad_2 r1]; omega
  refine W.newcK hexec hb hown (hts _ hlink) (hts _ hinst) (hts _ hini) rfl hdg hcells hslots hKn.2.1 hsz fun H1 kC hkC e1 z1 o1 => ?_
  have hc : so_cell D cA H0.size b (am_al h kd 0 N) (am_nx h) H1 := by
    obtain ⟨x1, x2, x3⟩ := so_alx (h := h) (k := kd) (n := 0) (sl := N)
    refine ⟨fun _ _ => ⟨(C, T, N), by rw [x1]; exact hcl, ?_⟩, fun g => ?_⟩
    · rw [x1]
      refine (u_born (nm_ty (kd - 1)) hts hin hKn hkC e1 hpd).to (fun k hk => ?_)
      rw [x3]
      exact so_def _ (hpt k hk)
    · rw [x1] at g; omega
  have := kk H1 (so_Rp.push hR (by omega) (by rw [hsz]; exact z1) (fun q hq => o1 q (by rw [← hsz]; exact hq)) hc)
  rw [so_cv_ref (by have := hR.1; omega)] at this
  exact this
theorem so_newa (hexec : p.tables.exec = Jvm.exec) (hb : c.code = cc) (hts : ∀ w ∈ so_TB, w.before args s = true) (hK : so_K D cA H0 b L xs s) (hR : so_Rp D cA H0 b L xs h H) {atype : ArrayType} {ty : FieldType} {kd t0 : Nat} (hty : newarray.typeOf atype = ty) (harr : Cond.arrayClass ty ∈ so_TB) (ht : (so_tys cA)[t0]? = some (cA kd, ty)) (hnr : ∀ C, ty ≠ .object C) (hk : 100 ≤ kd) (hb8 : componentBytes ty ≤ 8)
    (hd : ∀ B, defaultValue ty = so_cv B b (match so_at kd with | 1 => .long 0 | 2 => .ref 0 | _ => .int 0)) {n : Int32} (hn : ¬ n < 0) (hn2 : n.toNatClampNeg ≤ 1000000) (hcells : cells + 1 ≤ R.cells) (hslots : slots + n.toNatClampNeg ≤ R.slots) (hdg : decode cc pc = .ok (.newarray atype, 2))
    (kk : ∀ H1 : Heap, so_Rp D cA H0 b L xs (am_al h kd n.toNatClampNeg n.toNatClampNeg) H1 → W p l e R s m args below meth c H1 locs (cells + 1) (slots + n.toNatClampNeg) Q (F0 m (pc + 2) ls (so_cv H0.size b (.ref (am_nx h)) :: rest))) : W p l e R s m args below meth c H locs cells slots Q (F0 m pc ls (.int n :: rest)) := by
  subst hty
  have hsz : H.size = so_ad H0.size b (am_nx h) := by
    obtain ⟨r1, r2, -⟩ := hR
    rw [so_ad_2 r1]; omega
  have hRA : s.vm.findClass ("[" ++ (newarray.typeOf atype).toString) = some (cA kd) := by
    have := (so_ty hK t0 ht).2
    unfold va_RA at this
    split at this
    · rename_i C hC; exact absurd hC (hnr C)
    · exact this
  refine va_newaK hexec hb (hts _ harr) rfl hdg rfl hn rfl (Nat.le_trans (Nat.mul_le_mul hn2 hb8) (by decide)) hcells hslots hsz fun H1 cA' e1 z1 o1 hAr hNm => ?_
  cases hRA.symm.trans hNm
  have hc : so_cell D cA H0.size b (am_al h kd n.toNatClampNeg n.toNatClampNeg) (am_nx h) H1 := by
    obtain ⟨x1, x2, x3⟩ := so_alx (h := h) (k := kd) (n := n.toNatClampNeg) (sl := n.toNatClampNeg)
    refine ⟨fun _ g => ?_, fun _ => ?_⟩
    · rw [x1] at g; omega
    · unfold so_ar
      rw [e1, x1, x2]
      congr 2
      funext j
      rw [x3]
      exact hd _
  have := kk H1 (so_Rp.push hR (by omega) (by rw [hsz]; exact z1) (fun q hq => o1 q (by rw [← hsz]; exact hq)) hc)
  rw [so_cv_ref (by have := hR.1; omega)] at this
  exact this
theorem so_newq (hexec : p.tables.exec = Jvm.exec) (hb : c.code = cc) (hts : ∀ w ∈ so_TB, w.before args s = true) (hown : s.vm.findClass own = some m.cls) (hK : so_K D cA H0 b L xs s) (hR : so_Rp D cA H0 b L xs h H) {k : Nat} (hk4 : k < nm_el.length) (hlink : Cond.classLink own index (nm_el.getD k "") ∈ so_TB) (hov : Cond.arrayOver (.object (nm_el.getD k "")) ∈ so_NS)
    {n : Int32} (hn : ¬ n < 0) (hn2 : n.toNatClampNeg ≤ 1000000) (hcells : cells + 1 ≤ R.cells) (hslots : slots + n.toNatClampNeg ≤ R.slots) (hdg : decode cc pc = .ok (.anewarray index, 3))
    (kk : ∀ H1 : Heap, so_Rp D cA H0 b L xs (am_al h (200 + k) n.toNatClampNeg n.toNatClampNeg) H1 → W p l e R s m args below meth c H1 locs (cells + 1) (slots + n.toNatClampNeg) Q (F0 m (pc + 3) ls (so_cv H0.size b (.ref (am_nx h)) :: rest))) : W p l e R s m args below meth c H locs cells slots Q (F0 m pc ls (.int n :: rest)) := by
  have hsz : H.size = so_ad H0.size b (am_nx h) := by
    obtain ⟨r1, r2, -⟩ := hR
    rw [so_ad_2 r1]; omega
  have ht : (so_tys cA)[4 + k]? = some (cA (200 + k), .object (nm_el.getD k "")) := by
    unfold so_tys
    rw [List.getElem?_append_right (by simp)]
    simp [hk4]
  obtain ⟨kA0, comp0, k1, k2, k3, k4⟩ := (so_ty hK (4 + k) ht).2
  refine W.anew hexec hb hown (hts _ hlink) (va_AO.use (hK.2.2.2.1 _ hov)) rfl hdg rfl hn (by omega) hcells hslots fun cA' kA comp f1 f2 f3 f4 => ?_
  cases k4.symm.trans f1
  generalize hH1 : H.push ({ cls := cA (200 + k), slots := Array.replicate n.toNatClampNeg .null, vm := .none } : Cell) = H1
  have z1 : H1.size = H.size + 1 := by rw [← hH1, Array.size_push]
  have e1 : H1[H.size]? = some (arrV (cA (200 + k)) n.toNatClampNeg (fun _ => .null)) := by rw [← hH1, Array.getElem?_push_size, ← arrV_new]
  have o1 : ∀ q : Nat, q < H.size → H1[q]? = H[q]? := fun q hq => by rw [← hH1, Array.getElem?_push, if_neg (Nat.ne_of_lt hq)]
  have hc : so_cell D cA H0.size b (am_al h (200 + k) n.toNatClampNeg n.toNatClampNeg) (am_nx h) H1 := by
    obtain ⟨x1, x2, x3⟩ := so_alx (h := h) (k := 200 + k) (n := n.toNatClampNeg) (sl := n.toNatClampNeg)
    refine ⟨fun _ g => ?_, fun _ => ?_⟩
    · rw [x1] at g; omega
    · unfold so_ar
      rw [← hsz, e1, x1, x2]
      congr 2
      funext j
      have h2 : so_at (200 + k) = 2 := by unfold so_at; rw [if_neg (by omega), if_pos (by omega)]
      rw [x3, h2]
      rfl
  have := kk H1 (so_Rp.push hR (by omega) z1 o1 hc)
  rw [so_cv_ref (by have := hR.1; omega), ← hsz] at this
  exact this
end SON
