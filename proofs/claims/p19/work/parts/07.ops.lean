def so_nsk : Cond → Bool
  | .methodLinkNest _ _ _ _ => true
  | .declares _ => true
  | .castable _ _ => true
  | .arrayOver (.object _) => true
  | _ => false
theorem so_NS_ok : so_NS.all so_nsk = true := by decide +kernel
theorem so_Nw_moved {w : Cond} {u U : State} (hw : w ∈ so_NS) (hW : u.WarmedH U.vm) (h : va_Nw w u) : va_Nw w U := by
  have hk : so_nsk w = true := List.all_eq_true.mp so_NS_ok w hw
  cases w with
  | methodLinkNest _ _ _ _ => exact va_Nw.warmM hW h
  | declares _ => exact va_Nw.warmD hW h
  | castable _ _ => exact va_Nw.warmC hW h
  | arrayOver ty =>
    cases ty with
    | object C => exact va_AO.moved hW.alike h
    | _ => cases hk
  | _ => cases hk
/-- the words of a throw that speak of the heap: they hold wherever the old cells lie as they lay -/
def so_zw : List Cond := [.laysStatic Bundle.tN "UNASSIGNED_STACK" Bundle.steD, .laysStatic Bundle.tN "SUPPRESSED_SENTINEL" Bundle.listD, .isRef (.static Bundle.tN "UNASSIGNED_STACK" Bundle.steD), .isRef (.static Bundle.tN "SUPPRESSED_SENTINEL" Bundle.listD)]
def so_Zs (H0 : Heap) (U : State) : Prop := ∀ (A : Array Value) (S : State), U.WarmedH S.vm → (∀ q : Nat, q < H0.size → S.heap[q]? = H0[q]?) → ∀ w ∈ so_zw, w.before A S = true
theorem so_Zs.moved {H0 : Heap} {u U : State} (hW : u.WarmedH U.vm) (h : so_Zs H0 u) : so_Zs H0 U := fun A S hS => h A S (State.WarmedH.trans hW hS)
/-- the String constants -/
def so_St (U : State) : Prop := ∀ q ∈ nm_str, ∃ a, vk_R q.1 q.2.1 q.2.2 a U
theorem so_St.moved {u U : State} (hW : u.WarmedH U.vm) (h : so_St u) : so_St U := fun q hq => by
  obtain ⟨a, ha⟩ := h q hq
  exact ⟨a, vk_R.warm hW ha⟩
def so_ex : Nat → String
  | 0 => "java/lang/IllegalStateException"
  | 1 => "java/lang/IllegalArgumentException"
  | _ => "java/lang/IndexOutOfBoundsException"
/-- what can't be assigned to what, of the exceptions -/
def so_Nc (U : State) : Prop := ∀ q ∈ nm_nc, ∀ c1 c2, U.vm.findClass (so_ex q.1) = some c1 → U.vm.findClass (so_ex q.2) = some c2 → U.vm.assignable c1 c2 = false
theorem so_Nc.moved {u U : State} (hW : u.WarmedH U.vm) (h : so_Nc u) : so_Nc U := fun q hq c1 c2 h1 h2 => by
  rw [hW.alike.findClass] at h1 h2
  rw [hW.alike.assignable]
  exact h q hq c1 c2 h1 h2
/-- what stays true of the tables -/
def so_K (D : va_G) (cA : Nat → ClassId) (H0 : Heap) (b L : Nat) (xs : Nat → Int32) (U : State) : Prop := va_K D nm_cl (so_tys cA) U ∧ va_X b L xs U H0 ∧ b < H0.size ∧ (∀ w ∈ so_NS, va_Nw w U) ∧ so_Zs H0 U ∧ so_St U ∧ so_Nc U
theorem so_K.moved {D : va_G} {cA : Nat → ClassId} {H0 : Heap} {b L : Nat} {xs : Nat → Int32} {u U : State} (hW : u.WarmedH U.vm) (h : so_K D cA H0 b L xs u) : so_K D cA H0 b L xs U := by
  obtain ⟨h1, h2, h3, h4, h5, h6, h7⟩ := h
  exact ⟨h1.moved hW.alike, h2.moved hW.alike, h3, fun w hw => so_Nw_moved hw hW (h4 w hw), h5.moved hW, h6.moved hW, h7.moved hW⟩
section SOP
variable {p : Program} {l : Launch} {e : Env} {R : Room} {s : State} {m : MethodId} {args : Array Value} {below : List Frame} {meth : Method} {c : Code} {H : Heap} {locs : List Loc} {cells slots : Nat} {Q : State → Prop}
variable {cc : ByteArray} {pc : Nat} {ls : Array Slot} {rest : List Value} {D : va_G} {cA : Nat → ClassId} {H0 : Heap} {b L : Nat} {xs : Nat → Int32} {h : am_H} {own ref : String} {index a j kd : Nat} {C : String} {T : u_T} {N : Nat}
theorem so_same (hts : ∀ w ∈ so_TB, w.before args s = true) {o n d : String} (hs : o = ref ∨ Cond.sameField ref o n d ∈ so_TB) : ∀ x, s.fieldFound? o n d = some x → s.fieldFound? ref n d = some x := by
  intro x hx
  rcases hs with rfl | hs
  · exact hx
  · exact u_same (hts _ hs) x hx
theorem so_get (hexec : p.tables.exec = Jvm.exec) (hb : c.code = cc) (hts : ∀ w ∈ so_TB, w.before args s = true) (hown : s.vm.findClass own = some m.cls) (hK : so_K D cA H0 b L xs s) (hR : so_Rp D cA H0 b L xs h H)
    (hkd : am_kd h a = kd) (h0 : kd ≠ 0) (h99 : kd < 99) (hcl : nm_cl[kd - 1]? = some (C, T, N)) (hin : ∀ w ∈ u_ws C T N, w ∈ so_TB) (hj : j < N) (hlink : Cond.fieldLink own index ref (T j).2.1 (T j).2.2.1 ∈ so_TB) (hsame : (T j).1 = ref ∨ Cond.sameField ref (T j).1 (T j).2.1 (T j).2.2.1 ∈ so_TB)
    {ty : Nat} (hty : so_tg (nm_ty (kd - 1) j) = ty) (hdg : decode cc pc = .ok (.getfield index, 3))
    (kk : W p l e R s m args below meth c H locs cells slots Q (F0 m (pc + 3) ls (so_cv H0.size b (am_fv h a j ty) :: rest))) : W p l e R s m args below meth c H locs cells slots Q (F0 m pc ls (so_cv H0.size b (.ref a) :: rest)) := by
  obtain ⟨r1, r2, r3, r4, r5, r6, r7⟩ := hR
  rcases r5 a (by rw [hkd]; exact h0) with ⟨-, h9⟩ | ⟨a2, an, -⟩
  · omega
  subst hkd
  obtain ⟨r, h1, cell, q1, q2, q3, q4⟩ := (r4 a a2 an).1 h0 h99
  have hr : r = (C, T, N) := Option.some.inj (h1.symm.trans hcl)
  subst hr
  obtain ⟨hS, hfc, kC, hkC, hkind⟩ := hK.1.1 _ _ hcl
  obtain ⟨cf, kf, fi, f, hi, hsl⟩ := hS j hj
  rw [so_cv_ref (by omega)]
  refine W.getf hexec hb hown (hts _ hlink) (so_same hts hsame _ hi) (u_facts hfc hkC (u_lays hts hin hj) hi).1 q1 (by rw [q3]; exact fun h => by cases h) (v := so_cv H0.size b (am_fv h a j ty)) ?_ rfl rfl hdg kk
  rw [hsl, q4 j hj]
  dsimp only
  rw [hty]
theorem so_put (hexec : p.tables.exec = Jvm.exec) (hb : c.code = cc) (hts : ∀ w ∈ so_TB, w.before args s = true) (hown : s.vm.findClass own = some m.cls) (hK : so_K D cA H0 b L xs s) (hR : so_Rp D cA H0 b L xs h H)
    (hkd : am_kd h a = kd) (h0 : kd ≠ 0) (h99 : kd < 99) (hcl : nm_cl[kd - 1]? = some (C, T, N)) (hin : ∀ w ∈ u_ws C T N, w ∈ so_TB) (hpd : ∀ k, k < N → parseFieldDescriptor (T k).2.2.1 = some (nm_ty (kd - 1) k)) (hnm : ∀ a, a < N → ∀ b, b < N → a ≠ b → (T a).2.1 ≠ (T b).2.1)
    (hj : j < N) (hlink : Cond.fieldLink own index ref (T j).2.1 (T j).2.2.1 ∈ so_TB) (hsame : (T j).1 = ref ∨ Cond.sameField ref (T j).1 (T j).2.1 (T j).2.2.1 ∈ so_TB) (hfin : (T j).2.2.2 = false ∨ (meth.name = "<init>" ∧ (T j).1 = own))
    {v : Value} {h' : am_H} (hn : narrow (nm_ty (kd - 1) j) (so_cv H0.size b v) = so_cv H0.size b v) (hfit : fits (nm_ty (kd - 1) j) (so_cv H0.size b v) = true)
    (e1 : am_nx h' = am_nx h) (e2 : ∀ k, am_kd h' k = am_kd h k) (e3 : ∀ k, am_ln h' k = am_ln h k) (e4 : ∀ k, k ≠ a → ∀ j ty, am_fv h' k j ty = am_fv h k j ty) (e5 : ∀ k, k < N → am_fv h' a k (so_tg (nm_ty (kd - 1) k)) = if k = j then v else am_fv h a k (so_tg (nm_ty (kd - 1) k)))
    (hlo : ∀ q ∈ locs, H0.size ≤ q.base) (hdg : decode cc pc = .ok (.putfield index, 3))
    (kk : ∀ (H1 : Heap) (locs1 : List Loc), so_Rp D cA H0 b L xs h' H1 → (∀ q ∈ locs1, H0.size ≤ q.base) → W p l e R s m args below meth c H1 locs1 cells slots Q (F0 m (pc + 3) ls rest)) : W p l e R s m args below meth c H locs cells slots Q (F0 m pc ls (so_cv H0.size b v :: so_cv H0.size b (.ref a) :: rest)) := by
  obtain ⟨r1, r2, r3, r4, r5, r6, r7⟩ := id hR
  rcases r5 a (by rw [hkd]; exact h0) with ⟨-, h9⟩ | ⟨a2, an, -⟩
  · omega
  subst hkd
  obtain ⟨r, h1, cell, q1, q2, q3, q4⟩ := (r4 a a2 an).1 h0 h99
  have hr : r = (C, T, N) := Option.some.inj (h1.symm.trans hcl)
  subst hr
  obtain ⟨hS, hfc, kC, hkC, hkind⟩ := hK.1.1 _ _ hcl
  obtain ⟨cf, kf, fi, f, hi, hsl⟩ := hS j hj
  have hap := va_apart (own := own) hts hin (nm_ty (am_kd h a - 1)) hpd hnm hK.1 hcl
  have hst := (u_facts hfc hkC (u_lays hts hin hj) hi).1
  have fin : ∀ H' : Heap, H'[so_ad H0.size b a]? = some (cell.setSlot f.slot (so_cv H0.size b v)) → H'.size = H.size → (∀ q, q ≠ so_ad H0.size b a → H'[q]? = H[q]?) → so_Rp D cA H0 b L xs h' H' := by
    intro H' f1 f2 f3
    refine so_Rp.put hR a2 an e1 e2 e3 e4 f2 f3 ⟨fun g1 g2 => ?_, fun g1 => ?_⟩
    · refine ⟨(C, T, N), by rw [e2]; exact hcl, ?_⟩
      rw [e2]
      refine ⟨_, f1, q2, q3, fun k hk => ?_⟩
      rw [hsl, t_set q4 hap hj _ k hk]
      dsimp only
      rw [e5 k hk]
      unfold updV
      by_cases hkj : k = j
      · rw [if_pos hkj, if_pos hkj]
      · rw [if_neg hkj, if_neg hkj]
    · rw [e2] at g1; omega
  have hl1 : ∀ q ∈ locs ++ [⟨so_ad H0.size b a, f.slot⟩], H0.size ≤ q.base := t_lc (free := fun x => H0.size ≤ x) hlo (by rw [so_ad_2 a2]; omega)
  rw [so_cv_ref (k := a) (by omega)]
  by_cases hf : (T j).2.2.2 = true
  · obtain ⟨hin2, hdecl⟩ : meth.name = "<init>" ∧ (T j).1 = own := by
      rcases hfin with q | q
      · rw [hf] at q; cases q
      · exact q
    have hlay := hts _ (hin _ (u_in_lay hj))
    unfold u_lay at hlay
    rw [if_pos hf] at hlay
    have hcf : m.cls = cf := by
      obtain ⟨_, _, c', _, _, _, -, -, hf', -, -, -, hown2, -⟩ := Cond.laysFinal_spec hlay
      have e1 : c' = cf := by have := hi.symm.trans hf'; simp at this; exact this.1.symm
      subst e1
      rw [hdecl] at hown2
      exact Option.some.inj (hown.symm.trans hown2)
    refine W.putFinK hexec hb hown (hts _ hlink) (so_same hts hsame _ hi) hst hcf hin2 (by rw [q2]; exact u_fits hfc hkC hkind (Or.inr hlay) hi (hpd j hj) hn hfit) q1 q3 (by rw [hsl]; exact k2_hasslot (q4 j hj)) rfl rfl hdg fun H' f1 f2 f3 => ?_
    exact kk H' _ (fin H' f1 f2 f3) hl1
  · have hf' : (T j).2.2.2 = false := by simpa using hf
    have hlay := hts _ (hin _ (u_in_lay hj))
    unfold u_lay at hlay
    rw [if_neg hf] at hlay
    refine W.putK hexec hb (f := f) ⟨hown, hts _ hlink, ⟨_, _, _, so_same hts hsame _ hi⟩, hst⟩ (by rw [q2]; exact u_store hfc hkC hkind hlay hi (hpd j hj) hn hfit) q1 q3 (by rw [hsl]; exact k2_hasslot (q4 j hj)) rfl rfl hdg fun H' f1 f2 f3 => ?_
    exact kk H' _ (fin H' f1 f2 f3) hl1
end SOP
