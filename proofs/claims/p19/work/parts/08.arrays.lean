section SOA
variable {p : Program} {l : Launch} {e : Env} {R : Room} {s : State} {m : MethodId} {args : Array Value} {below : List Frame} {meth : Method} {c : Code} {H : Heap} {locs : List Loc} {cells slots : Nat} {Q : State → Prop}
variable {cc : ByteArray} {pc : Nat} {ls : Array Slot} {rest : List Value} {D : va_G} {cA : Nat → ClassId} {H0 : Heap} {b L : Nat} {xs : Nat → Int32} {h : am_H} {own : String} {index a : Nat}
/-- an array's cell -/
theorem so_arr (hR : so_Rp D cA H0 b L xs h H) (hk : 100 ≤ am_kd h a) : 2 ≤ a ∧ a < am_nx h ∧ so_cv H0.size b (.ref a) = .ref (so_ad H0.size b a) ∧ H[so_ad H0.size b a]? = some (arrV (cA (am_kd h a)) (am_ln h a) (fun j => so_cv H0.size b (am_fv h a j (so_at (am_kd h a))))) := by
  obtain ⟨r1, r2, r3, r4, r5, r6, r7⟩ := hR
  rcases r5 a (by omega) with ⟨-, h9⟩ | ⟨a2, an, -⟩
  · omega
  exact ⟨a2, an, so_cv_ref (by omega), (r4 a a2 an).2 (by omega)⟩
theorem so_ty (hK : so_K D cA H0 b L xs s) (k : Nat) {q : ClassId × FieldType} (hk : (so_tys cA)[k]? = some q) : ArrOfT s q.1 q.2 ∧ va_RA s q.1 q.2 := hK.1.2 k q hk
theorem so_iald (hexec : p.tables.exec = Jvm.exec) (hb : c.code = cc) (hK : so_K D cA H0 b L xs s) (hR : so_Rp D cA H0 b L xs h H) (hk : am_kd h a = 100 ∨ am_kd h a = 99) {i : Int32} (hi : ¬ (i < 0 ∨ am_ln h a ≤ i.toNatClampNeg)) (hdg : decode cc pc = .ok (.iaload, 1))
    (kk : W p l e R s m args below meth c H locs cells slots Q (F0 m (pc + 1) ls (.int (am_I h a i.toNatClampNeg) :: rest))) : W p l e R s m args below meth c H locs cells slots Q (F0 m pc ls (.int i :: so_cv H0.size b (.ref a) :: rest)) := by
  have hlt : i.toNatClampNeg < am_ln h a := Nat.not_le.mp fun q => hi (Or.inr q)
  rcases hk with hk | hk
  · obtain ⟨a2, an, ec, hc⟩ := so_arr hR (a := a) (by omega)
    rw [ec]
    rw [hk] at hc
    exact W.iald (v := .int (am_I h a i.toNatClampNeg)) hexec hb hc ((so_ty hK 0 rfl).1 _ _) (fun q => by cases q) (by rw [arrV_size]; exact hi) (by rw [arrV_read _ _ hlt]; rfl) rfl rfl hdg kk
  · obtain ⟨r1, r2, r3, r4, r5, r6, r7⟩ := hR
    rcases r5 a (by omega) with ⟨rfl, -⟩ | ⟨-, -, h9⟩
    · obtain ⟨scr, x1, x2, x3, x4, x5⟩ := hK.2.1
      rw [r6] at hi hlt
      rw [so_cv_ref (by decide)]
      refine W.iald (v := .int (am_I h 1 i.toNatClampNeg)) hexec hb (cell := scr) (by rw [r3 _ (show so_ad H0.size b 1 < H0.size from hK.2.2.1)]; exact x1) x2 x3 (by rw [x4]; exact hi) (by rw [x5 _ hlt, r7]) rfl rfl hdg kk
    · exact absurd hk h9
theorem so_lald (hexec : p.tables.exec = Jvm.exec) (hb : c.code = cc) (hK : so_K D cA H0 b L xs s) (hR : so_Rp D cA H0 b L xs h H) (hk : am_kd h a = 101) {i : Int32} (hi : ¬ (i < 0 ∨ am_ln h a ≤ i.toNatClampNeg)) (hdg : decode cc pc = .ok (.laload, 1))
    (kk : W p l e R s m args below meth c H locs cells slots Q (F0 m (pc + 1) ls (.long (am_L h a i.toNatClampNeg) :: rest))) : W p l e R s m args below meth c H locs cells slots Q (F0 m pc ls (.int i :: so_cv H0.size b (.ref a) :: rest)) := by
  have hlt : i.toNatClampNeg < am_ln h a := Nat.not_le.mp fun q => hi (Or.inr q)
  obtain ⟨a2, an, ec, hc⟩ := so_arr hR (a := a) (by omega)
  rw [ec]
  rw [hk] at hc
  exact W.lald (v := .long (am_L h a i.toNatClampNeg)) hexec hb hc ((so_ty hK 1 rfl).1 _ _) (fun q => by cases q) (by rw [arrV_size]; exact hi) (by rw [arrV_read _ _ hlt]; rfl) rfl rfl hdg kk
theorem so_bald (hexec : p.tables.exec = Jvm.exec) (hb : c.code = cc) (hK : so_K D cA H0 b L xs s) (hR : so_Rp D cA H0 b L xs h H) (hk : am_kd h a = 102 ∨ am_kd h a = 103) {i : Int32} (hi : ¬ (i < 0 ∨ am_ln h a ≤ i.toNatClampNeg)) (hdg : decode cc pc = .ok (.baload, 1))
    (kk : W p l e R s m args below meth c H locs cells slots Q (F0 m (pc + 1) ls (.int (am_I h a i.toNatClampNeg) :: rest))) : W p l e R s m args below meth c H locs cells slots Q (F0 m pc ls (.int i :: so_cv H0.size b (.ref a) :: rest)) := by
  have hlt : i.toNatClampNeg < am_ln h a := Nat.not_le.mp fun q => hi (Or.inr q)
  obtain ⟨a2, an, ec, hc⟩ := so_arr hR (a := a) (by omega)
  rw [ec]
  rcases hk with hk | hk
  · rw [hk] at hc
    exact W.bald (v := .int (am_I h a i.toNatClampNeg)) hexec hb hc ((so_ty hK 2 rfl).1 _ _) (fun q => by cases q) (by rw [arrV_size]; exact hi) (by rw [arrV_read _ _ hlt]; rfl) rfl rfl hdg kk
  · rw [hk] at hc
    exact W.zald (v := .int (am_I h a i.toNatClampNeg)) hexec hb hc ((so_ty hK 3 rfl).1 _ _) (fun q => by cases q) (by rw [arrV_size]; exact hi) (by rw [arrV_read _ _ hlt]; rfl) rfl rfl hdg kk
theorem so_aald (hexec : p.tables.exec = Jvm.exec) (hb : c.code = cc) (hK : so_K D cA H0 b L xs s) (hR : so_Rp D cA H0 b L xs h H) {k : Nat} (hk : am_kd h a = 200 + k) (hk4 : k < nm_el.length) {i : Int32} (hi : ¬ (i < 0 ∨ am_ln h a ≤ i.toNatClampNeg)) (hdg : decode cc pc = .ok (.aaload, 1))
    (kk : W p l e R s m args below meth c H locs cells slots Q (F0 m (pc + 1) ls (so_cv H0.size b (.ref (am_R h a i.toNatClampNeg)) :: rest))) : W p l e R s m args below meth c H locs cells slots Q (F0 m pc ls (.int i :: so_cv H0.size b (.ref a) :: rest)) := by
  have hlt : i.toNatClampNeg < am_ln h a := Nat.not_le.mp fun q => hi (Or.inr q)
  obtain ⟨a2, an, ec, hc⟩ := so_arr hR (a := a) (by omega)
  rw [ec]
  have ht : (so_tys cA)[4 + k]? = some (cA (200 + k), .object (nm_el.getD k "")) := by
    unfold so_tys
    rw [List.getElem?_append_right (by simp)]
    simp [hk4]
  have h2 : so_at (am_kd h a) = 2 := by unfold so_at; rw [if_neg (by omega), if_pos (by omega)]
  rw [h2, hk] at hc
  exact W.aald (v := so_cv H0.size b (.ref (am_R h a i.toNatClampNeg))) hexec hb hc ((so_ty hK (4 + k) ht).1 _ _) rfl (fun q => by cases q) (by rw [arrV_size]; exact hi) (by rw [arrV_read _ _ hlt]; rfl) rfl rfl hdg kk
theorem so_alen (hexec : p.tables.exec = Jvm.exec) (hb : c.code = cc) (hK : so_K D cA H0 b L xs s) (hR : so_Rp D cA H0 b L xs h H) (hk : am_kd h a = 100 ∨ am_kd h a = 99 ∨ am_kd h a = 102) (hdg : decode cc pc = .ok (.arraylength, 1))
    (kk : W p l e R s m args below meth c H locs cells slots Q (F0 m (pc + 1) ls (.int (am_ln h a).toInt32 :: rest))) : W p l e R s m args below meth c H locs cells slots Q (F0 m pc ls (so_cv H0.size b (.ref a) :: rest)) := by
  rcases hk with hk | hk | hk
  · obtain ⟨a2, an, ec, hc⟩ := so_arr hR (a := a) (by omega)
    rw [ec]
    rw [hk] at hc
    exact W.alen (n := (am_ln h a).toInt32) (ty := .int) hexec hb hc ((so_ty hK 0 rfl).1 _ _) (by rw [arrV_size]) rfl rfl hdg kk
  · obtain ⟨r1, r2, r3, r4, r5, r6, r7⟩ := hR
    rcases r5 a (by omega) with ⟨rfl, -⟩ | ⟨-, -, h9⟩
    · obtain ⟨scr, x1, x2, x3, x4, x5⟩ := hK.2.1
      rw [so_cv_ref (by decide)]
      exact W.alen (n := (am_ln h 1).toInt32) (ty := .int) hexec hb (cell := scr) (by rw [r3 _ (show so_ad H0.size b 1 < H0.size from hK.2.2.1)]; exact x1) x2 (by rw [x4, r6]) rfl rfl hdg kk
    · exact absurd hk h9
  · obtain ⟨a2, an, ec, hc⟩ := so_arr hR (a := a) (by omega)
    rw [ec]
    rw [hk] at hc
    exact W.alen (n := (am_ln h a).toInt32) (ty := .byte) hexec hb hc ((so_ty hK 2 rfl).1 _ _) (by rw [arrV_size]) rfl rfl hdg kk
/-- an element has changed -/
theorem so_Rp.elem {H' : Heap} {h' : am_H} {j : Nat} {v : Value} (hR : so_Rp D cA H0 b L xs h H) (hk : 100 ≤ am_kd h a) (e1 : am_nx h' = am_nx h) (e2 : ∀ k, am_kd h' k = am_kd h k) (e3 : ∀ k, am_ln h' k = am_ln h k) (e4 : ∀ k, k ≠ a → ∀ j ty, am_fv h' k j ty = am_fv h k j ty)
    (e5 : ∀ k, am_fv h' a k (so_at (am_kd h a)) = if k = j then v else am_fv h a k (so_at (am_kd h a)))
    (f1 : H'[so_ad H0.size b a]? = some ((arrV (cA (am_kd h a)) (am_ln h a) (fun j => so_cv H0.size b (am_fv h a j (so_at (am_kd h a))))).setSlot j (so_cv H0.size b v))) (f2 : H'.size = H.size) (f3 : ∀ q, q ≠ so_ad H0.size b a → H'[q]? = H[q]?) : so_Rp D cA H0 b L xs h' H' := by
  obtain ⟨a2, an, ec, hc⟩ := so_arr hR hk
  refine so_Rp.put hR a2 an e1 e2 e3 e4 f2 f3 ⟨fun _ g => ?_, fun g => ?_⟩
  · rw [e2] at g; omega
  · unfold so_ar
    rw [f1, e2, e3, arrV_store]
    congr 2
    funext k
    rw [e5]
    unfold updV
    by_cases hkj : k = j
    · rw [if_pos hkj, if_pos hkj]
    · rw [if_neg hkj, if_neg hkj]
theorem so_uu {α : Type} {f : Nat → Nat → α} {a j k : Nat} {v : α} : am_u f a j v a k = if k = j then v else f a k := by unfold am_u; rw [if_pos rfl]
theorem so_un {α : Type} {f : Nat → Nat → α} {a j k i : Nat} {v : α} (hk : k ≠ a) : am_u f a j v k i = f k i := by unfold am_u; rw [if_neg hk]
theorem so_fvI {a j k t : Nat} {v : Int32} (ht : t ≠ 1 ∧ t ≠ 2) : am_fv (am_sI h a j v) a k t = if k = j then .int v else am_fv h a k t := by
  match t, ht with
  | 0, _ => show Value.int (am_u (am_I h) a j v a k) = if k = j then .int v else .int (am_I h a k); rw [so_uu]; split <;> rfl
  | 1, q => exact absurd rfl q.1
  | 2, q => exact absurd rfl q.2
  | t + 3, _ => show Value.int (am_u (am_I h) a j v a k) = if k = j then .int v else .int (am_I h a k); rw [so_uu]; split <;> rfl
theorem so_fvL {a j k : Nat} {v : Int64} : am_fv (am_sL h a j v) a k 1 = if k = j then .long v else am_fv h a k 1 := by
  show Value.long (am_u (am_L h) a j v a k) = if k = j then .long v else .long (am_L h a k); rw [so_uu]; split <;> rfl
theorem so_fvR {a j k v : Nat} : am_fv (am_sR h a j v) a k 2 = if k = j then .ref v else am_fv h a k 2 := by
  show Value.ref (am_u (am_R h) a j v a k) = if k = j then .ref v else .ref (am_R h a k); rw [so_uu]; split <;> rfl
theorem so_fvI' {a j k v t : Nat} {x : Int32} (hk : k ≠ a) : am_fv (am_sI h a j x) k v t = am_fv h k v t := by
  match t with
  | 0 => exact congrArg Value.int (so_un hk)
  | 1 => rfl
  | 2 => rfl
  | t + 3 => exact congrArg Value.int (so_un hk)
theorem so_fvL' {a j k v t : Nat} {x : Int64} (hk : k ≠ a) : am_fv (am_sL h a j x) k v t = am_fv h k v t := by
  match t with
  | 0 => rfl
  | 1 => exact congrArg Value.long (so_un hk)
  | 2 => rfl
  | t + 3 => rfl
theorem so_fvR' {a j k v t x : Nat} (hk : k ≠ a) : am_fv (am_sR h a j x) k v t = am_fv h k v t := by
  match t with
  | 0 => rfl
  | 1 => rfl
  | 2 => exact congrArg Value.ref (so_un hk)
  | t + 3 => rfl
/-- an int is written where no int lies -/
theorem so_fvI2 {a j k t : Nat} {v : Int32} (ht : t = 1 ∨ t = 2) : am_fv (am_sI h a j v) a k t = am_fv h a k t := by rcases ht with rfl | rfl <;> rfl
theorem so_fvL2 {a j k t : Nat} {v : Int64} (ht : t ≠ 1) : am_fv (am_sL h a j v) a k t = am_fv h a k t := by
  match t, ht with
  | 0, _ => rfl
  | 1, q => exact absurd rfl q
  | 2, _ => rfl
  | t + 3, _ => rfl
theorem so_fvR2 {a j k t v : Nat} (ht : t ≠ 2) : am_fv (am_sR h a j v) a k t = am_fv h a k t := by
  match t, ht with
  | 0, _ => rfl
  | 1, _ => rfl
  | 2, q => exact absurd rfl q
  | t + 3, _ => rfl
theorem so_iast (hexec : p.tables.exec = Jvm.exec) (hb : c.code = cc) (hK : so_K D cA H0 b L xs s) (hR : so_Rp D cA H0 b L xs h H) (hk : am_kd h a = 100) {i x : Int32} (hi : ¬ (i < 0 ∨ am_ln h a ≤ i.toNatClampNeg)) (hlo : ∀ q ∈ locs, H0.size ≤ q.base) (hdg : decode cc pc = .ok (.iastore, 1))
    (kk : ∀ (H1 : Heap) (locs1 : List Loc), so_Rp D cA H0 b L xs (am_sI h a i.toNatClampNeg x) H1 → (∀ q ∈ locs1, H0.size ≤ q.base) → W p l e R s m args below meth c H1 locs1 cells slots Q (F0 m (pc + 1) ls rest)) : W p l e R s m args below meth c H locs cells slots Q (F0 m pc ls (.int x :: .int i :: so_cv H0.size b (.ref a) :: rest)) := by
  obtain ⟨a2, an, ec, hc⟩ := so_arr hR (a := a) (by omega)
  rw [ec]
  have hc' := hc
  rw [hk] at hc
  refine W.iast hexec hb hc ((so_ty hK 0 rfl).1 _ _) (fun q => by cases q) (by rw [arrV_size]; exact hi) rfl rfl hdg fun H1 f1 f2 f3 => ?_
  refine kk H1 _ (so_Rp.elem (v := .int x) hR (a := a) (by omega) rfl (fun _ => rfl) (fun _ => rfl) (fun k hk j t => so_fvI' hk) (fun k => by rw [hk]; exact so_fvI (by decide)) (by rw [hk]; exact f1) f2 f3) (t_lc (free := fun x => H0.size ≤ x) hlo (by rw [so_ad_2 a2]; omega))
theorem so_last (hexec : p.tables.exec = Jvm.exec) (hb : c.code = cc) (hK : so_K D cA H0 b L xs s) (hR : so_Rp D cA H0 b L xs h H) (hk : am_kd h a = 101) {i : Int32} {x : Int64} (hi : ¬ (i < 0 ∨ am_ln h a ≤ i.toNatClampNeg)) (hlo : ∀ q ∈ locs, H0.size ≤ q.base) (hdg : decode cc pc = .ok (.lastore, 1))
    (kk : ∀ (H1 : Heap) (locs1 : List Loc), so_Rp D cA H0 b L xs (am_sL h a i.toNatClampNeg x) H1 → (∀ q ∈ locs1, H0.size ≤ q.base) → W p l e R s m args below meth c H1 locs1 cells slots Q (F0 m (pc + 1) ls rest)) : W p l e R s m args below meth c H locs cells slots Q (F0 m pc ls (.long x :: .int i :: so_cv H0.size b (.ref a) :: rest)) := by
  obtain ⟨a2, an, ec, hc⟩ := so_arr hR (a := a) (by omega)
  rw [ec]
  rw [hk] at hc
  refine W.last hexec hb hc ((so_ty hK 1 rfl).1 _ _) (fun q => by cases q) (by rw [arrV_size]; exact hi) rfl rfl hdg fun H1 f1 f2 f3 => ?_
  refine kk H1 _ (so_Rp.elem (v := .long x) hR (a := a) (by omega) rfl (fun _ => rfl) (fun _ => rfl) (fun k hk j t => so_fvL' hk) (fun k => by rw [hk]; exact so_fvL) (by rw [hk]; exact f1) f2 f3) (t_lc (free := fun x => H0.size ≤ x) hlo (by rw [so_ad_2 a2]; omega))
theorem so_bast (hexec : p.tables.exec = Jvm.exec) (hb : c.code = cc) (hK : so_K D cA H0 b L xs s) (hR : so_Rp D cA H0 b L xs h H) (hk : am_kd h a = 102) {i x : Int32} (hi : ¬ (i < 0 ∨ am_ln h a ≤ i.toNatClampNeg)) (hlo : ∀ q ∈ locs, H0.size ≤ q.base) (hdg : decode cc pc = .ok (.bastore, 1))
    (kk : ∀ (H1 : Heap) (locs1 : List Loc), so_Rp D cA H0 b L xs (am_sI h a i.toNatClampNeg (am_b8 x)) H1 → (∀ q ∈ locs1, H0.size ≤ q.base) → W p l e R s m args below meth c H1 locs1 cells slots Q (F0 m (pc + 1) ls rest)) : W p l e R s m args below meth c H locs cells slots Q (F0 m pc ls (.int x :: .int i :: so_cv H0.size b (.ref a) :: rest)) := by
  obtain ⟨a2, an, ec, hc⟩ := so_arr hR (a := a) (by omega)
  rw [ec]
  rw [hk] at hc
  refine W.bast hexec hb hc ((so_ty hK 2 rfl).1 _ _) (fun q => by cases q) (by rw [arrV_size]; exact hi) rfl rfl hdg fun H1 f1 f2 f3 => ?_
  refine kk H1 _ (so_Rp.elem (v := .int (am_b8 x)) hR (a := a) (by omega) rfl (fun _ => rfl) (fun _ => rfl) (fun k hk j t => so_fvI' hk) (fun k => by rw [hk]; exact so_fvI (by decide)) (by rw [hk]; exact f1) f2 f3) (t_lc (free := fun x => H0.size ≤ x) hlo (by rw [so_ad_2 a2]; omega))
theorem so_zast (hexec : p.tables.exec = Jvm.exec) (hb : c.code = cc) (hK : so_K D cA H0 b L xs s) (hR : so_Rp D cA H0 b L xs h H) (hk : am_kd h a = 103) {i x : Int32} (hi : ¬ (i < 0 ∨ am_ln h a ≤ i.toNatClampNeg)) (hlo : ∀ q ∈ locs, H0.size ≤ q.base) (hdg : decode cc pc = .ok (.bastore, 1))
    (kk : ∀ (H1 : Heap) (locs1 : List Loc), so_Rp D cA H0 b L xs (am_sI h a i.toNatClampNeg (x &&& 1)) H1 → (∀ q ∈ locs1, H0.size ≤ q.base) → W p l e R s m args below meth c H1 locs1 cells slots Q (F0 m (pc + 1) ls rest)) : W p l e R s m args below meth c H locs cells slots Q (F0 m pc ls (.int x :: .int i :: so_cv H0.size b (.ref a) :: rest)) := by
  obtain ⟨a2, an, ec, hc⟩ := so_arr hR (a := a) (by omega)
  rw [ec]
  rw [hk] at hc
  refine W.zast hexec hb hc ((so_ty hK 3 rfl).1 _ _) (fun q => by cases q) (by rw [arrV_size]; exact hi) rfl rfl hdg fun H1 f1 f2 f3 => ?_
  refine kk H1 _ (so_Rp.elem (v := .int (x &&& 1)) hR (a := a) (by omega) rfl (fun _ => rfl) (fun _ => rfl) (fun k hk j t => so_fvI' hk) (fun k => by rw [hk]; exact so_fvI (by decide)) (by rw [hk]; exact f1) f2 f3) (t_lc (free := fun x => H0.size ≤ x) hlo (by rw [so_ad_2 a2]; omega))
end SOA
