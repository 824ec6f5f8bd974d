theorem so_at_TB {w : Cond} {i : Nat} (h : lw_tbl[i]? = some w) (hg : goodWord w = true) : w ∈ so_TB := so_TB_in (List.mem_of_getElem? h) hg
theorem nm_po_ok : (nm_po.all fun l => l.all fun q => decide (lw_tbl[q.2.2]? = some q.2.1) && goodWord q.2.1) = true := by decide +kernel
theorem so_lk_mem : ∀ (l : List (Nat × Cond × Nat)) {i : Nat} {w : Cond}, so_lk l i = some w → ∃ j, (i, w, j) ∈ l
  | [], _, _, h => by cases h
  | q :: l, i, w, h => by
    unfold so_lk at h
    split at h
    · rename_i hq
      cases h
      exact ⟨q.2.2, by rw [← hq]; exact List.mem_cons_self⟩
    · obtain ⟨j, hj⟩ := so_lk_mem l h
      exact ⟨j, List.mem_cons_of_mem _ hj⟩
theorem so_pl_mem {c i : Nat} {w : Cond} (h : so_pl c i = some w) : w ∈ so_TB := by
  obtain ⟨j, hj⟩ := so_lk_mem _ h
  have h1 : nm_po.getD c [] ∈ nm_po := by
    by_cases hc : c < nm_po.length
    · rw [List.getD_eq_getElem?_getD, List.getElem?_eq_getElem hc]
      exact List.getElem_mem hc
    · rw [List.getD_eq_getElem?_getD, List.getElem?_eq_none (by omega)] at hj
      cases hj
  have h2 := List.all_eq_true.mp (List.all_eq_true.mp nm_po_ok _ h1) _ hj
  simp only [Bool.and_eq_true, decide_eq_true_eq] at h2
  exact so_at_TB h2.1 h2.2
theorem nm_pn_ok : (nm_pn.all fun q => decide (q.2.2 ∈ so_NS)) = true := by decide +kernel
theorem so_ln_mem : ∀ (l : List (Nat × Nat × Cond)) {c i : Nat} {w : Cond}, so_ln l c i = some w → (c, i, w) ∈ l
  | [], _, _, _, h => by cases h
  | q :: l, c, i, w, h => by
    unfold so_ln at h
    split at h
    · rename_i hq
      cases h
      obtain ⟨h1, h2⟩ := hq
      subst h1; subst h2
      exact List.mem_cons_self
    · exact List.mem_cons_of_mem _ (so_ln_mem l h)
theorem so_pn_mem {c i : Nat} {w : Cond} (h : so_ln nm_pn c i = some w) : w ∈ so_NS := by
  have h2 := List.all_eq_true.mp nm_pn_ok _ (so_ln_mem _ h)
  simpa using h2
theorem nm_same_ok : (nm_same.all fun q => decide (lw_tbl[q.2]? = some q.1) && goodWord q.1) = true := by decide +kernel
theorem so_same_mem {w : Cond} (h : w ∈ nm_same.map (·.1)) : w ∈ so_TB := by
  obtain ⟨q, hq, rfl⟩ := List.mem_map.mp h
  have h2 := List.all_eq_true.mp nm_same_ok _ hq
  simp only [Bool.and_eq_true, decide_eq_true_eq] at h2
  exact so_at_TB h2.1 h2.2
theorem nm_dy_ok : (nm_dy.all fun q => decide (lw_tbl[q.2]? = some q.1) && goodWord q.1) = true := by decide +kernel
theorem so_dy_mem {w : Cond} (h : w ∈ nm_dy.map (·.1)) : w ∈ so_TB := by
  obtain ⟨q, hq, rfl⟩ := List.mem_map.mp h
  have h2 := List.all_eq_true.mp nm_dy_ok _ hq
  simp only [Bool.and_eq_true, decide_eq_true_eq] at h2
  exact so_at_TB h2.1 h2.2
def so_cd (μ : so_I) : Cond := match μ.2.2.2.2.1 with
  | [] => .code μ.1 μ.2.1 μ.2.2.1 μ.2.2.2.1
  | q :: l => .codeWith μ.1 μ.2.1 μ.2.2.1 μ.2.2.2.1 (q :: l)
abbrev so_fr (μ : so_I) : Nat := μ.2.2.2.2.2.2.2.1
abbrev so_lo (μ : so_I) : Nat := μ.2.2.2.2.2.2.2.2
abbrev so_ow (μ : so_I) : String := μ.2.2.2.2.2.1
abbrev so_on (μ : so_I) : Nat := μ.2.2.2.2.2.2.1
/-- what is checked of a method that is called -/
def so_mw (m : Nat) : Bool := match nm_mw[m]? with
  | none => false
  | some (ic, k2, i2, i3, i4) =>
    let μ := nm_mi m
    decide (lw_tbl[ic]? = some (so_cd μ)) && decide (lw_tbl[i4]? = some (.initialized μ.1.cls)) && decide (so_ow μ = μ.1.cls) && plainName μ.1.cls &&
    decide (μ.1.cls ≠ "java/lang/invoke/MethodHandle" ∧ μ.1.cls ≠ "java/lang/invoke/VarHandle") &&
    (match k2 with
    | 0 => decide (lw_tbl[i2]? = some (.static μ.1))
    | _ => decide (lw_tbl[i2]? = some (.instanceMethod μ.1)) && (decide (μ.1.name = "<init>") || decide (lw_tbl[i3]? = some (.selects μ.1.cls μ.1 μ.1))))
/-- what is checked of the classes -/
def so_cw (i : Nat) : Bool := match nm_cl[i]?, nm_cw[i]?, nm_fw[i]? with
  | some (C, T, N), some (a, b), some fw =>
    decide (lw_tbl[a]? = some (.instantiable C N)) && decide (lw_tbl[b]? = some (.initialized C)) && decide (fw.length = N) &&
    ((List.range N).all fun k => decide (lw_tbl[fw.getD k 0]? = some (u_lay C T k)) && goodWord (u_lay C T k) && decide (parseFieldDescriptor (T k).2.2.1 = some (nm_ty i k)) &&
      ((List.range N).all fun j => decide (k = j) || decide ((T k).2.1 ≠ (T j).2.1)) &&
      (match nm_ty i k with
       | .int | .long | .boolean | .byte | .object _ | .array _ => true
       | _ => false))
  | _, _, _ => false
theorem so_cw_ok : ((List.range nm_cl.length).all so_cw) = true := by decide +kernel
def so_ckf (μ : so_I) (idx x kd y : Nat) : Bool := match so_pl (so_on μ) idx with
  | some (.fieldLink o i ref n d) => decide (o = so_ow μ) && decide (i = idx) && decide (kd ≠ 0) && decide (kd < 99) && (match nm_cl[kd - 1]? with
    | some (_, T, N) => decide (x < N) && decide ((T x).2.1 = n) && decide ((T x).2.2.1 = d) && (decide ((T x).1 = ref) || decide (Cond.sameField ref (T x).1 n d ∈ nm_same.map (·.1))) && decide (so_tg (nm_ty (kd - 1) x) = y)
    | none => false)
  | _ => false
def so_ckp (μ : so_I) (x kd y : Nat) : Bool := match nm_cl[kd - 1]? with
  | some (_, T, _) => (decide ((T x).2.2.2 = false) || (decide (μ.1.name = "<init>") && decide ((T x).1 = so_ow μ))) && (match y with
    | 0 => decide (nm_ty (kd - 1) x = .int)
    | 1 => decide (nm_ty (kd - 1) x = .long)
    | 3 => decide (nm_ty (kd - 1) x = .boolean)
    | _ => true)
  | none => false
def so_pn (d : String) : Option Nat := (parseMethodDescriptor d).map fun q => q.parameters.length
def so_cke (μ : so_I) (x : Nat) : Bool := decide (x < nm_n) && decide (so_fr (nm_mi x) + 1 ≤ so_fr μ) && decide (8 + ((nm_mi x).2.2.1 + 11) + so_lo (nm_mi x) ≤ so_lo μ)
/-- .. of a throw: new, dup, ldc, invokespecial, athrow -/
def so_ckx (μ : so_I) (i pc x z w : Nat) (v : Value) : Bool := match v with
  | .ref ic => decide (x < 3) && decide (μ.2.2.2.2.1 = []) && decide (6 ≤ so_fr μ) && decide (91 ≤ so_lo μ) &&
    decide (so_pl (so_on μ) i = some (.classLink (so_ow μ) i (so_ex x))) &&
    decide (so_pl (so_on μ) ic = some (.methodLink (so_ow μ) ic ⟨(so_ex x), "<init>", "(Ljava/lang/String;)V"⟩)) &&
    decide (decode μ.2.1 (pc + 3) = .ok (.dup, 1)) && (match z with
      | 2 => decide (decode μ.2.1 (pc + 4) = .ok (.ldc w, 2))
      | _ => decide (z = 3) && decide (decode μ.2.1 (pc + 4) = .ok (.ldc_w w, 3))) &&
    decide (decode μ.2.1 (pc + 4 + z) = .ok (.invokespecial ic, 3)) && decide (decode μ.2.1 (pc + 7 + z) = .ok (.athrow, 1)) && nm_str.any (fun q => decide (q.1 = so_ow μ) && decide (q.2.1 = w))
  | _ => false
/-- WHAT IS CHECKED OF AN INSTRUCTION -/
def so_ck (μ : so_I) (pc : Nat) (e : am_E) : Bool := match e with
  | (i, len, x, y, z, w, v) => (match i with
    | .nop => true
    | _ => decide (decode μ.2.1 pc = .ok (i, len))) && (match i with
    | .nop => true
    | .iconst n => decide (len = 1) && decide (v = .int (Int32.ofInt n))
    | .bipush n => decide (len = 2) && decide (v = .int (Int8.ofInt n).toInt32)
    | .sipush n => decide (len = 3) && decide (v = .int (Int16.ofInt n).toInt32)
    | .lconst n => decide (len = 1) && decide (v = .long (Int64.ofNat n))
    | .aconst_null => false
    | .ldc i => decide (len = 2) && (match so_pl (so_on μ) i, v with
      | some (.constant o j k), .int q => decide (o = so_ow μ) && decide (j = i) && decide (k = q)
      | _, _ => false)
    | .ldc_w i => decide (len = 3) && (match so_pl (so_on μ) i, v with
      | some (.constant o j k), .int q => decide (o = so_ow μ) && decide (j = i) && decide (k = q)
      | _, _ => false)
    | .ldc2_w i => decide (len = 3) && (match so_pl (so_on μ) i, v with
      | some (.constantLong o j k), .long q => decide (o = so_ow μ) && decide (j = i) && decide (k = q)
      | _, _ => false)
    | .iload n | .lload n | .aload n => decide (len = 2) && decide (x = n)
    | .iload_n n | .lload_n n | .aload_n n => decide (len = 1) && decide (x = (n : Nat))
    | .istore n | .astore n => decide (len = 2) && decide (x = n) && decide (x < μ.2.2.1)
    | .lstore n => decide (len = 2) && decide (x = n) && decide (x + 1 < μ.2.2.1)
    | .istore_n n | .astore_n n => decide (len = 1) && decide (x = (n : Nat)) && decide (x < μ.2.2.1)
    | .lstore_n n => decide (len = 1) && decide (x = (n : Nat)) && decide (x + 1 < μ.2.2.1)
    | .iinc n k => decide (len = 3) && decide (x = n) && decide (x < μ.2.2.1) && decide (v = .int (Int32.ofInt k))
    | .goto off | .ifCond _ off | .if_icmp _ off => decide (len = 3) && decide ((pc : Int) + off = (x : Int))
    | .tableswitch d lo hi offs => decide ((pc : Int) + d = (x : Int)) && decide (lo = 0) && decide (v = .int 0) && decide (hi + 1 = (offs.size : Int)) && decide (offs.size < 1000) && offs.toList.all (fun o => decide (0 ≤ (pc : Int) + o))
    | .getfield i => decide (len = 3) && so_ckf μ i x z y && so_ckf μ i x w y
    | .putfield i => decide (len = 3) && so_ckf μ i x z (if y = 3 then 0 else y) && so_ckf μ i x w (if y = 3 then 0 else y) && so_ckp μ x z y && so_ckp μ x w y
    | .new i => decide (len = 3) && (match y with
      | 0 => decide (x ≠ 0) && decide (x < 99) && (match so_pl (so_on μ) i, nm_cl[x - 1]? with
        | some (.classLink o j C), some (C', _, N) => decide (o = so_ow μ) && decide (j = i) && decide (C = C') && decide (z = N)
        | _, _ => false)
      | _ => so_ckx μ i pc x z w v)
    | .newarray t => decide (len = 2) && decide (x = match t with
      | .int => 100
      | .long => 101
      | .byte => 102
      | .boolean => 103
      | _ => 0) && decide (x ≠ 0)
    | .anewarray i => decide (len = 3) && decide (200 ≤ x) && decide (x - 200 < nm_el.length) && (match so_pl (so_on μ) i with
      | some (.classLink o j C) => decide (o = so_ow μ) && decide (j = i) && decide (C = nm_el.getD (x - 200) "")
      | _ => false)
    | .aastore => decide (len = 1) && decide (200 ≤ z) && decide (z - 200 < nm_el.length) && ([x, y].all fun kd => decide (kd ≠ 0) && decide (kd < 99) && (match nm_cl[kd - 1]? with
      | some (C, _, _) => decide (C = nm_el.getD (z - 200) "") || decide (Cond.castable C (nm_el.getD (z - 200) "") ∈ so_NS)
      | none => false))
    | .invokestatic i => decide (len = 3) && (match z with
      | 1 => decide (so_pl (so_on μ) i = some (.methodLink (so_ow μ) i Lib.Math.max.name)) && decide (1 ≤ so_fr μ) && decide (21 ≤ so_lo μ)
      | 2 => decide (so_pl (so_on μ) i = some (.methodLink (so_ow μ) i Lib.Math.min.name)) && decide (1 ≤ so_fr μ) && decide (21 ≤ so_lo μ)
      | _ => so_cke μ x && decide (so_pl (so_on μ) i = some (.methodLink (so_ow μ) i (nm_mi x).1)) && decide ((nm_mw[x]?).map (·.2.1) = some 0) && decide (so_pn (nm_mi x).1.desc = some y))
    | .invokespecial i => decide (len = 3) && (match w with
      | 1 => decide (so_pl (so_on μ) i = some (.methodLink (so_ow μ) i objectInit)) && decide (1 ≤ so_fr μ) && decide (20 ≤ so_lo μ)
      | _ => so_cke μ x && decide ((nm_mi x).1.name = "<init>") && decide ((nm_mw[x]?).map (·.2.1) = some 1) && decide ((so_pn (nm_mi x).1.desc).map (· + 1) = some y) && decide (z ≠ 0) && decide (z < 99) &&
        (decide (so_pl (so_on μ) i = some (.methodLink (so_ow μ) i (nm_mi x).1)) || decide (so_ln nm_pn (so_on μ) i = some (.methodLinkNest (so_ow μ) i (nm_mi x).1 "SortedRuns"))))
    | .invokevirtual i => decide (len = 3) && decide (z ≠ 0) && decide (z < 99) && so_cke μ x && decide ((nm_mw[x]?).map (·.2.1) = some 1) && decide ((nm_mi x).1.name ≠ "<init>") && decide ((so_pn (nm_mi x).1.desc).map (· + 1) = some y) && (match nm_cl[z - 1]? with
      | some (C, _, _) => decide (C = (nm_mi x).1.cls)
      | none => false) && (match v with
      | .ref m => decide (w ≠ 0) && decide (w < 99) && so_cke μ m && decide ((nm_mw[m]?).map (·.2.1) = some 1) && decide ((nm_mi m).1.name ≠ "<init>") && decide ((so_pn (nm_mi m).1.desc).map (· + 1) = some y) && (match nm_cl[w - 1]?, so_pl (so_on μ) i with
        | some (C, _, _), some (.methodLink o j q) => decide (C = (nm_mi m).1.cls) && decide (o = so_ow μ) && decide (j = i) && decide (Cond.declares q ∈ so_NS) && decide (Cond.selects (nm_mi x).1.cls q (nm_mi x).1 ∈ nm_dy.map (·.1)) && decide (Cond.selects (nm_mi m).1.cls q (nm_mi m).1 ∈ nm_dy.map (·.1)) && decide (so_pn q.desc = so_pn (nm_mi x).1.desc) && decide (q.cls ≠ "java/lang/invoke/MethodHandle" ∧ q.cls ≠ "java/lang/invoke/VarHandle")
        | _, _ => false)
      | _ => decide (so_pl (so_on μ) i = some (.methodLink (so_ow μ) i (nm_mi x).1)))
    | .ireturn => decide (len = 1) && (match μ.2.2.2.1 with
      | some .int => true
      | some .boolean => decide (x = 1)
      | _ => false)
    | .lreturn => decide (len = 1) && decide (μ.2.2.2.1 = some .long)
    | .areturn => decide (len = 1) && (match μ.2.2.2.1 with
      | some (.object _) => true
      | _ => false)
    | .return_ => decide (len = 1) && decide (μ.2.2.2.1 = none)
    | _ => decide (len = 1))
def so_ckl (μ : so_I) : Nat → List am_E → Bool
  | _, [] => true
  | pc, e :: l => so_ck μ pc e && so_ckl μ (pc + 1) l
def so_ckt (μ : so_I) : Nat → List (List am_E) → Bool
  | _, [] => true
  | pc, r :: t => so_ckl μ pc r && so_ckt μ (pc + 16) t
def so_hk : List (Nat × Nat × Nat × Nat) → List (Nat × Nat × Nat × Nat) → Nat → Bool
  | [], [], _ => true
  | (a, b, t, i) :: l, (a', b', t', k) :: l', o => decide (a = a') && decide (b = b') && decide (t = t') && decide (so_pl o i = some (.classLink "SortedRunsLaw" i (so_ex k))) && decide (k < 3) && so_hk l l' o
  | _, _, _ => false
def so_ckm (m : Nat) : Bool := so_ckt (nm_mi m) 0 (nm_pr m).1 && decide ((nm_pr m).2.1 = (nm_mi m).2.2.1) && so_hk (nm_mi m).2.2.2.2.1 (nm_pr m).2.2 (so_on (nm_mi m))
def am_dr (q n : Nat) (T : List (List am_E)) : List (List am_E) := (T.drop q).take n
theorem so_ckt_nil {μ : so_I} {pc : Nat} : so_ckt μ pc [] = true := rfl
theorem so_ckt_append {μ : so_I} : ∀ (A B : List (List am_E)) (pc : Nat), so_ckt μ pc A = true → so_ckt μ (pc + 16 * A.length) B = true → so_ckt μ pc (A ++ B) = true
  | [], B, pc, _, h => by simpa using h
  | r :: A, B, pc, h1, h2 => by
    simp only [so_ckt, Bool.and_eq_true, List.cons_append] at h1 ⊢
    refine ⟨h1.1, so_ckt_append A B (pc + 16) h1.2 ?_⟩
    rw [← h2]
    congr 1
    simp only [List.length_cons]
    omega
theorem so_ckt_app {μ : so_I} {T : List (List am_E)} (q n : Nat) (h1 : so_ckt μ (16 * q) (am_dr q n T) = true) (h2 : so_ckt μ (16 * (q + n)) (T.drop (q + n)) = true) : so_ckt μ (16 * q) (T.drop q) = true := by
  have e : T.drop q = am_dr q n T ++ T.drop (q + n) := by
    unfold am_dr
    rw [← List.drop_drop, List.take_append_drop]
  by_cases hl : (am_dr q n T).length = n
  · rw [e]
    refine so_ckt_append _ _ _ h1 ?_
    rw [hl, ← h2]
    congr 1
    omega
  · have hd : T.drop (q + n) = [] := by
      apply List.drop_eq_nil_of_le
      unfold am_dr at hl
      simp only [List.length_take, List.length_drop] at hl
      omega
    rw [e, hd, List.append_nil]
    exact h1
theorem so_ckm_of {m : Nat} (μ : so_I) (M : am_M) (e1 : nm_mi m = μ) (e2 : nm_pr m = M) (h1 : so_ckt μ (16 * 0) (M.1.drop 0) = true) (h2 : (decide (M.2.1 = μ.2.2.1) && so_hk μ.2.2.2.2.1 M.2.2 (so_on μ)) = true) : so_ckm m = true := by
  unfold so_ckm
  rw [e1, e2]
  simp only [Bool.and_eq_true] at h2 ⊢
  exact ⟨⟨by simpa using h1, h2.1⟩, h2.2⟩
