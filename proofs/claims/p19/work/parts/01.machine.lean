/-! THE ABSTRACT MACHINE. Values: Value.int x, Value.long x, Value.ref k (k = 0: null), Value.retAddr 0 (nothing known). A heap is a tuple of plain functions. -/
abbrev am_H : Type := Nat × Nat × Nat × (Nat → Nat) × (Nat → Nat) × (Nat → Nat → Int32) × (Nat → Nat → Int64) × (Nat → Nat → Nat)
abbrev am_nx (h : am_H) : Nat := h.1
abbrev am_ce (h : am_H) : Nat := h.2.1
abbrev am_sl (h : am_H) : Nat := h.2.2.1
abbrev am_kd (h : am_H) : Nat → Nat := h.2.2.2.1
abbrev am_ln (h : am_H) : Nat → Nat := h.2.2.2.2.1
abbrev am_I (h : am_H) : Nat → Nat → Int32 := h.2.2.2.2.2.1
abbrev am_L (h : am_H) : Nat → Nat → Int64 := h.2.2.2.2.2.2.1
abbrev am_R (h : am_H) : Nat → Nat → Nat := h.2.2.2.2.2.2.2
def am_u {α : Type} (f : Nat → Nat → α) (a j : Nat) (v : α) : Nat → Nat → α := fun a' j' => if a' = a then (if j' = j then v else f a' j') else f a' j'
def am_u1 {α : Type} (f : Nat → α) (a : Nat) (v : α) : Nat → α := fun a' => if a' = a then v else f a'
def am_z {α : Type} (f : Nat → Nat → α) (a : Nat) (v : α) : Nat → Nat → α := fun a' j' => if a' = a then v else f a' j'
def am_sI (h : am_H) (a j : Nat) (v : Int32) : am_H := (am_nx h, am_ce h, am_sl h, am_kd h, am_ln h, am_u (am_I h) a j v, am_L h, am_R h)
def am_sL (h : am_H) (a j : Nat) (v : Int64) : am_H := (am_nx h, am_ce h, am_sl h, am_kd h, am_ln h, am_I h, am_u (am_L h) a j v, am_R h)
def am_sR (h : am_H) (a j : Nat) (v : Nat) : am_H := (am_nx h, am_ce h, am_sl h, am_kd h, am_ln h, am_I h, am_L h, am_u (am_R h) a j v)
/-- a new cell of kind k, n long, s slots -/
def am_al (h : am_H) (k n s : Nat) : am_H := (am_nx h + 1, am_ce h + 1, am_sl h + s, am_u1 (am_kd h) (am_nx h) k, am_u1 (am_ln h) (am_nx h) n, am_z (am_I h) (am_nx h) 0, am_z (am_L h) (am_nx h) 0, am_z (am_R h) (am_nx h) 0)
/-- pc, locals, stack, heap -/
abbrev am_C : Type := Nat × List Value × List Value × am_H
/-- returned (a value or none), or threw (kind, address) -/
abbrev am_O : Type := Option Value ⊕ (Nat × Nat)
/-- an instruction as it is resolved: itself, its length, four numbers, a value -/
abbrev am_E : Type := Instr × Nat × Nat × Nat × Nat × Nat × Value
def am_j : Value := .retAddr 0
def am_nth : List Value → Nat → Value
  | [], _ => .retAddr 0
  | v :: _, 0 => v
  | _ :: l, n + 1 => am_nth l n
def am_set : List Value → Nat → Value → List Value
  | [], _, _ => []
  | _ :: l, 0, v => v :: l
  | w :: l, n + 1, v => w :: am_set l n v
def am_kill (v : Value) : Value := match v with
  | .long _ => .retAddr 0
  | v => v
def am_kl (l : List Value) (i : Nat) : List Value := match i with
  | 0 => l
  | n + 1 => am_set l n (am_kill (am_nth l n))
def am_st1 (l : List Value) (i : Nat) (v : Value) : List Value := am_set (am_kl l i) i v
def am_st2 (l : List Value) (i : Nat) (v : Value) : List Value := am_set (am_set (am_kl l i) i v) (i + 1) (.retAddr 0)
/-- the locals at a method's entry -/
def am_as : List Value → List Value
  | [] => []
  | .long x :: l => .long x :: .retAddr 0 :: am_as l
  | v :: l => v :: am_as l
def am_pad : Nat → List Value → List Value
  | 0, _ => []
  | n + 1, [] => .retAddr 0 :: am_pad n []
  | n + 1, v :: l => v :: am_pad n l
def am_en (args : List Value) (n : Nat) : List Value := am_pad n (am_as args)
/-- a switch by its targets -/
def am_sw {α : Type} (x : Int32) (k : Nat → α) (d : Nat) : Int32 → List Nat → α
  | _, [] => k d
  | lo, t :: ts => if x = lo then k t else am_sw x k d (lo + 1) ts
/-- a field's or an element's value by its type: 0 int, 1 long, 2 reference -/
def am_fv (h : am_H) (a j ty : Nat) : Value := match ty with
  | 1 => .long (am_L h a j)
  | 2 => .ref (am_R h a j)
  | _ => .int (am_I h a j)
def am_mx (x y : Int32) : Int32 := if x < y then y else x
def am_mn (x y : Int32) : Int32 := if y < x then y else x
def am_b8 (x : Int32) : Int32 := x.toInt8.toInt32
/-- what is left of n values on the stack, and these in order -/
def am_tk : Nat → List Value → List Value → Option (List Value × List Value)
  | 0, acc, st => some (acc, st)
  | _ + 1, _, [] => none
  | n + 1, acc, v :: st => am_tk n (v :: acc) st
def am_wt : List Value → Nat
  | [] => 0
  | .long _ :: l => am_wt l + 2
  | .double _ :: l => am_wt l + 2
  | _ :: l => am_wt l + 1
/-- ONE INSTRUCTION, with a continuation for each way that it may go on: the next instruction, a call, an end; 'no': it does not go on here -/
def am_stp {α : Type} (k : am_C → α) (kc : Nat → List Value → am_C → α) (kr : am_O → am_H → α) (no : α) (e : am_E) (c : am_C) : α :=
  match e, c with
  | (i, len, x, y, z, w, v), (pc, ls, st, h) =>
  match i with
  | .iconst _ | .bipush _ | .sipush _ | .lconst _ | .ldc _ | .ldc_w _ | .ldc2_w _ | .aconst_null => k (pc + len, ls, v :: st, h)
  | .iload _ | .iload_n _ => match am_nth ls x with
    | .int a => k (pc + len, ls, .int a :: st, h)
    | _ => no
  | .lload _ | .lload_n _ => match am_nth ls x with
    | .long a => k (pc + len, ls, .long a :: st, h)
    | _ => no
  | .aload _ | .aload_n _ => match am_nth ls x with
    | .ref a => k (pc + len, ls, .ref a :: st, h)
    | _ => no
  | .istore _ | .istore_n _ => match st with
    | .int a :: st => k (pc + len, am_st1 ls x (.int a), st, h)
    | _ => no
  | .lstore _ | .lstore_n _ => match st with
    | .long a :: st => k (pc + len, am_st2 ls x (.long a), st, h)
    | _ => no
  | .astore _ | .astore_n _ => match st with
    | .ref a :: st => k (pc + len, am_st1 ls x (.ref a), st, h)
    | _ => no
  | .iinc _ _ => match am_nth ls x, v with
    | .int a, .int b => k (pc + len, am_st1 ls x (.int (a + b)), st, h)
    | _, _ => no
  | .iadd => match st with
    | .int b :: .int a :: st => k (pc + len, ls, .int (a + b) :: st, h)
    | _ => no
  | .isub => match st with
    | .int b :: .int a :: st => k (pc + len, ls, .int (a - b) :: st, h)
    | _ => no
  | .imul => match st with
    | .int b :: .int a :: st => k (pc + len, ls, .int (a * b) :: st, h)
    | _ => no
  | .idiv => match st with
    | .int b :: .int a :: st => if b = 0 then no else k (pc + len, ls, .int (a / b) :: st, h)
    | _ => no
  | .irem => match st with
    | .int b :: .int a :: st => if b = 0 then no else k (pc + len, ls, .int (a - a / b * b) :: st, h)
    | _ => no
  | .iand => match st with
    | .int b :: .int a :: st => k (pc + len, ls, .int (a &&& b) :: st, h)
    | _ => no
  | .ior => match st with
    | .int b :: .int a :: st => k (pc + len, ls, .int (a ||| b) :: st, h)
    | _ => no
  | .ixor => match st with
    | .int b :: .int a :: st => k (pc + len, ls, .int (a ^^^ b) :: st, h)
    | _ => no
  | .ishl => match st with
    | .int b :: .int a :: st => k (pc + len, ls, .int (a <<< (b &&& 31)) :: st, h)
    | _ => no
  | .ishr => match st with
    | .int b :: .int a :: st => k (pc + len, ls, .int (a >>> (b &&& 31)) :: st, h)
    | _ => no
  | .iushr => match st with
    | .int b :: .int a :: st => k (pc + len, ls, .int (a.toUInt32 >>> (b.toUInt32 &&& Int32.toUInt32 31)).toInt32 :: st, h)
    | _ => no
  | .ladd => match st with
    | .long b :: .long a :: st => k (pc + len, ls, .long (a + b) :: st, h)
    | _ => no
  | .lsub => match st with
    | .long b :: .long a :: st => k (pc + len, ls, .long (a - b) :: st, h)
    | _ => no
  | .lmul => match st with
    | .long b :: .long a :: st => k (pc + len, ls, .long (a * b) :: st, h)
    | _ => no
  | .land => match st with
    | .long b :: .long a :: st => k (pc + len, ls, .long (a &&& b) :: st, h)
    | _ => no
  | .lor => match st with
    | .long b :: .long a :: st => k (pc + len, ls, .long (a ||| b) :: st, h)
    | _ => no
  | .lxor => match st with
    | .long b :: .long a :: st => k (pc + len, ls, .long (a ^^^ b) :: st, h)
    | _ => no
  | .lneg => match st with
    | .long a :: st => k (pc + len, ls, .long (-a) :: st, h)
    | _ => no
  | .lushr => match st with
    | .int b :: .long a :: st => k (pc + len, ls, .long (a.toUInt64 >>> (b.toInt64.toUInt64 &&& Int64.toUInt64 63)).toInt64 :: st, h)
    | _ => no
  | .lshl => match st with
    | .int b :: .long a :: st => k (pc + len, ls, .long (a <<< (b.toInt64 &&& 63)) :: st, h)
    | _ => no
  | .i2l => match st with
    | .int a :: st => k (pc + len, ls, .long a.toInt64 :: st, h)
    | _ => no
  | .l2i => match st with
    | .long a :: st => k (pc + len, ls, .int a.toInt32 :: st, h)
    | _ => no
  | .i2b => match st with
    | .int a :: st => k (pc + len, ls, .int (am_b8 a) :: st, h)
    | _ => no
  | .lcmp => match st with
    | .long b :: .long a :: st => k (pc + len, ls, .int (if a < b then -1 else if a = b then 0 else 1) :: st, h)
    | _ => no
  | .dup => match st with
    | .int a :: st => k (pc + len, ls, .int a :: .int a :: st, h)
    | .ref a :: st => k (pc + len, ls, .ref a :: .ref a :: st, h)
    | _ => no
  | .dup2 => match st with
    | .int b :: .ref a :: st => k (pc + len, ls, .int b :: .ref a :: .int b :: .ref a :: st, h)
    | .long a :: st => k (pc + len, ls, .long a :: .long a :: st, h)
    | _ => no
  | .pop => match st with
    | .int _ :: st => k (pc + len, ls, st, h)
    | .ref _ :: st => k (pc + len, ls, st, h)
    | _ => no
  | .goto _ => k (x, ls, st, h)
  | .ifCond cd _ => match st with
    | .int a :: st => match cd with
      | .eq => if a = 0 then k (x, ls, st, h) else k (pc + len, ls, st, h)
      | .ne => if a = 0 then k (pc + len, ls, st, h) else k (x, ls, st, h)
      | .lt => if a < 0 then k (x, ls, st, h) else k (pc + len, ls, st, h)
      | .ge => if a < 0 then k (pc + len, ls, st, h) else k (x, ls, st, h)
      | .gt => if 0 < a then k (x, ls, st, h) else k (pc + len, ls, st, h)
      | .le => if 0 < a then k (pc + len, ls, st, h) else k (x, ls, st, h)
    | _ => no
  | .if_icmp cd _ => match st with
    | .int b :: .int a :: st => match cd with
      | .eq => if a = b then k (x, ls, st, h) else k (pc + len, ls, st, h)
      | .ne => if a = b then k (pc + len, ls, st, h) else k (x, ls, st, h)
      | .lt => if a < b then k (x, ls, st, h) else k (pc + len, ls, st, h)
      | .ge => if a < b then k (pc + len, ls, st, h) else k (x, ls, st, h)
      | .gt => if b < a then k (x, ls, st, h) else k (pc + len, ls, st, h)
      | .le => if b < a then k (pc + len, ls, st, h) else k (x, ls, st, h)
    | _ => no
  | .tableswitch _ _ _ offs => match st, v with
    | .int a :: st, .int lo => am_sw a (fun t => k (t, ls, st, h)) x lo (offs.toList.map fun o => ((pc : Int) + o).toNat)
    | _, _ => no
  | .getfield _ => match st with
    | .ref a :: st => if am_kd h a = z ∨ am_kd h a = w then k (pc + len, ls, am_fv h a x y :: st, h) else no
    | _ => no
  | .putfield _ => match st with
    | .int b :: .ref a :: st => if am_kd h a = z ∨ am_kd h a = w then (if y = 0 then k (pc + len, ls, st, am_sI h a x b) else if y = 3 then (if b = 0 ∨ b = 1 then k (pc + len, ls, st, am_sI h a x b) else no) else no) else no
    | .long b :: .ref a :: st => if am_kd h a = z ∨ am_kd h a = w then (if y = 1 then k (pc + len, ls, st, am_sL h a x b) else no) else no
    | .ref b :: .ref a :: st => if am_kd h a = z ∨ am_kd h a = w then (if y = 2 then k (pc + len, ls, st, am_sR h a x b) else no) else no
    | _ => no
  | .iaload => match st with
    | .int i :: .ref a :: st => if am_kd h a = 100 ∨ am_kd h a = 99 then (if i < 0 ∨ am_ln h a ≤ i.toNatClampNeg then no else k (pc + len, ls, .int (am_I h a i.toNatClampNeg) :: st, h)) else no
    | _ => no
  | .laload => match st with
    | .int i :: .ref a :: st => if am_kd h a = 101 then (if i < 0 ∨ am_ln h a ≤ i.toNatClampNeg then no else k (pc + len, ls, .long (am_L h a i.toNatClampNeg) :: st, h)) else no
    | _ => no
  | .baload => match st with
    | .int i :: .ref a :: st => if am_kd h a = 102 ∨ am_kd h a = 103 then (if i < 0 ∨ am_ln h a ≤ i.toNatClampNeg then no else k (pc + len, ls, .int (am_I h a i.toNatClampNeg) :: st, h)) else no
    | _ => no
  | .aaload => match st with
    | .int i :: .ref a :: st => if 200 ≤ am_kd h a ∧ am_kd h a < 204 then (if i < 0 ∨ am_ln h a ≤ i.toNatClampNeg then no else k (pc + len, ls, .ref (am_R h a i.toNatClampNeg) :: st, h)) else no
    | _ => no
  | .iastore => match st with
    | .int b :: .int i :: .ref a :: st => if am_kd h a = 100 then (if i < 0 ∨ am_ln h a ≤ i.toNatClampNeg then no else k (pc + len, ls, st, am_sI h a i.toNatClampNeg b)) else no
    | _ => no
  | .lastore => match st with
    | .long b :: .int i :: .ref a :: st => if am_kd h a = 101 then (if i < 0 ∨ am_ln h a ≤ i.toNatClampNeg then no else k (pc + len, ls, st, am_sL h a i.toNatClampNeg b)) else no
    | _ => no
  | .bastore => match st with
    | .int b :: .int i :: .ref a :: st =>
      if i < 0 ∨ am_ln h a ≤ i.toNatClampNeg then no else
      if am_kd h a = 102 then k (pc + len, ls, st, am_sI h a i.toNatClampNeg (am_b8 b))
      else if am_kd h a = 103 then k (pc + len, ls, st, am_sI h a i.toNatClampNeg (b &&& 1)) else no
    | _ => no
  | .aastore => match st with
    | .ref b :: .int i :: .ref a :: st => if am_kd h a = z then (if am_kd h b = x ∨ am_kd h b = y then (if i < 0 ∨ am_ln h a ≤ i.toNatClampNeg then no else k (pc + len, ls, st, am_sR h a i.toNatClampNeg b)) else no) else no
    | _ => no
  | .arraylength => match st with
    | .ref a :: st => if am_kd h a = 100 ∨ am_kd h a = 99 ∨ am_kd h a = 102 then k (pc + len, ls, .int (am_ln h a).toInt32 :: st, h) else no
    | _ => no
  | .newarray _ => match st with
    | .int n :: st => if ¬ n < 0 ∧ n.toNatClampNeg ≤ 1000000 then k (pc + len, ls, .ref (am_nx h) :: st, am_al h x n.toNatClampNeg n.toNatClampNeg) else no
    | _ => no
  | .anewarray _ => match st with
    | .int n :: st => if ¬ n < 0 ∧ n.toNatClampNeg ≤ 1000000 then k (pc + len, ls, .ref (am_nx h) :: st, am_al h x n.toNatClampNeg n.toNatClampNeg) else no
    | _ => no
  | .new _ => match y with
    | 0 => k (pc + len, ls, .ref (am_nx h) :: st, am_al h x 0 z)
    | _ => if am_wt st ≤ 8 then kr (.inr (x, am_nx h)) (am_al h 0 0 6) else no
  | .invokestatic _ => match z with
    | 1 => match st with
      | .int b :: .int a :: st => if am_wt st ≤ 8 then k (pc + len, ls, .int (am_mx a b) :: st, h) else no
      | _ => no
    | 2 => match st with
      | .int b :: .int a :: st => if am_wt st ≤ 8 then k (pc + len, ls, .int (am_mn a b) :: st, h) else no
      | _ => no
    | _ => match am_tk y [] st with
      | some (as, st) => if am_wt st ≤ 8 then kc x as (pc, ls, st, h) else no
      | none => no
  | .invokespecial _ => match w with
    | 1 => match st with
      | .ref a :: st => if am_wt st ≤ 8 then (if a = 0 then no else k (pc + len, ls, st, h)) else no
      | _ => no
    | _ => match am_tk y [] st with
      | some (.ref a :: as, st) => if am_wt st ≤ 8 then (if am_kd h a = z then kc x (.ref a :: as) (pc, ls, st, h) else no) else no
      | _ => no
  | .invokevirtual _ => match am_tk y [] st with
    | some (.ref a :: as, st) => if am_wt st ≤ 8 then (if am_kd h a = z then kc x (.ref a :: as) (pc, ls, st, h) else
      match v with
      | .ref m => if am_kd h a = w then kc m (.ref a :: as) (pc, ls, st, h) else no
      | _ => no) else no
    | _ => no
  | .ireturn => match st with
    | .int a :: _ => if x = 0 ∨ a = 0 ∨ a = 1 then kr (.inl (some (.int a))) h else no
    | _ => no
  | .lreturn => match st with
    | .long a :: _ => kr (.inl (some (.long a))) h
    | _ => no
  | .areturn => match st with
    | .ref a :: _ => kr (.inl (some (.ref a))) h
    | _ => no
  | .return_ => kr (.inl none) h
  | _ => no
def am_ne : am_E := (.nop, 0, 0, 0, 0, 0, .retAddr 0)
def am_g1 : List am_E → Nat → am_E
  | [], _ => am_ne
  | e :: _, 0 => e
  | _ :: l, n + 1 => am_g1 l n
def am_g2 : List (List am_E) → Nat → List am_E
  | [], _ => []
  | e :: _, 0 => e
  | _ :: l, n + 1 => am_g2 l n
/-- a method's entry at a pc: rows of sixteen -/
def am_fd (T : List (List am_E)) (pc : Nat) : am_E := am_g1 (am_g2 T (pc / 16)) (pc % 16)
/-- table, locals, handlers (from, to, at, kind) -/
abbrev am_M : Type := List (List am_E) × Nat × List (Nat × Nat × Nat × Nat)
def am_g3 : List am_M → Nat → am_M
  | [], _ => ([], 0, [])
  | e :: _, 0 => e
  | _ :: l, n + 1 => am_g3 l n
def am_g4 : List (List am_M) → Nat → List am_M
  | [], _ => []
  | e :: _, 0 => e
  | _ :: l, n + 1 => am_g4 l n
def am_hd : List (Nat × Nat × Nat × Nat) → Nat → Nat → Option Nat
  | [], _, _ => none
  | (a, b, t, k) :: l, pc, kd => if (a ≤ pc ∧ pc < b) ∧ k = kd then some t else am_hd l pc kd
def am_run (M : am_M) (call : Nat → List Value → am_H → Option (am_O × am_H)) : Nat → am_C → Option (am_O × am_H)
  | 0, _ => none
  | n + 1, c => am_stp (am_run M call n) (fun m as c' => match call m as c'.2.2.2 with
      | none => none
      | some (.inl v, h') => am_run M call n (c'.1 + 3, c'.2.1, v.toList ++ c'.2.2.1, h')
      | some (.inr q, h') => match am_hd M.2.2 c'.1 q.1 with
        | some t => am_run M call n (t, c'.2.1, [.ref q.2], h')
        | none => match M.2.2 with
          | [] => some (.inr q, h')
          | _ :: _ => none) (fun o h => some (o, h)) none (am_fd M.1 c.1) c
/-- arguments that a method with n locals can be begun with -/
def am_pl : Value → Bool
  | .int _ => true
  | .long _ => true
  | .ref _ => true
  | _ => false
def am_ok (as : List Value) (n : Nat) : Bool := as.all am_pl && decide ((am_as as).length ≤ n)
/-- depth, fuel, method (by the program pr), arguments, heap -/
def am_ev (pr : Nat → am_M) : Nat → Nat → Nat → List Value → am_H → Option (am_O × am_H)
  | 0, _, _, _, _ => none
  | d + 1, N, m, as, h => match am_ok as (pr m).2.1 with
    | true => am_run (pr m) (am_ev pr d N) N (0, am_en as (pr m).2.1, [], h)
    | false => none
def am_Rt (pr : Nat → am_M) (d m : Nat) (as : List Value) (h : am_H) (Q : am_O → am_H → Prop) : Prop := ∃ N o h', am_ev pr d N m as h = some (o, h') ∧ Q o h'
def am_Ex (pr : Nat → am_M) (d : Nat) (M : am_M) (c : am_C) (Q : am_O → am_H → Prop) : Prop := ∃ N o h', am_run M (am_ev pr d N) N c = some (o, h') ∧ Q o h'
/-- behind a call -/
def am_bk (E : am_C → Prop) (Q : am_O → am_H → Prop) (M : am_M) (c : am_C) (o : am_O) (h : am_H) : Prop := match o with
  | .inl v => E (c.1 + 3, c.2.1, v.toList ++ c.2.2.1, h)
  | .inr q => match am_hd M.2.2 c.1 q.1 with
    | some t => E (t, c.2.1, [.ref q.2], h)
    | none => match M.2.2 with
      | [] => Q (.inr q) h
      | _ :: _ => False
def am_mem : List Nat → Nat → Bool
  | [], _ => false
  | a :: l, n => if a = n then true else am_mem l n
def am_wp (pr : Nat → am_M) (d : Nat) (M : am_M) (Q : am_O → am_H → Prop) (ss : List Nat) : Nat → am_C → Prop
  | 0, c => am_Ex pr d M c Q
  | n + 1, c => am_stp (fun c' => match am_mem ss c'.1 with
      | true => am_Ex pr d M c' Q
      | false => am_wp pr d M Q ss n c') (fun m as c' => am_Rt pr d m as c'.2.2.2 (am_bk (fun c2 => match am_mem ss c2.1 with
      | true => am_Ex pr d M c2 Q
      | false => am_wp pr d M Q ss n c2) Q M c')) Q False (am_fd M.1 c.1) c
