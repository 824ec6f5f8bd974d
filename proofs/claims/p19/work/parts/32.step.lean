section SOS
variable {p : Program} {l : Launch} {e : Env} {R : Room} {s : State} {m : MethodId} {args : Array Value} {below : List Frame} {meth : Method} {c : Code}
variable {D : va_G} {cA : Nat → ClassId} {H0 : Heap} {b L : Nat} {xs : Nat → Int32} {μ : so_I} {h0 : am_H} {r : am_O × am_H}
/-- EVERY INSTRUCTION -/
theorem so_step {M : am_M} {call : Nat → List Value → am_H → Option (am_O × am_H)} {k : am_C → Option (am_O × am_H)} {pc : Nat} {lv st : List Value} {h : am_H} {H : Heap} {locs : List Loc} {ls : Array Slot} (C : so_Cx p R s m args meth c D cA H0 b L xs μ) (G : so_G p l e R s m args below meth c D cA H0 b L xs μ h0 r k) (GT : so_GT p l e R s m args below meth c D cA H0 b L xs μ h0 r (am_kt M k)) (hcall : ∀ m' as h o h', m' < nm_n → call m' as h = some (o, h') → so_Met l D cA H0 b L xs m' as h o h' ∧ am_ce h ≤ am_ce h' ∧ am_sl h ≤ am_sl h')
    (hmk : ∀ c, k c = some r → am_ce c.2.2.2 ≤ am_ce r.2 ∧ am_sl c.2.2.2 ≤ am_sl r.2) (hmt : ∀ pc lv q h, am_kt M k pc lv q h = some r → am_ce h ≤ am_ce r.2 ∧ am_sl h ≤ am_sl r.2) (hb1 : am_ce r.2 - am_ce h0 ≤ R.cells) (hb2 : am_sl r.2 - am_sl h0 ≤ R.slots) (hst : l.stackTraces = false)
    (hR : so_Rp D cA H0 b L xs h H) (hL : so_L H0.size b ls μ.2.2.1 lv) (hnd : so_nd lv) (hlo : ∀ q ∈ locs, H0.size ≤ q.base) (hce : am_ce h0 ≤ am_ce h) (hsl : am_sl h0 ≤ am_sl h) (E : am_E) (hck : so_ck μ pc E = true) (hr : am_stp k (am_kk M call k) (fun o h => some (o, h)) none E (pc, lv, st, h) = some r) : W p l e R s m args below meth c H locs (am_ce h - am_ce h0) (am_sl h - am_sl h0) (so_Z D cA H0 b L xs below s h0 r) (F0 m pc ls (st.map (so_cv H0.size b))) := by
  obtain ⟨i, len, x, y, z, w, v⟩ := E
  cases i with
  | iadd => exact sw_iadd C G hR hL hnd hlo hce hsl hck hr
  | isub => exact sw_isub C G hR hL hnd hlo hce hsl hck hr
  | imul => exact sw_imul C G hR hL hnd hlo hce hsl hck hr
  | iand => exact sw_iand C G hR hL hnd hlo hce hsl hck hr
  | ior => exact sw_ior C G hR hL hnd hlo hce hsl hck hr
  | ixor => exact sw_ixor C G hR hL hnd hlo hce hsl hck hr
  | ishl => exact sw_ishl C G hR hL hnd hlo hce hsl hck hr
  | ishr => exact sw_ishr C G hR hL hnd hlo hce hsl hck hr
  | ladd => exact sw_ladd C G hR hL hnd hlo hce hsl hck hr
  | lsub => exact sw_lsub C G hR hL hnd hlo hce hsl hck hr
  | lmul => exact sw_lmul C G hR hL hnd hlo hce hsl hck hr
  | land => exact sw_land C G hR hL hnd hlo hce hsl hck hr
  | lor => exact sw_lor C G hR hL hnd hlo hce hsl hck hr
  | lxor => exact sw_lxor C G hR hL hnd hlo hce hsl hck hr
  | lneg => exact sw_lneg C G hR hL hnd hlo hce hsl hck hr
  | iushr => exact sw_iushr C G hR hL hnd hlo hce hsl hck hr
  | lushr => exact sw_lushr C G hR hL hnd hlo hce hsl hck hr
  | lshl => exact sw_lshl C G hR hL hnd hlo hce hsl hck hr
  | i2l => exact sw_i2l C G hR hL hnd hlo hce hsl hck hr
  | l2i => exact sw_l2i C G hR hL hnd hlo hce hsl hck hr
  | i2b => exact sw_i2b C G hR hL hnd hlo hce hsl hck hr
  | lcmp => exact sw_lcmp C G hR hL hnd hlo hce hsl hck hr
  | idiv => exact sw_idiv C G hR hL hnd hlo hce hsl hck hr
  | irem => exact sw_irem C G hR hL hnd hlo hce hsl hck hr
  | pop => exact sw_pop C G hR hL hnd hlo hce hsl hck hr
  | dup => exact sw_dup C G hR hL hnd hlo hce hsl hck hr
  | dup2 => exact sw_dup2 C G hR hL hnd hlo hce hsl hck hr
  | iaload => exact sw_iaload C G hR hL hnd hlo hce hsl hck hr
  | laload => exact sw_laload C G hR hL hnd hlo hce hsl hck hr
  | baload => exact sw_baload C G hR hL hnd hlo hce hsl hck hr
  | aaload => exact sw_aaload C G hR hL hnd hlo hce hsl hck hr
  | iastore => exact sw_iastore C G hR hL hnd hlo hce hsl hck hr
  | lastore => exact sw_lastore C G hR hL hnd hlo hce hsl hck hr
  | bastore => exact sw_bastore C G hR hL hnd hlo hce hsl hck hr
  | arraylength => exact sw_arraylength C G hR hL hnd hlo hce hsl hck hr
  | aastore => exact sw_aastore C G hR hL hnd hlo hce hsl hck hr
  | iconst a => exact sw_iconst C G hR hL hnd hlo hce hsl hck hr
  | bipush a => exact sw_bipush C G hR hL hnd hlo hce hsl hck hr
  | sipush a => exact sw_sipush C G hR hL hnd hlo hce hsl hck hr
  | lconst a => exact sw_lconst C G hR hL hnd hlo hce hsl hck hr
  | ldc a => exact sw_ldc C G hR hL hnd hlo hce hsl hck hr
  | ldc_w a => exact sw_ldc_w C G hR hL hnd hlo hce hsl hck hr
  | ldc2_w a => exact sw_ldc2_w C G hR hL hnd hlo hce hsl hck hr
  | iload a => exact sw_iload C G hR hL hnd hlo hce hsl hck hr
  | iload_n a => exact sw_iload_n C G hR hL hnd hlo hce hsl hck hr
  | lload a => exact sw_lload C G hR hL hnd hlo hce hsl hck hr
  | lload_n a => exact sw_lload_n C G hR hL hnd hlo hce hsl hck hr
  | aload a => exact sw_aload C G hR hL hnd hlo hce hsl hck hr
  | aload_n a => exact sw_aload_n C G hR hL hnd hlo hce hsl hck hr
  | istore a => exact sw_istore C G hR hL hnd hlo hce hsl hck hr
  | istore_n a => exact sw_istore_n C G hR hL hnd hlo hce hsl hck hr
  | lstore a => exact sw_lstore C G hR hL hnd hlo hce hsl hck hr
  | lstore_n a => exact sw_lstore_n C G hR hL hnd hlo hce hsl hck hr
  | astore a => exact sw_astore C G hR hL hnd hlo hce hsl hck hr
  | astore_n a => exact sw_astore_n C G hR hL hnd hlo hce hsl hck hr
  | goto a => exact sw_goto C G hR hL hnd hlo hce hsl hck hr
  | getfield a => exact sw_getfield C G hR hL hnd hlo hce hsl hck hr
  | putfield a => exact sw_putfield C G hR hL hnd hlo hce hsl hck hr
  | iinc a q => exact sw_iinc C G hR hL hnd hlo hce hsl hck hr
  | tableswitch d lo hi offs => exact sw_tableswitch C G hR hL hnd hlo hce hsl hck hr
  | ifCond cd off => cases cd with
    | eq => exact sw_if_eq C G hR hL hnd hlo hce hsl hck hr
    | ne => exact sw_if_ne C G hR hL hnd hlo hce hsl hck hr
    | lt => exact sw_if_lt C G hR hL hnd hlo hce hsl hck hr
    | ge => exact sw_if_ge C G hR hL hnd hlo hce hsl hck hr
    | gt => exact sw_if_gt C G hR hL hnd hlo hce hsl hck hr
    | le => exact sw_if_le C G hR hL hnd hlo hce hsl hck hr
  | if_icmp cd off => cases cd with
    | eq => exact sw_icmp_eq C G hR hL hnd hlo hce hsl hck hr
    | ne => exact sw_icmp_ne C G hR hL hnd hlo hce hsl hck hr
    | lt => exact sw_icmp_lt C G hR hL hnd hlo hce hsl hck hr
    | ge => exact sw_icmp_ge C G hR hL hnd hlo hce hsl hck hr
    | gt => exact sw_icmp_gt C G hR hL hnd hlo hce hsl hck hr
    | le => exact sw_icmp_le C G hR hL hnd hlo hce hsl hck hr
  | new a =>
    by_cases hy : y = 0
    · exact sw_new C G hR hL hnd hlo hce hsl hy hb1 hb2 hmk hck hr
    · exact sw_throw C hR hL hlo hce hsl hy hst rfl hb1 hb2 hck hr
  | newarray t => cases t with
    | int => exact sw_newarray_int C G hR hL hnd hlo hce hsl hb1 hb2 hmk hck hr
    | long => exact sw_newarray_long C G hR hL hnd hlo hce hsl hb1 hb2 hmk hck hr
    | byte => exact sw_newarray_byte C G hR hL hnd hlo hce hsl hb1 hb2 hmk hck hr
    | boolean => exact sw_newarray_boolean C G hR hL hnd hlo hce hsl hb1 hb2 hmk hck hr
    | _ =>
      delta so_ck at hck
      dsimp only at hck
      simp only [Bool.and_eq_true, decide_eq_true_eq] at hck
      exact absurd hck.2.1.2 hck.2.2
  | anewarray a => exact sw_anewarray C G hR hL hnd hlo hce hsl hb1 hb2 hmk hck hr
  | invokestatic a =>
    match z, hck, hr with
    | 0, hck, hr => exact sw_invokestatic C G hR hL hnd hlo hce hsl (Or.inl rfl) GT hcall rfl hmk hmt hb1 hb2 hck hr
    | 1, hck, hr => exact sw_math_max C G hR hL hnd hlo hce hsl rfl hmk hb1 hb2 hck hr
    | 2, hck, hr => exact sw_math_min C G hR hL hnd hlo hce hsl rfl hmk hb1 hb2 hck hr
    | z' + 3, hck, hr => exact sw_invokestatic C G hR hL hnd hlo hce hsl (Or.inr (by omega)) GT hcall rfl hmk hmt hb1 hb2 hck hr
  | invokespecial a =>
    match w, hck, hr with
    | 0, hck, hr => exact sw_invokespecial C G hR hL hnd hlo hce hsl (Or.inl rfl) GT hcall rfl hmk hmt hb1 hb2 hck hr
    | 1, hck, hr => exact sw_objinit C G hR hL hnd hlo hce hsl rfl hck hr
    | w' + 2, hck, hr => exact sw_invokespecial C G hR hL hnd hlo hce hsl (Or.inr (by omega)) GT hcall rfl hmk hmt hb1 hb2 hck hr
  | invokevirtual a => exact sw_invokevirtual C G hR hL hnd hlo hce hsl GT hcall rfl hmk hmt hb1 hb2 hck hr
  | return_ => exact sw_return C G hR hL hnd hlo hce hsl rfl hck hr
  | ireturn => exact sw_ireturn C G hR hL hnd hlo hce hsl rfl hck hr
  | lreturn => exact sw_lreturn C G hR hL hnd hlo hce hsl rfl hck hr
  | areturn => exact sw_areturn C G hR hL hnd hlo hce hsl rfl hck hr
  | aconst_null =>
    have hck : (decide (decode μ.2.1 pc = .ok (.aconst_null, len)) && false) = true := hck
    rw [Bool.and_false] at hck
    cases hck
  | _ => exact nomatch (show none = some r from hr)
end SOS
