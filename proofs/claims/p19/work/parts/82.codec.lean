/-! KEYS AND VALUES AS OCTETS -/
/-- a shift by b (0 to 63) -/
theorem us_bv {z : Int64} {s : UInt64} {n : Nat} (hs : s.toBitVec.toNat = n) (hn : n < 64) : ((z.toUInt64 >>> s).toInt64).toBitVec = z.toBitVec >>> n := by
  show (z.toUInt64 >>> s).toBitVec = _
  rw [UInt64.toBitVec_shiftRight]
  show z.toBitVec >>> (s.toBitVec % 64) = _
  rw [BitVec.ushiftRight_eq', BitVec.toNat_umod, hs]
  congr 1
  show n % 64 = n
  omega
theorem ks_n {j : Nat} (hj : j < 8) : ((nI 56 - nI 8 * nI j).toInt64.toUInt64 &&& Int64.toUInt64 63).toBitVec.toNat = 56 - 8 * j := by
  have : ∀ j : Fin 8, ((nI 56 - nI 8 * nI j.1).toInt64.toUInt64 &&& Int64.toUInt64 63).toBitVec.toNat = 56 - 8 * j.1 := by decide
  exact this ⟨j, hj⟩
theorem bv_255l (i : Nat) : (255#64).getLsbD i = decide (i < 8) := by
  by_cases hi : i < 64
  · have : ∀ i : Fin 64, (255#64).getLsbD i.1 = decide (i.1 < 8) := by decide
    exact this ⟨i, hi⟩
  · rw [BitVec.getLsbD_of_ge _ _ (by omega)]
    simp; omega
/-- octet j is the same -/
def kq (a b : Int64) (j : Nat) : Prop := ∀ t, t < 8 → a.toBitVec.getLsbD (56 - 8 * j + t) = b.toBitVec.getLsbD (56 - 8 * j + t)
def kq_d (a b : Int64) (j : Nat) : Decidable (kq a b j) := by unfold kq; infer_instance
theorem kq_class {a b : Int64} {j : Nat} (hj : j < 8) : ((((a ^^^ b).toUInt64 >>> ((nI 56 - nI 8 * nI j).toInt64.toUInt64 &&& Int64.toUInt64 63)).toInt64 &&& 255) = 0) = kq a b j := by
  apply propext
  rw [← Int64.toBitVec_inj, Int64.toBitVec_and, us_bv (ks_n hj) (by omega), Int64.toBitVec_xor]
  have bits : ∀ i, ((a.toBitVec ^^^ b.toBitVec) >>> (56 - 8 * j) &&& (255 : Int64).toBitVec).getLsbD i = (decide (i < 8) && (a.toBitVec.getLsbD (56 - 8 * j + i) ^^ b.toBitVec.getLsbD (56 - 8 * j + i))) := by
    intro i
    have e : ((255 : Int64).toBitVec).getLsbD i = decide (i < 8) := bv_255l i
    rw [BitVec.getLsbD_and, e, BitVec.getLsbD_ushiftRight, BitVec.getLsbD_xor, Bool.and_comm]
  constructor
  · intro e t ht
    have q := bits t
    rw [e] at q
    have z : ((0 : Int64).toBitVec).getLsbD t = false := by show (0#64).getLsbD t = false; simp
    rw [z] at q
    simp only [ht, decide_true, Bool.true_and] at q
    generalize a.toBitVec.getLsbD (56 - 8 * j + t) = x at *
    generalize b.toBitVec.getLsbD (56 - 8 * j + t) = y at *
    revert q; revert x y; decide
  · intro e
    apply BitVec.eq_of_getLsbD_eq
    intro i hi
    rw [bits i]
    have z : ((0 : Int64).toBitVec).getLsbD i = false := by show (0#64).getLsbD i = false; simp
    rw [z]
    by_cases h8 : i < 8
    · rw [e i h8]; simp
    · simp [h8]
theorem mo_O_hi {z : Int64} {j t : Nat} (ht : ¬ t < 8) : (mo_O z j).toBitVec.getLsbD t = false := by
  rw [mo_O_eq, Int32.toBitVec_and, BitVec.getLsbD_and]
  by_cases h : t < 32
  · have e : (Int32.toBitVec 255).getLsbD t = false := (bv_255 t h).trans (by simp [ht])
    rw [e, Bool.and_false]
  · rw [BitVec.getLsbD_of_ge (Int32.toBitVec 255) t (by omega), Bool.and_false]
theorem kq_mo {a b : Int64} {j : Nat} (hj : j < 8) : (mo_O a j = mo_O b j) = kq a b j := by
  apply propext
  constructor
  · intro e t ht
    rw [← mo_O_bit hj ht, e, mo_O_bit hj ht]
  · intro e
    apply Int32.toBitVec_inj.mp
    apply BitVec.eq_of_getLsbD_eq
    intro i hi
    by_cases h8 : i < 8
    · rw [mo_O_bit hj h8, mo_O_bit hj h8]; exact e i h8
    · rw [mo_O_hi h8, mo_O_hi h8]
/-- a key's octet as the reference has it -/
def mo_K (k : Int64) (j : Nat) : Int32 := if j = 0 then mo_O k j ^^^ 128 else mo_O k j
theorem kq_K {a b : Int64} {j : Nat} (hj : j < 8) : (mo_K a j = mo_K b j) = kq a b j := by
  rw [← kq_mo hj]
  unfold mo_K
  split
  · apply propext
    constructor
    · intro e
      have e2 : (mo_O a j ^^^ 128) ^^^ 128 = (mo_O b j ^^^ 128) ^^^ 128 := by rw [e]
      rwa [Int32.xor_assoc, Int32.xor_assoc, Int32.xor_self, Int32.xor_zero, Int32.xor_zero] at e2
    · intro e; rw [e]
  · rfl
theorem b8_ext {x y : Int32} (h : ∀ t, t < 8 → x.toBitVec.getLsbD t = y.toBitVec.getLsbD t) : am_b8 x = am_b8 y := by
  unfold am_b8
  congr 1
  apply Int8.toBitVec_inj.mp
  rw [Int32.toBitVec_toInt8, Int32.toBitVec_toInt8]
  apply BitVec.eq_of_getLsbD_eq
  intro i hi
  rw [BitVec.getLsbD_signExtend, if_pos (by omega), BitVec.getLsbD_signExtend, if_pos (by omega), h i hi]
/-- a key with its highest bit turned -/
def kt (k : Int64) : Int64 := k ^^^ -9223372036854775808
theorem kt_kt (k : Int64) : kt (kt k) = k := by
  unfold kt
  rw [Int64.xor_assoc, Int64.xor_self, Int64.xor_zero]
theorem kt_bit (k : Int64) (b : Nat) : (kt k).toBitVec.getLsbD b = (k.toBitVec.getLsbD b ^^ decide (b = 63)) := by
  unfold kt
  rw [Int64.toBitVec_xor, BitVec.getLsbD_xor]
  congr 1
  by_cases hb : b < 64
  · have : ∀ i : Fin 64, ((-9223372036854775808 : Int64).toBitVec).getLsbD i.1 = decide (i.1 = 63) := by decide
    exact this ⟨b, hb⟩
  · rw [BitVec.getLsbD_of_ge _ _ (by omega)]
    simp; omega
theorem sm_O_and (z : Int64) (j : Nat) : sm_O z j &&& 255 = mo_O z j := by
  unfold sm_O
  rw [b8_and, mo_O_eq]
theorem sm_O_of (z : Int64) (j : Nat) : sm_O z j = am_b8 (mo_O z j) := by
  rw [mo_O_eq, b8_of]
  rfl
/-- the octet on a page, as both write it -/
theorem kb_eq {k : Int64} {j : Nat} (hj : j < 8) : am_b8 (mo_K k j) = sm_O (kt k) j := by
  rw [sm_O_of]
  apply b8_ext
  intro t ht
  rw [mo_O_bit hj ht, kt_bit]
  unfold mo_K
  have e128 : ∀ t : Fin 8, ((128 : Int32).toBitVec).getLsbD t.1 = decide (t.1 = 7) := by decide
  split
  · rename_i h
    subst h
    rw [Int32.toBitVec_xor, BitVec.getLsbD_xor, mo_O_bit hj ht, e128 ⟨t, ht⟩]
    congr 1
    simp only [decide_eq_decide]
    omega
  · rw [mo_O_bit hj ht]
    have : decide (56 - 8 * j + t = 63) = false := by simp; omega
    rw [this, Bool.xor_false]
theorem mo_O_kt {k : Int64} {j : Nat} (hj : j < 8) : (if j = 0 then (mo_O (kt k) j).toInt64 ^^^ 128 else (mo_O (kt k) j).toInt64) = (mo_O k j).toInt64 := by
  have hb : ∀ (z : Int64) (i : Nat), ((mo_O z j).toInt64).toBitVec.getLsbD i = (decide (i < 8) && z.toBitVec.getLsbD (56 - 8 * j + i)) := by
    intro z i
    rw [Int32.toBitVec_toInt64, BitVec.getLsbD_signExtend]
    by_cases h8 : i < 8
    · rw [if_pos (by omega), mo_O_bit hj h8]
      simp [h8, show i < 64 by omega]
    · have : (mo_O z j).toBitVec.msb = false := by
        rw [BitVec.msb_eq_getLsbD_last]
        exact mo_O_hi (by omega)
      rw [this]
      split
      · rw [mo_O_hi h8]; simp [h8]
      · simp [h8]
  apply Int64.toBitVec_inj.mp
  apply BitVec.eq_of_getLsbD_eq
  intro i hi
  rw [hb k i]
  split
  · rename_i h
    subst h
    rw [Int64.toBitVec_xor, BitVec.getLsbD_xor, hb, kt_bit]
    have e128 : ∀ t : Fin 64, ((128 : Int64).toBitVec).getLsbD t.1 = decide (t.1 = 7) := by decide
    rw [e128 ⟨i, hi⟩]
    by_cases h8 : i < 8
    · simp only [h8, decide_true, Bool.true_and]
      by_cases h7 : i = 7
      · subst h7; simp
      · have : ¬ (56 - 8 * 0 + i = 63) := by omega
        simp [h7, this]
    · have : ¬ i = 7 := by omega
      simp [h8, this]
  · rw [hb, kt_bit]
    by_cases h8 : i < 8
    · have : ¬ (56 - 8 * j + i = 63) := by omega
      simp [this]
    · simp [h8]
/-- the highest 8 j bits are the same -/
def kg (x y : Int64) (j : Nat) : Prop := ∀ b, 64 - 8 * j ≤ b → b < 64 → x.toBitVec.getLsbD b = y.toBitVec.getLsbD b
theorem kg_8 {x y : Int64} (h : kg x y 8) : x = y := by
  apply Int64.toBitVec_inj.mp
  apply BitVec.eq_of_getLsbD_eq
  intro i hi
  exact h i (by omega) hi
theorem kg_0 (x y : Int64) : kg x y 0 := fun b h1 h2 => by omega
theorem kg_kt {x y : Int64} {j : Nat} (h : kg x y j) : kg (kt x) (kt y) j := fun b h1 h2 => by
  rw [kt_bit, kt_bit, h b h1 h2]
/-- octet j comes in -/
def kin (x : Int64) (o : Int64) (j : Nat) : Int64 := (x &&& ((255 <<< ((nI 56 - nI 8 * nI j).toInt64 &&& 63)) ^^^ -1)) ||| (o <<< ((nI 56 - nI 8 * nI j).toInt64 &&& 63))
theorem sl_bv {z s : Int64} {n : Nat} (hs : s = Int64.ofNat n) (hn : n < 64) : (z <<< s).toBitVec = z.toBitVec <<< n := by
  subst hs
  rw [Int64.toBitVec_shiftLeft]
  have : ∀ n : Fin 64, (((Int64.ofNat n.1).toBitVec).smod 64).toNat = n.1 := by decide +kernel
  have e := this ⟨n, hn⟩
  simp only [BitVec.shiftLeft_eq', e]
theorem ks_l {j : Nat} (hj : j < 8) : (nI 56 - nI 8 * nI j).toInt64 &&& 63 = Int64.ofNat (56 - 8 * j) := by
  have : ∀ j : Fin 8, (nI 56 - nI 8 * nI j.1).toInt64 &&& 63 = Int64.ofNat (56 - 8 * j.1) := by decide
  exact this ⟨j, hj⟩
theorem kin_g {x k o : Int64} {j : Nat} (hj : j < 8) (hx : kg x k j) (ho : ∀ i, i < 8 → o.toBitVec.getLsbD i = k.toBitVec.getLsbD (56 - 8 * j + i)) (ho2 : ∀ i, 8 ≤ i → o.toBitVec.getLsbD i = false) : kg (kin x o j) k (j + 1) := by
  intro b h1 h2
  unfold kin
  rw [ks_l hj, Int64.toBitVec_or, BitVec.getLsbD_or, Int64.toBitVec_and, BitVec.getLsbD_and, Int64.toBitVec_xor, BitVec.getLsbD_xor, sl_bv rfl (by omega), sl_bv rfl (by omega), BitVec.getLsbD_shiftLeft, BitVec.getLsbD_shiftLeft]
  have e255 : ((255 : Int64).toBitVec).getLsbD (b - (56 - 8 * j)) = decide (b - (56 - 8 * j) < 8) := bv_255l _
  have em : ((-1 : Int64).toBitVec).getLsbD b = true := by
    have : ∀ i : Fin 64, ((-1 : Int64).toBitVec).getLsbD i.1 = true := by decide
    exact this ⟨b, h2⟩
  rw [e255, em]
  by_cases hb : b < 64 - 8 * j
  · rw [ho _ (by omega), show 56 - 8 * j + (b - (56 - 8 * j)) = b by omega]
    have q1 : ¬ b < 56 - 8 * j := by omega
    have q2 : b - (56 - 8 * j) < 8 := by omega
    simp [h2, q1, q2]
  · rw [ho2 _ (by omega), hx b (by omega) h2]
    have q2 : ¬ b - (56 - 8 * j) < 8 := by omega
    simp [q2]
theorem moL_bit {z : Int64} {j : Nat} (hj : j < 8) (i : Nat) : ((mo_O z j).toInt64).toBitVec.getLsbD i = (decide (i < 8) && z.toBitVec.getLsbD (56 - 8 * j + i)) := by
  rw [Int32.toBitVec_toInt64, BitVec.getLsbD_signExtend]
  by_cases h8 : i < 8
  · rw [if_pos (by omega), mo_O_bit hj h8]
    simp [h8, show i < 64 by omega]
  · have : (mo_O z j).toBitVec.msb = false := by
      rw [BitVec.msb_eq_getLsbD_last]
      exact mo_O_hi (by omega)
    rw [this]
    split
    · rw [mo_O_hi h8]; simp [h8]
    · simp [h8]
theorem kin_O {x k : Int64} {j : Nat} (hj : j < 8) (hx : kg x k j) : kg (kin x (mo_O k j).toInt64 j) k (j + 1) := by
  refine kin_g hj hx (fun i hi => ?_) (fun i hi => ?_)
  · rw [moL_bit hj]; simp [hi]
  · rw [moL_bit hj]; simp; omega
/-- how many octets two keys share, of the last r -/
def kc_r (a b : Int64) : Nat → Nat
  | 0 => 8
  | r + 1 => @ite Nat (kq a b (7 - r)) (kq_d a b (7 - r)) (kc_r a b r) (7 - r)
/-- how many octets two keys share -/
def kc (a b : Int64) : Nat := kc_r a b 8
theorem kc_r_le (a b : Int64) : ∀ r, r ≤ 8 → 8 - r ≤ kc_r a b r ∧ kc_r a b r ≤ 8
  | 0, _ => ⟨Nat.le_refl _, Nat.le_refl _⟩
  | r + 1, h => by
    unfold kc_r
    have := kc_r_le a b r (by omega)
    split
    · omega
    · omega
theorem kc_r_q (a b : Int64) : ∀ r, r ≤ 8 → ∀ j, 8 - r ≤ j → j < kc_r a b r → kq a b j
  | 0, _, j, h1, h2 => by unfold kc_r at h2; omega
  | r + 1, h, j, h1, h2 => by
    unfold kc_r at h2
    split at h2
    · rename_i hq
      by_cases e : j = 7 - r
      · subst e; exact hq
      · exact kc_r_q a b r (by omega) j (by omega) h2
    · omega
theorem kc_g (a b : Int64) : kg a b (kc a b) := by
  intro x h1 h2
  have hl := kc_r_le a b 8 (by omega)
  have q := kc_r_q a b 8 (by omega) (7 - x / 8) (by omega) (by unfold kc at h1; omega) (x % 8) (by omega)
  rw [show 56 - 8 * (7 - x / 8) + x % 8 = x by omega] at q
  exact q
theorem kc_8 {a b : Int64} (h : a ≠ b) : kc a b < 8 := by
  have hl := (kc_r_le a b 8 (by omega)).2
  unfold kc
  rcases Nat.lt_or_ge (kc_r a b 8) 8 with q | q
  · exact q
  · exact absurd (kg_8 (by have := kc_g a b; unfold kc at this; rwa [show kc_r a b 8 = 8 by omega] at this)) h
/-- a value folded -/
def zf (v : Int64) : Int64 := if v < 0 then -1 - v * 2 else v * 2
/-- back again, as the class and as the reference do it -/
def zb (z : Int64) : Int64 := (z.toUInt64 >>> ((1 : Int32).toInt64.toUInt64 &&& Int64.toUInt64 63)).toInt64 ^^^ -(z &&& 1)
theorem s1_n : ((1 : Int32).toInt64.toUInt64 &&& Int64.toUInt64 63).toBitVec.toNat = 1 := by decide
theorem zb_ref (z : Int64) : (if z &&& 1 = 0 then (z.toUInt64 >>> ((1 : Int32).toInt64.toUInt64 &&& Int64.toUInt64 63)).toInt64 else (z.toUInt64 >>> ((1 : Int32).toInt64.toUInt64 &&& Int64.toUInt64 63)).toInt64 ^^^ -1) = zb z := by
  unfold zb
  have hz : z &&& 1 = 0 ∨ z &&& 1 = 1 := by
    have b : ∀ i, (z &&& 1).toBitVec.getLsbD i = (decide (i = 0) && z.toBitVec.getLsbD 0) := by
      intro i
      rw [Int64.toBitVec_and, BitVec.getLsbD_and]
      have e : ((1 : Int64).toBitVec).getLsbD i = decide (i = 0) := by
        by_cases hi : i < 64
        · have : ∀ i : Fin 64, ((1 : Int64).toBitVec).getLsbD i.1 = decide (i.1 = 0) := by decide
          exact this ⟨i, hi⟩
        · rw [BitVec.getLsbD_of_ge _ _ (by omega)]; simp; omega
      rw [e]
      by_cases h : i = 0
      · subst h; simp
      · simp [h]
    cases hb : z.toBitVec.getLsbD 0 with
    | false =>
      left
      apply Int64.toBitVec_inj.mp
      apply BitVec.eq_of_getLsbD_eq
      intro i hi
      rw [b, hb, Bool.and_false]
      show false = (0#64).getLsbD i
      simp
    | true =>
      right
      apply Int64.toBitVec_inj.mp
      apply BitVec.eq_of_getLsbD_eq
      intro i hi
      rw [b, hb, Bool.and_true]
      have : ∀ i : Fin 64, decide (i.1 = 0) = ((1 : Int64).toBitVec).getLsbD i.1 := by decide
      exact this ⟨i, hi⟩
  rcases hz with e | e
  · rw [e, if_pos rfl]
    show _ = _ ^^^ -0
    rw [show (-0 : Int64) = 0 from by decide, Int64.xor_zero]
  · rw [e, if_neg (by decide)]
theorem v2_bv (v : Int64) : (v * 2).toBitVec = v.toBitVec <<< 1 := by
  rw [Int64.toBitVec_mul]
  show v.toBitVec * 2#64 = _
  rw [BitVec.shiftLeft_eq_mul_twoPow]
  rfl
theorem zb_zf (v : Int64) : zb (zf v) = v := by
  have hm : (v < 0) = (v.toBitVec.getLsbD 63 = true) := by
    apply propext
    rw [Int64.lt_iff_toBitVec_slt]
    show v.toBitVec.slt 0#64 = true ↔ _
    rw [BitVec.slt_zero_eq_msb, BitVec.msb_eq_getLsbD_last]
  have z0 : ∀ i : Fin 64, ((-1 : Int64).toBitVec).getLsbD i.1 = true := by decide
  rw [← zb_ref]
  unfold zf
  cases hb : v.toBitVec.getLsbD 63 with
  | false =>
    have hv : ¬ v < 0 := by rw [hm, hb]; simp
    rw [if_neg hv]
    have e0 : v * 2 &&& 1 = 0 := by
      apply Int64.toBitVec_inj.mp
      apply BitVec.eq_of_getLsbD_eq
      intro i hi
      rw [Int64.toBitVec_and, BitVec.getLsbD_and, v2_bv, BitVec.getLsbD_shiftLeft]
      have e : ((1 : Int64).toBitVec).getLsbD i = decide (i = 0) := by
        have : ∀ i : Fin 64, ((1 : Int64).toBitVec).getLsbD i.1 = decide (i.1 = 0) := by decide
        exact this ⟨i, hi⟩
      rw [e]
      show _ = (0#64).getLsbD i
      by_cases h : i = 0
      · subst h; simp
      · simp [h]
    rw [if_pos e0]
    apply Int64.toBitVec_inj.mp
    rw [us_bv s1_n (by omega), v2_bv]
    apply BitVec.eq_of_getLsbD_eq
    intro i hi
    rw [BitVec.getLsbD_ushiftRight, BitVec.getLsbD_shiftLeft]
    by_cases h : i = 63
    · subst h; rw [hb]; simp
    · have : 1 + i < 64 := by omega
      simp [this]
  | true =>
    have hv : v < 0 := by rw [hm, hb]
    rw [if_pos hv]
    have en : (-1 - v * 2).toBitVec = ~~~ (v.toBitVec <<< 1) := by
      rw [Int64.toBitVec_sub, v2_bv]
      show (-1#64) - _ = _
      rw [BitVec.not_eq_neg_add]
      generalize v.toBitVec <<< 1 = w
      rw [BitVec.sub_eq_add_neg, BitVec.add_comm]
      show -w + -1#64 = -w - 1#64
      rw [BitVec.sub_eq_add_neg]
    have e1 : ¬ (-1 - v * 2 &&& 1 = 0) := by
      intro e
      have q := congrArg (fun x : Int64 => x.toBitVec.getLsbD 0) e
      simp only [Int64.toBitVec_and, BitVec.getLsbD_and, en, BitVec.getLsbD_not, BitVec.getLsbD_shiftLeft] at q
      have e1 : ((1 : Int64).toBitVec).getLsbD 0 = true := by decide
      have e0 : ((0 : Int64).toBitVec).getLsbD 0 = false := by decide
      rw [e1, e0] at q
      simp at q
    rw [if_neg e1]
    apply Int64.toBitVec_inj.mp
    rw [Int64.toBitVec_xor, us_bv s1_n (by omega), en]
    apply BitVec.eq_of_getLsbD_eq
    intro i hi
    rw [BitVec.getLsbD_xor, z0 ⟨i, hi⟩, BitVec.getLsbD_ushiftRight, BitVec.getLsbD_not, BitVec.getLsbD_shiftLeft]
    by_cases h : i = 63
    · subst h; rw [hb]; simp
    · have : 1 + i < 64 := by omega
      simp [this]
/-- a long's bits as a number -/
def zN (z : Int64) : Nat := z.toBitVec.toNat
theorem zN_lt (z : Int64) : zN z < 2 ^ 64 := z.toBitVec.isLt
/-- how many octets of seven bits, tried from s on -/
def vz (z : Nat) : Nat → Nat → Nat
  | 0, s => s
  | f + 1, s => if z / 128 ^ s = 0 then s else vz z f (s + 1)
def vs (z : Int64) : Nat := vz (zN z) 9 1
theorem vz_le (z : Nat) : ∀ f s, s ≤ vz z f s ∧ vz z f s ≤ s + f
  | 0, s => ⟨Nat.le_refl _, Nat.le_refl _⟩
  | f + 1, s => by
    unfold vz
    have := vz_le z f (s + 1)
    split <;> omega
theorem vz_0 (z : Nat) : ∀ f s, z / 128 ^ (s + f) = 0 → z / 128 ^ (vz z f s) = 0
  | 0, s, h => h
  | f + 1, s, h => by
    unfold vz
    split
    · assumption
    · exact vz_0 z f (s + 1) (by rw [show s + 1 + f = s + (f + 1) by omega]; exact h)
theorem vz_n (z : Nat) : ∀ f s i, s ≤ i → i < vz z f s → z / 128 ^ i ≠ 0
  | 0, s, i, h1, h2 => by unfold vz at h2; omega
  | f + 1, s, i, h1, h2 => by
    unfold vz at h2
    split at h2
    · omega
    · rename_i hz
      by_cases e : i = s
      · subst e; exact hz
      · exact vz_n z f (s + 1) i (by omega) h2
theorem vs_le (z : Int64) : 1 ≤ vs z ∧ vs z ≤ 10 := vz_le (zN z) 9 1
theorem vs_0 (z : Int64) : zN z / 128 ^ vs z = 0 := vz_0 (zN z) 9 1 (Nat.div_eq_of_lt (Nat.lt_of_lt_of_le (zN_lt z) (by decide)))
/-- octet i of a value's -/
def vb (z m i : Nat) : Nat := z / 128 ^ i % 128 + if i + 1 < m then 128 else 0
theorem vb_lt (z m i : Nat) : vb z m i < 256 := by unfold vb; split <;> omega
theorem zN_sh {z : Int64} {s : UInt64} {n : Nat} (hs : s.toBitVec.toNat = n) (hn : n < 64) : zN (z.toUInt64 >>> s).toInt64 = zN z / 2 ^ n := by
  unfold zN
  rw [us_bv hs hn, BitVec.toNat_ushiftRight, Nat.shiftRight_eq_div_pow]
theorem zN_0 {z : Int64} : (z = 0) = (zN z = 0) := by
  apply propext
  constructor
  · intro e; subst e; rfl
  · intro e
    apply Int64.toBitVec_inj.mp
    apply BitVec.eq_of_toNat_eq
    exact e
theorem s7_n {i : Nat} (hi : i < 10) : ((nI 7 * nI i).toInt64.toUInt64 &&& Int64.toUInt64 63).toBitVec.toNat = 7 * i := by
  have : ∀ j : Fin 10, ((nI 7 * nI j.1).toInt64.toUInt64 &&& Int64.toUInt64 63).toBitVec.toNat = 7 * j.1 := by decide
  exact this ⟨i, hi⟩
theorem s7_1 : ((7 : Int32).toInt64.toUInt64 &&& Int64.toUInt64 63).toBitVec.toNat = 7 := by decide
theorem p128 (i : Nat) : (128 : Nat) ^ i = 2 ^ (7 * i) := by rw [Nat.pow_mul]
theorem vs_class {z : Int64} {i : Nat} (hi : i < 10) : ((z.toUInt64 >>> ((nI 7 * nI i).toInt64.toUInt64 &&& Int64.toUInt64 63)).toInt64 = 0) = (zN z / 128 ^ i = 0) := by
  rw [zN_0, zN_sh (s7_n hi) (by omega), p128]
theorem vs_ref {z : Int64} : ((z.toUInt64 >>> ((7 : Int32).toInt64.toUInt64 &&& Int64.toUInt64 63)).toInt64 = 0) = (zN z / 128 = 0) := by
  rw [zN_0, zN_sh s7_1 (by omega)]
theorem vs_next {z x : Int64} {i : Nat} (h : zN x = zN z / 128 ^ i) : zN (x.toUInt64 >>> ((7 : Int32).toInt64.toUInt64 &&& Int64.toUInt64 63)).toInt64 = zN z / 128 ^ (i + 1) := by
  rw [zN_sh s7_1 (by omega), h]
  show zN z / 128 ^ i / 128 = _
  rw [Nat.div_div_eq_div_mul, ← Nat.pow_succ]
theorem zN_of {n : Nat} (h : n < 2 ^ 64) : zN (Int64.ofNat n) = n := by
  show (BitVec.ofNat 64 n).toNat = n
  rw [BitVec.toNat_ofNat]
  exact Nat.mod_eq_of_lt h
theorem zN_inj {a b : Int64} (h : zN a = zN b) : a = b := by
  apply Int64.toBitVec_inj.mp
  exact BitVec.eq_of_toNat_eq h
/-- the lowest eight bits decide an octet -/
theorem b8_zN {x : Int64} {n : Nat} (h : zN x % 256 = n % 256) : am_b8 x.toInt32 = am_b8 (nI n) := by
  apply b8_ext
  intro t ht
  have e1 : x.toInt32.toBitVec.getLsbD t = x.toBitVec.getLsbD t := by
    rw [Int64.toBitVec_toInt32, BitVec.getLsbD_signExtend]
    simp [show t < 32 by omega, show t < 64 by omega]
  have e2 : (nI n).toBitVec.getLsbD t = n.testBit t := by
    show (BitVec.ofNat 32 n).getLsbD t = _
    rw [BitVec.getLsbD_ofNat]
    simp [show t < 32 by omega]
  rw [e1, e2]
  show (zN x).testBit t = _
  have q1 : (zN x % 2 ^ 8).testBit t = (zN x).testBit t := by rw [Nat.testBit_mod_two_pow]; simp [ht]
  have q2 : (n % 2 ^ 8).testBit t = n.testBit t := by rw [Nat.testBit_mod_two_pow]; simp [ht]
  rw [← q1, ← q2]
  show (zN x % 256).testBit t = (n % 256).testBit t
  rw [h]
theorem zN_and127 (x : Int64) : zN (x &&& 127) = zN x % 128 := by
  unfold zN
  rw [Int64.toBitVec_and, BitVec.toNat_and]
  show _ &&& (2 ^ 7 - 1) = _ % 2 ^ 7
  rw [Nat.and_two_pow_sub_one_eq_mod]
theorem zN_and1 (x : Int64) : zN (x &&& 1) = zN x % 2 := by
  unfold zN
  rw [Int64.toBitVec_and, BitVec.toNat_and]
  show _ &&& (2 ^ 1 - 1) = _ % 2 ^ 1
  rw [Nat.and_two_pow_sub_one_eq_mod]
theorem or128 {a : Nat} (h : a < 128) : a ||| 128 = a + 128 := by
  have e : 128 + a = 128 ||| a := Nat.two_pow_add_eq_or_of_lt (i := 7) (b := a) (by omega) 1
  rw [Nat.or_comm, ← e, Nat.add_comm]
/-- what the class writes, not at the end -/
theorem vb_class {z x : Int64} {m i : Nat} (h : zN x = zN z / 128 ^ i) (hi : i + 1 < m) : am_b8 ((x &&& 127).toInt32 ||| 128) = am_b8 (nI (vb (zN z) m i)) := by
  have e : (x &&& 127).toInt32 ||| 128 = ((x &&& 127) ||| 128).toInt32 := by
    rw [Int64.toInt32_or]; rfl
  rw [e]
  apply b8_zN
  have : zN ((x &&& 127) ||| 128) = zN x % 128 + 128 := by
    unfold zN
    rw [Int64.toBitVec_or, BitVec.toNat_or]
    show zN (x &&& 127) ||| 128 = _
    rw [zN_and127, or128 (Nat.mod_lt _ (by decide))]
    rfl
  rw [this, h, vb, if_pos hi]
/-- at the end -/
theorem vb_last {z x : Int64} {m i : Nat} (h : zN x = zN z / 128 ^ i) (hi : ¬ i + 1 < m) (h0 : zN z / 128 ^ (i + 1) = 0) : am_b8 x.toInt32 = am_b8 (nI (vb (zN z) m i)) := by
  apply b8_zN
  rw [vb, if_neg hi, h]
  rw [Nat.pow_succ, ← Nat.div_div_eq_div_mul] at h0
  have : zN z / 128 ^ i < 128 := by
    rcases Nat.lt_or_ge (zN z / 128 ^ i) 128 with q | q
    · exact q
    · have := Nat.div_pos q (by decide); omega
  omega
theorem vb_ref {z x : Int64} {m i : Nat} (h : zN x = zN z / 128 ^ i) : am_b8 ((x &&& 127) ||| (if i + 1 < m then 128 else 0)).toInt32 = am_b8 (nI (vb (zN z) m i)) := by
  apply b8_zN
  unfold vb
  split
  · have : zN ((x &&& 127) ||| 128) = zN x % 128 + 128 := by
      unfold zN
      rw [Int64.toBitVec_or, BitVec.toNat_or]
      show zN (x &&& 127) ||| 128 = _
      rw [zN_and127, or128 (Nat.mod_lt _ (by decide))]
      rfl
    rw [this, h]
  · have : zN ((x &&& 127) ||| 0) = zN x % 128 := by
      rw [Int64.or_zero, zN_and127]
    rw [this, h]
    omega
theorem by_all : ∀ x : Fin 256, (am_b8 (nI x.1) &&& 255 = nI x.1) ∧ ((nI x.1 &&& 127).toInt64 = Int64.ofNat (x.1 % 128)) ∧ ((127 < nI x.1) ↔ 128 ≤ x.1) ∧ ((am_b8 (nI x.1)).toInt64 &&& 127 = Int64.ofNat (x.1 % 128)) ∧ ((am_b8 (nI x.1) < 0) ↔ 128 ≤ x.1) := by decide +kernel
/-- seven bits more -/
theorem vb_in {z : Int64} {i : Nat} (hi : i < 10) : Int64.ofNat (zN z % 128 ^ i) ||| (Int64.ofNat (zN z / 128 ^ i % 128) <<< (Int64.ofNat (7 * i))) = Int64.ofNat (zN z % 128 ^ (i + 1)) := by
  have hz := zN_lt z
  have hle : ∀ k, zN z % k ≤ zN z := fun k => Nat.mod_le _ _
  apply zN_inj
  rw [zN_of (Nat.lt_of_le_of_lt (hle _) hz)]
  have e : zN (Int64.ofNat (zN z % 128 ^ i) ||| (Int64.ofNat (zN z / 128 ^ i % 128) <<< (Int64.ofNat (7 * i)))) = (zN z % 128 ^ i) ||| (zN (Int64.ofNat (zN z / 128 ^ i % 128) <<< (Int64.ofNat (7 * i)))) := by
    show (_ : BitVec 64).toNat = _
    rw [Int64.toBitVec_or, BitVec.toNat_or]
    show zN (Int64.ofNat _) ||| _ = _
    rw [zN_of (Nat.lt_of_le_of_lt (hle _) hz)]
    rfl
  rw [e]
  have hd : zN z % 128 ^ (i + 1) = 128 ^ i * (zN z / 128 ^ i % 128) + zN z % 128 ^ i := by
    rw [Nat.pow_succ, Nat.mod_mul]
    omega
  have e2 : zN (Int64.ofNat (zN z / 128 ^ i % 128) <<< (Int64.ofNat (7 * i))) = 128 ^ i * (zN z / 128 ^ i % 128) := by
    show (_ : BitVec 64).toNat = _
    rw [sl_bv rfl (by omega), BitVec.toNat_shiftLeft]
    show zN (Int64.ofNat _) <<< _ % 2 ^ 64 = _
    rw [zN_of (by omega), Nat.shiftLeft_eq, ← p128, Nat.mul_comm]
    apply Nat.mod_eq_of_lt
    have := hle (128 ^ (i + 1))
    omega
  rw [e2, hd, Nat.or_comm]
  rw [p128]
  exact (Nat.two_pow_add_eq_or_of_lt (by rw [← p128]; exact Nat.mod_lt _ (Nat.pow_pos (by decide))) _).symm
theorem vb_end {z : Int64} {m : Nat} (h : zN z / 128 ^ m = 0) : Int64.ofNat (zN z % 128 ^ m) = z := by
  apply zN_inj
  have : zN z < 128 ^ m := (Nat.div_eq_zero_iff_lt (Nat.pow_pos (by decide))).mp h
  rw [Nat.mod_eq_of_lt this, zN_of (zN_lt z)]
theorem s7_l {i : Nat} (hi : i < 10) : (nI 7 * nI i).toInt64 &&& 63 = Int64.ofNat (7 * i) := by
  have : ∀ j : Fin 10, (nI 7 * nI j.1).toInt64 &&& 63 = Int64.ofNat (7 * j.1) := by decide
  exact this ⟨i, hi⟩
theorem s7_r {i : Nat} (hi : i < 10) : (nI (7 * i)).toInt64 &&& 63 = Int64.ofNat (7 * i) := by
  have : ∀ j : Fin 10, (nI (7 * j.1)).toInt64 &&& 63 = Int64.ofNat (7 * j.1) := by decide
  exact this ⟨i, hi⟩
