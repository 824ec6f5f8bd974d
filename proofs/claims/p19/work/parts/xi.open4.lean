/-! THE REFERENCE OPENS, 4: keys; isLaid -/
def ka (y : Nat → Nat) : Nat → Nat
  | 0 => 0
  | b + 1 => ka y b * 256 + y b
theorem ka_lt {y : Nat → Nat} : ∀ b, (∀ i, i < b → y i < 256) → ka y b < 256 ^ b
  | 0, _ => by simp [ka]
  | b + 1, h => by
    have ih := ka_lt b (fun i hi => h i (by omega))
    have := h b (by omega)
    unfold ka
    rw [Nat.pow_succ]
    omega
theorem ka_at {y : Nat → Nat} : ∀ b j, j < b → (∀ i, i < b → y i < 256) → ka y b / 256 ^ (b - 1 - j) % 256 = y j
  | 0, j, hj, _ => by omega
  | b + 1, j, hj, h => by
    have hb := h b (by omega)
    unfold ka
    by_cases e : j = b
    · subst e
      rw [Nat.add_sub_cancel, Nat.sub_self, Nat.pow_zero, Nat.div_one]
      omega
    · rw [show b + 1 - 1 - j = (b - 1 - j) + 1 by omega, Nat.pow_succ', ← Nat.div_div_eq_div_mul, show (ka y b * 256 + y b) / 256 = ka y b by omega]
      exact ka_at b j (by omega) (fun i hi => h i (by omega))
theorem zN_and255 (x : Int64) : zN (x &&& 255) = zN x % 256 := by
  unfold zN
  rw [Int64.toBitVec_and, BitVec.toNat_and]
  show x.toBitVec.toNat &&& 255 = _
  exact Nat.and_two_pow_sub_one_eq_mod _ 8
theorem moO_n {z : Int64} {j : Nat} (hj : j < 8) : mo_O z j = nI (zN z / 256 ^ (7 - j) % 256) := by
  unfold mo_O
  refine l2i_small ?_ (by omega)
  rw [zN_and255, zN_sh (ks_n hj) (by omega)]
  have : (2 : Nat) ^ (56 - 8 * j) = 256 ^ (7 - j) := by
    rw [show (256 : Nat) = 2 ^ 8 by decide, ← Nat.pow_mul]
    congr 1
    omega
  rw [this]
theorem nx128 {x : Nat} (hx : x < 256) : nI x ^^^ 128 = nI (x ^^^ 128) ∧ x ^^^ 128 < 256 ∧ (x ^^^ 128) ^^^ 128 = x := by
  have : ∀ x : Fin 256, nI x.1 ^^^ 128 = nI (x.1 ^^^ 128) ∧ x.1 ^^^ 128 < 256 ∧ (x.1 ^^^ 128) ^^^ 128 = x.1 := by decide +kernel
  exact this ⟨x, hx⟩
/-- the digits of a key whose octets are x -/
def ky (x : Nat → Nat) (j : Nat) : Nat := if j = 0 then x 0 ^^^ 128 else x j
theorem ky_lt {x : Nat → Nat} {n : Nat} (h : ∀ j, j < n → x j < 256) : ∀ j, j < n → ky x j < 256 := fun j hj => by
  unfold ky
  split
  · rename_i e
    subst e
    exact (nx128 (h 0 hj)).2.1
  · exact h j hj
theorem moK_of {x : Nat → Nat} {K : Int64} (h : ∀ j, j < 8 → x j < 256) (hK : zN K = ka (ky x) 8) : ∀ j, j < 8 → mo_K K j = nI (x j) := fun j hj => by
  have d := ka_at (y := ky x) 8 j hj (ky_lt h)
  unfold mo_K
  rw [moO_n hj, hK, show 7 - j = 8 - 1 - j by omega, d]
  by_cases e : j = 0
  · subst e
    rw [if_pos rfl]
    have q := nx128 (h 0 hj)
    show nI (x 0 ^^^ 128) ^^^ 128 = nI (x 0)
    rw [(nx128 q.2.1).1, q.2.2]
  · rw [if_neg e]
    unfold ky
    rw [if_neg e]
theorem zN_step {k : Int64} {w : Nat} (hk : zN k < 2 ^ 56) (hw : w < 256) : zN ((k <<< ((8 : Int32).toInt64 &&& 63)) ||| (nI w).toInt64) = zN k * 256 + w := by
  have e8 : (8 : Int32).toInt64 &&& 63 = Int64.ofNat 8 := by decide
  have ew : zN (nI w).toInt64 = w := by
    have : ∀ w : Fin 256, zN (nI w.1).toInt64 = w.1 := by decide +kernel
    exact this ⟨w, hw⟩
  have es : zN (k <<< ((8 : Int32).toInt64 &&& 63)) = zN k * 256 := by
    unfold zN at *
    rw [sl_bv e8 (by omega), BitVec.toNat_shiftLeft, Nat.shiftLeft_eq, Nat.mod_eq_of_lt (by omega)]
  have eo' : zN ((k <<< ((8 : Int32).toInt64 &&& 63)) ||| (nI w).toInt64) = zN (k <<< ((8 : Int32).toInt64 &&& 63)) ||| zN (nI w).toInt64 := by
    unfold zN
    rw [Int64.toBitVec_or, BitVec.toNat_or]
  rw [eo', es, ew]
  have := Nat.two_pow_add_eq_or_of_lt (i := 8) (b := w) (by omega) (zN k)
  rw [Nat.mul_comm (zN k) 256]
  exact this.symm
theorem kc_eq {a b : Int64} {s : Nat} (hs : s < 8) (h1 : ∀ j, j < s → mo_K a j = mo_K b j) (h2 : mo_K a s ≠ mo_K b s) : kc a b = s := by
  have key : ∀ r, r ≤ 8 → 8 - r ≤ s → kc_r a b r = s := by
    intro r
    induction r with
    | zero => intro _ h; omega
    | succ r ih =>
      intro hr h
      unfold kc_r
      by_cases e : 7 - r = s
      · rw [if_neg (fun q => h2 (by rw [kq_K hs, ← e]; exact q))]
        exact e
      · have q : kq a b (7 - r) := by
          rw [← kq_K (by omega)]
          exact h1 _ (by omega)
        rw [if_pos q]
        exact ih (by omega) (by omega)
  exact key 8 (Nat.le_refl _) (by omega)
/-- the octets of the next key -/
def nk (h : am_H) (a s : Nat) (j : Nat) : Int32 := if j < s then am_I h 106 j else am_I h 73 (a + 1 + j - s) &&& 255
theorem rx_il_key {d a s n i pg : Nat} {bh e5 : Int32} {bf la : Int64} {x : Nat → Nat} {h : am_H} {Q : am_O → am_H → Prop} (hS : mo_Sk h) (ha : a + 10 < 131072) (hs : s ≤ 7) (hx : ∀ j, j < 8 → x j < 256 ∧ nk h a s j = nI (x j))
    (hq : ∀ g K, am_fi [106, 107] h g → (∀ j, j < 8 → am_I g 106 j = nI (x j)) → (∀ j, j < 8 → am_I g 107 j = am_I h 106 j) → zN K = ka (ky x) 8 → am_Ex nm_pr d mt_Mo_isLaid (218, [.ref 72, .int (nI pg), .int bh, .long bf, .retAddr 0, .int e5, .int (nI a), .int (nI n), .long la, .retAddr 0, .int (nI i), .int (nI s), .long K, .retAddr 0, .int (nI 8)], [], g) Q) : ∀ (r b : Nat) (k : Int64) (g : am_H), r + b = 8 → am_fi [106, 107] h g → (∀ j, j < b → am_I g 106 j = nI (x j)) → (∀ j, b ≤ j → am_I g 106 j = am_I h 106 j) → (∀ j, j < b → am_I g 107 j = am_I h 106 j) → zN k = ka (ky x) b →
    am_Ex nm_pr d mt_Mo_isLaid (113, [.ref 72, .int (nI pg), .int bh, .long bf, .retAddr 0, .int e5, .int (nI a), .int (nI n), .long la, .retAddr 0, .int (nI i), .int (nI s), .long k, .retAddr 0, .int (nI b)], [], g) Q
  | 0, b, k, g, hr, F, u1, u2, u3, hk => by
    have e : b = 8 := by omega
    subst e
    have l1 : ¬ nI 8 < 8 := by decide
    have S := hS.fi F
    refine am_go [120, 218] 3 ?_
    simp only [am_wp, am_stp, am_en, am_as, am_pad, am_nth, am_set, am_st1, am_st2, am_kl, am_kill, am_mem, am_fv, am_tk, am_wt, am_bk, Option.toList, List.cons_append, List.nil_append, Nat.reduceAdd, Nat.reduceEqDiff, Nat.reduceLeDiff, reduceIte, Nat.reduceLT, or_self, true_or, or_true, if_true, if_false, and_self, and_true, true_and, not_false_eq_true, not_true_eq_false, fd_Mo_isLaid_113, fd_Mo_isLaid_115, fd_Mo_isLaid_117, S.all, l1]
    exact hq g k F u1 u3 hk
  | r + 1, b, k, g, hr, F, u1, u2, u3, hk => by
    have S := hS.fi F
    have l1 : nI b < 8 := nI_lt (b := 8) (by omega) (by decide)
    have i1 := am_inb (c := b) (N := 8) (by omega) (by omega)
    have q1 : (nI b).toNatClampNeg = b := nI_clamp (by omega)
    obtain ⟨x1, x2⟩ := hx b (by omega)
    refine am_go [120, 218] 3 ?_
    simp only [am_wp, am_stp, am_en, am_as, am_pad, am_nth, am_set, am_st1, am_st2, am_kl, am_kill, am_mem, am_fv, am_tk, am_wt, am_bk, Option.toList, List.cons_append, List.nil_append, Nat.reduceAdd, Nat.reduceEqDiff, Nat.reduceLeDiff, reduceIte, Nat.reduceLT, or_self, true_or, or_true, if_true, if_false, and_self, and_true, true_and, not_false_eq_true, not_true_eq_false, fd_Mo_isLaid_113, fd_Mo_isLaid_115, fd_Mo_isLaid_117, S.all, l1]
    refine am_go [] 8 ?_
    simp only [am_wp, am_stp, am_en, am_as, am_pad, am_nth, am_set, am_st1, am_st2, am_kl, am_kill, am_mem, am_fv, am_tk, am_wt, am_bk, Option.toList, List.cons_append, List.nil_append, Nat.reduceAdd, Nat.reduceEqDiff, Nat.reduceLeDiff, reduceIte, Nat.reduceLT, or_self, true_or, or_true, if_true, if_false, and_self, and_true, true_and, not_false_eq_true, not_true_eq_false, fd_Mo_isLaid_120, fd_Mo_isLaid_121, fd_Mo_isLaid_124, fd_Mo_isLaid_126, fd_Mo_isLaid_127, fd_Mo_isLaid_130, fd_Mo_isLaid_132, fd_Mo_isLaid_133, S.all, i1, q1]
    have F1 : am_fi [106, 107] h (am_sI g 107 b (am_I g 106 b)) := F.sI (by simp)
    have v106 : am_I (am_sI g 107 b (am_I g 106 b)) 106 = am_I g 106 := by funext j; rw [hx_I_sI, if_neg (by decide)]
    have v107 : ∀ j, am_I (am_sI g 107 b (am_I g 106 b)) 107 j = if j = b then am_I g 106 b else am_I g 107 j := fun j => by rw [hx_I_sI, if_pos rfl]
    generalize am_sI g 107 b (am_I g 106 b) = g1 at *
    have S1 := hS.fi F1
    have e73 : am_I g1 73 = am_I h 73 := F1.2.2.2.2.2.2.1 73 (by decide)
    -- behind the octet
    have rest : am_Ex nm_pr d mt_Mo_isLaid (176, [.ref 72, .int (nI pg), .int bh, .long bf, .retAddr 0, .int e5, .int (nI a), .int (nI n), .long la, .retAddr 0, .int (nI i), .int (nI s), .long k, .retAddr 0, .int (nI b)], [.int (nI (x b)), .int (nI b), .ref 106], g1) Q := by
      refine am_go [177] 1 ?_
      simp only [am_wp, am_stp, am_en, am_as, am_pad, am_nth, am_set, am_st1, am_st2, am_kl, am_kill, am_mem, am_fv, am_tk, am_wt, am_bk, Option.toList, List.cons_append, List.nil_append, Nat.reduceAdd, Nat.reduceEqDiff, Nat.reduceLeDiff, reduceIte, Nat.reduceLT, or_self, true_or, or_true, if_true, if_false, and_self, and_true, true_and, not_false_eq_true, not_true_eq_false, fd_Mo_isLaid_176, S1.all, i1, q1]
      have F2 : am_fi [106, 107] h (am_sI g1 106 b (nI (x b))) := F1.sI (by simp)
      have w106 : ∀ j, am_I (am_sI g1 106 b (nI (x b))) 106 j = if j = b then nI (x b) else am_I g 106 j := fun j => by rw [hx_I_sI, if_pos rfl, v106]
      have w107 : ∀ j, am_I (am_sI g1 106 b (nI (x b))) 107 j = if j = b then am_I g 106 b else am_I g 107 j := fun j => by rw [hx_I_sI, if_neg (by decide)]; exact v107 j
      have wb : am_I (am_sI g1 106 b (nI (x b))) 106 b = nI (x b) := by rw [w106, if_pos rfl]
      generalize am_sI g1 106 b (nI (x b)) = g2 at *
      have S2 := hS.fi F2
      have kl56 : zN k < 2 ^ 56 := by
        rw [hk]
        have := ka_lt (y := ky x) b (fun i hi => ky_lt (n := 8) (fun j hj => (hx j hj).1) i (by omega))
        have e : (256 : Nat) ^ b ≤ 256 ^ 7 := Nat.pow_le_pow_right (by decide) (by omega)
        have e7 : (256 : Nat) ^ 7 = 2 ^ 56 := by decide
        omega
      have fin : ∀ w, w < 256 → w = ky x b → am_Ex nm_pr d mt_Mo_isLaid (113, [.ref 72, .int (nI pg), .int bh, .long bf, .retAddr 0, .int e5, .int (nI a), .int (nI n), .long la, .retAddr 0, .int (nI i), .int (nI s), .long ((k <<< ((8 : Int32).toInt64 &&& 63)) ||| (nI w).toInt64), .retAddr 0, .int (nI (b + 1))], [], g2) Q := fun w hw ew => by
        refine rx_il_key hS ha hs hx hq r (b + 1) _ g2 (by omega) F2 (fun j hj => ?_) (fun j hj => ?_) (fun j hj => ?_) ?_
        · rw [w106]
          by_cases e : j = b
          · rw [if_pos e, e]
          · rw [if_neg e]; exact u1 j (by omega)
        · rw [w106, if_neg (by omega)]; exact u2 j (by omega)
        · rw [w107]
          by_cases e : j = b
          · rw [if_pos e, e]; exact u2 b (Nat.le_refl _)
          · rw [if_neg e]; exact u3 j (by omega)
        · rw [zN_step kl56 hw, hk, ew]
          rfl
      by_cases b0 : b = 0
      · have z : (nI b = 0) = True := eq_true (by rw [b0]; rfl)
        have q := nx128 x1
        refine am_go [187, 201] 5 ?_
        simp only [am_wp, am_stp, am_en, am_as, am_pad, am_nth, am_set, am_st1, am_st2, am_kl, am_kill, am_mem, am_fv, am_tk, am_wt, am_bk, Option.toList, List.cons_append, List.nil_append, Nat.reduceAdd, Nat.reduceEqDiff, Nat.reduceLeDiff, reduceIte, Nat.reduceLT, or_self, true_or, or_true, if_true, if_false, and_self, and_true, true_and, not_false_eq_true, not_true_eq_false, fd_Mo_isLaid_177, fd_Mo_isLaid_179, fd_Mo_isLaid_181, fd_Mo_isLaid_182, fd_Mo_isLaid_184, S2.all, z]
        refine am_go [113] 12 ?_
        simp only [am_wp, am_stp, am_en, am_as, am_pad, am_nth, am_set, am_st1, am_st2, am_kl, am_kill, am_mem, am_fv, am_tk, am_wt, am_bk, Option.toList, List.cons_append, List.nil_append, Nat.reduceAdd, Nat.reduceEqDiff, Nat.reduceLeDiff, reduceIte, Nat.reduceLT, or_self, true_or, or_true, if_true, if_false, and_self, and_true, true_and, not_false_eq_true, not_true_eq_false, fd_Mo_isLaid_187, fd_Mo_isLaid_188, fd_Mo_isLaid_191, fd_Mo_isLaid_193, fd_Mo_isLaid_194, fd_Mo_isLaid_197, fd_Mo_isLaid_198, fd_Mo_isLaid_208, fd_Mo_isLaid_209, fd_Mo_isLaid_210, fd_Mo_isLaid_212, fd_Mo_isLaid_215, S2.all, i1, q1, wb, q.1, nI_1]
        exact fin _ q.2.1 (by unfold ky; rw [if_pos b0, b0])
      · have z : ¬ nI b = 0 := nI_ne0 (by omega) (by omega)
        refine am_go [187, 201] 5 ?_
        simp only [am_wp, am_stp, am_en, am_as, am_pad, am_nth, am_set, am_st1, am_st2, am_kl, am_kill, am_mem, am_fv, am_tk, am_wt, am_bk, Option.toList, List.cons_append, List.nil_append, Nat.reduceAdd, Nat.reduceEqDiff, Nat.reduceLeDiff, reduceIte, Nat.reduceLT, or_self, true_or, or_true, if_true, if_false, and_self, and_true, true_and, not_false_eq_true, not_true_eq_false, fd_Mo_isLaid_177, fd_Mo_isLaid_179, fd_Mo_isLaid_181, fd_Mo_isLaid_182, fd_Mo_isLaid_184, S2.all, z]
        refine am_go [113] 9 ?_
        simp only [am_wp, am_stp, am_en, am_as, am_pad, am_nth, am_set, am_st1, am_st2, am_kl, am_kill, am_mem, am_fv, am_tk, am_wt, am_bk, Option.toList, List.cons_append, List.nil_append, Nat.reduceAdd, Nat.reduceEqDiff, Nat.reduceLeDiff, reduceIte, Nat.reduceLT, or_self, true_or, or_true, if_true, if_false, and_self, and_true, true_and, not_false_eq_true, not_true_eq_false, fd_Mo_isLaid_201, fd_Mo_isLaid_202, fd_Mo_isLaid_205, fd_Mo_isLaid_207, fd_Mo_isLaid_208, fd_Mo_isLaid_209, fd_Mo_isLaid_210, fd_Mo_isLaid_212, fd_Mo_isLaid_215, S2.all, i1, q1, wb, nI_1]
        exact fin _ x1 (by unfold ky; rw [if_neg b0])
    by_cases hb : b < s
    · have l2 : nI b < nI s := nI_lt hb (by omega)
      have o1 : am_I g1 106 b = nI (x b) := by
        rw [v106, u2 b (Nat.le_refl _), ← x2]
        unfold nk
        rw [if_pos hb]
      refine am_go [147, 157] 6 ?_
      simp only [am_wp, am_stp, am_en, am_as, am_pad, am_nth, am_set, am_st1, am_st2, am_kl, am_kill, am_mem, am_fv, am_tk, am_wt, am_bk, Option.toList, List.cons_append, List.nil_append, Nat.reduceAdd, Nat.reduceEqDiff, Nat.reduceLeDiff, reduceIte, Nat.reduceLT, or_self, true_or, or_true, if_true, if_false, and_self, and_true, true_and, not_false_eq_true, not_true_eq_false, fd_Mo_isLaid_134, fd_Mo_isLaid_135, fd_Mo_isLaid_138, fd_Mo_isLaid_140, fd_Mo_isLaid_142, fd_Mo_isLaid_144, S1.all, l2]
      refine am_go [176] 5 ?_
      simp only [am_wp, am_stp, am_en, am_as, am_pad, am_nth, am_set, am_st1, am_st2, am_kl, am_kill, am_mem, am_fv, am_tk, am_wt, am_bk, Option.toList, List.cons_append, List.nil_append, Nat.reduceAdd, Nat.reduceEqDiff, Nat.reduceLeDiff, reduceIte, Nat.reduceLT, or_self, true_or, or_true, if_true, if_false, and_self, and_true, true_and, not_false_eq_true, not_true_eq_false, fd_Mo_isLaid_147, fd_Mo_isLaid_148, fd_Mo_isLaid_151, fd_Mo_isLaid_153, fd_Mo_isLaid_154, S1.all, i1, q1, o1]
      exact rest
    · have l2 : ¬ nI b < nI s := nI_nlt (by omega) (by omega)
      have e1 : nI (a + 1 + b) - nI s = nI (a + 1 + b - s) := nI_sub (by omega)
      have i2 := am_inb (c := a + 1 + b - s) (N := 131072) (by omega) (by omega)
      have q2 : (nI (a + 1 + b - s)).toNatClampNeg = a + 1 + b - s := nI_clamp (by omega)
      have o1 : am_I g1 73 (a + 1 + b - s) &&& 255 = nI (x b) := by
        rw [e73, ← x2]
        unfold nk
        rw [if_neg hb]
      generalize hD : a + 1 + b - s = D at *
      refine am_go [147, 157] 6 ?_
      simp only [am_wp, am_stp, am_en, am_as, am_pad, am_nth, am_set, am_st1, am_st2, am_kl, am_kill, am_mem, am_fv, am_tk, am_wt, am_bk, Option.toList, List.cons_append, List.nil_append, Nat.reduceAdd, Nat.reduceEqDiff, Nat.reduceLeDiff, reduceIte, Nat.reduceLT, or_self, true_or, or_true, if_true, if_false, and_self, and_true, true_and, not_false_eq_true, not_true_eq_false, fd_Mo_isLaid_134, fd_Mo_isLaid_135, fd_Mo_isLaid_138, fd_Mo_isLaid_140, fd_Mo_isLaid_142, fd_Mo_isLaid_144, S1.all, l2]
      refine am_go [176] 12 ?_
      simp only [am_wp, am_stp, am_en, am_as, am_pad, am_nth, am_set, am_st1, am_st2, am_kl, am_kill, am_mem, am_fv, am_tk, am_wt, am_bk, Option.toList, List.cons_append, List.nil_append, Nat.reduceAdd, Nat.reduceEqDiff, Nat.reduceLeDiff, reduceIte, Nat.reduceLT, or_self, true_or, or_true, if_true, if_false, and_self, and_true, true_and, not_false_eq_true, not_true_eq_false, fd_Mo_isLaid_157, fd_Mo_isLaid_158, fd_Mo_isLaid_161, fd_Mo_isLaid_163, fd_Mo_isLaid_164, fd_Mo_isLaid_165, fd_Mo_isLaid_167, fd_Mo_isLaid_168, fd_Mo_isLaid_170, fd_Mo_isLaid_171, fd_Mo_isLaid_172, fd_Mo_isLaid_175, S1.all, nI_1, nI_add, e1, i2, q2, o1]
      exact rest
