/-! THE REFERENCE: a slot, its pages -/
theorem mo_sl_ {h : am_H} (c : mo_Sk h) : am_kd h 72 = 12 ∧ (am_R h 72 15 = 77 ∧ am_kd h 77 = 100 ∧ am_ln h 77 = 100) ∧ (am_R h 72 16 = 78 ∧ am_kd h 78 = 100 ∧ am_ln h 78 = 100) ∧ (am_R h 72 17 = 79 ∧ am_kd h 79 = 100 ∧ am_ln h 79 = 100) ∧ (am_R h 72 18 = 80 ∧ am_kd h 80 = 100 ∧ am_ln h 80 = 100) ∧ (am_R h 72 19 = 81 ∧ am_kd h 81 = 100 ∧ am_ln h 81 = 100) ∧ (am_R h 72 20 = 82 ∧ am_kd h 82 = 100 ∧ am_ln h 82 = 102400) ∧ (am_R h 72 21 = 83 ∧ am_kd h 83 = 101 ∧ am_ln h 83 = 102400) ∧ (am_R h 72 22 = 84 ∧ am_kd h 84 = 101 ∧ am_ln h 84 = 100) ∧ (am_R h 72 23 = 85 ∧ am_kd h 85 = 101 ∧ am_ln h 85 = 800) ∧ (am_R h 72 25 = 86 ∧ am_kd h 86 = 100 ∧ am_ln h 86 = 9) ∧ (am_R h 72 29 = 90 ∧ am_kd h 90 = 103 ∧ am_ln h 90 = 1024) := by
  obtain ⟨c1, rr, aa⟩ := c
  exact ⟨c1, ⟨(rr 15).trans rfl, (aa 4 _ rfl).1, (aa 4 _ rfl).2⟩, ⟨(rr 16).trans rfl, (aa 5 _ rfl).1, (aa 5 _ rfl).2⟩, ⟨(rr 17).trans rfl, (aa 6 _ rfl).1, (aa 6 _ rfl).2⟩, ⟨(rr 18).trans rfl, (aa 7 _ rfl).1, (aa 7 _ rfl).2⟩, ⟨(rr 19).trans rfl, (aa 8 _ rfl).1, (aa 8 _ rfl).2⟩, ⟨(rr 20).trans rfl, (aa 9 _ rfl).1, (aa 9 _ rfl).2⟩, ⟨(rr 21).trans rfl, (aa 10 _ rfl).1, (aa 10 _ rfl).2⟩, ⟨(rr 22).trans rfl, (aa 11 _ rfl).1, (aa 11 _ rfl).2⟩, ⟨(rr 23).trans rfl, (aa 12 _ rfl).1, (aa 12 _ rfl).2⟩, ⟨(rr 25).trans rfl, (aa 13 _ rfl).1, (aa 13 _ rfl).2⟩, ⟨(rr 29).trans rfl, (aa 17 _ rfl).1, (aa 17 _ rfl).2⟩⟩
theorem l2_slot_loop {d s0 : Nat} {lv : Int32} {n : Nat} {w4 w5 w6 w7 w8 : Value} {h : am_H} {Q : am_O → am_H → Prop} (hS : mo_Sk h) (h0 : s0 < 100) (hz : ¬ 0 < am_I h 77 s0) (hx : am_Ex nm_pr d mt_Mo_writeRun (32, [.ref 72, .int lv, .int (nI n), .int (nI s0), w4, w5, w6, w7, w8], [], h) Q) : ∀ (m s : Nat), m + s = s0 → (∀ t, s ≤ t → t < s0 → 0 < am_I h 77 t) →
    am_Ex nm_pr d mt_Mo_writeRun (17, [.ref 72, .int lv, .int (nI n), .int (nI s), w4, w5, w6, w7, w8], [], h) Q
  | m, s, hm, hp => by
    obtain ⟨k72, ⟨r15, k77, n77⟩, -⟩ := mo_sl_ hS
    have i1 := am_inb (c := s) (N := 100) (by omega) (by omega)
    have q1 : (nI s).toNatClampNeg = s := nI_clamp (by omega)
    by_cases e : s = s0
    · subst e
      refine am_go [26, 32] 5 ?_
      simp only [am_wp, am_stp, am_en, am_as, am_pad, am_nth, am_set, am_st1, am_st2, am_kl, am_kill, am_mem, am_fv, am_tk, am_wt, am_bk, Option.toList, List.cons_append, List.nil_append, Nat.reduceAdd, Nat.reduceEqDiff, Nat.reduceLeDiff, reduceIte, Nat.reduceLT, or_self, true_or, or_true, if_true, if_false, and_self, and_true, true_and, not_false_eq_true, not_true_eq_false, fd_Mo_writeRun_17, fd_Mo_writeRun_18, fd_Mo_writeRun_21, fd_Mo_writeRun_22, fd_Mo_writeRun_23, k72, r15, k77, n77, i1, q1, hz]
      exact hx
    · have hu := hp s (Nat.le_refl _) (by omega)
      obtain ⟨m, rfl⟩ : ∃ k, m = k + 1 := ⟨m - 1, by omega⟩
      refine am_go [32, 17] 7 ?_
      simp only [am_wp, am_stp, am_en, am_as, am_pad, am_nth, am_set, am_st1, am_st2, am_kl, am_kill, am_mem, am_fv, am_tk, am_wt, am_bk, Option.toList, List.cons_append, List.nil_append, Nat.reduceAdd, Nat.reduceEqDiff, Nat.reduceLeDiff, reduceIte, Nat.reduceLT, or_self, true_or, or_true, if_true, if_false, and_self, and_true, true_and, not_false_eq_true, not_true_eq_false, fd_Mo_writeRun_17, fd_Mo_writeRun_18, fd_Mo_writeRun_21, fd_Mo_writeRun_22, fd_Mo_writeRun_23, fd_Mo_writeRun_26, fd_Mo_writeRun_29, k72, r15, k77, n77, i1, q1, hu, nI_1]
      exact l2_slot_loop hS h0 hz hx m (s + 1) (by omega) (fun t t1 t2 => hp t (by omega) t2)
/-- the used array goes on to the page q -/
theorem l2_used_loop {d P q n s k : Nat} {lv : Int32} {w6 w7 w8 : Value} {h : am_H} {Q : am_O → am_H → Prop} (hS : mo_Sk h) (hP : P ≤ 1024) (hq : q < P) (hz : am_I h 90 q = 0) (hx : am_Ex nm_pr d mt_Mo_writeRun (94, [.ref 72, .int lv, .int (nI n), .int (nI s), .int (nI q), .int (nI k), w6, w7, w8], [], h) Q) : ∀ (m p : Nat), m + p = q → (∀ t, p ≤ t → t < q → am_I h 90 t ≠ 0) →
    am_Ex nm_pr d mt_Mo_writeRun (78, [.ref 72, .int lv, .int (nI n), .int (nI s), .int (nI p), .int (nI k), w6, w7, w8], [], h) Q
  | m, p, hm, hp => by
    obtain ⟨k72, -, -, -, -, -, -, -, -, -, -, ⟨r29, k90, n90⟩⟩ := mo_sl_ hS
    have i1 := am_inb (c := p) (N := 1024) (by omega) (by omega)
    have q1 : (nI p).toNatClampNeg = p := nI_clamp (by omega)
    by_cases e : p = q
    · subst e
      refine am_go [88, 94] 5 ?_
      simp only [am_wp, am_stp, am_en, am_as, am_pad, am_nth, am_set, am_st1, am_st2, am_kl, am_kill, am_mem, am_fv, am_tk, am_wt, am_bk, Option.toList, List.cons_append, List.nil_append, Nat.reduceAdd, Nat.reduceEqDiff, Nat.reduceLeDiff, reduceIte, Nat.reduceLT, or_self, true_or, or_true, if_true, if_false, and_self, and_true, true_and, not_false_eq_true, not_true_eq_false, fd_Mo_writeRun_78, fd_Mo_writeRun_79, fd_Mo_writeRun_82, fd_Mo_writeRun_84, fd_Mo_writeRun_85, k72, r29, k90, n90, i1, q1, hz]
      exact hx
    · have hu := hp p (Nat.le_refl _) (by omega)
      obtain ⟨m, rfl⟩ : ∃ k, m = k + 1 := ⟨m - 1, by omega⟩
      refine am_go [94, 78] 7 ?_
      simp only [am_wp, am_stp, am_en, am_as, am_pad, am_nth, am_set, am_st1, am_st2, am_kl, am_kill, am_mem, am_fv, am_tk, am_wt, am_bk, Option.toList, List.cons_append, List.nil_append, Nat.reduceAdd, Nat.reduceEqDiff, Nat.reduceLeDiff, reduceIte, Nat.reduceLT, or_self, true_or, or_true, if_true, if_false, and_self, and_true, true_and, not_false_eq_true, not_true_eq_false, fd_Mo_writeRun_78, fd_Mo_writeRun_79, fd_Mo_writeRun_82, fd_Mo_writeRun_84, fd_Mo_writeRun_85, fd_Mo_writeRun_88, fd_Mo_writeRun_91, k72, r29, k90, n90, i1, q1, hu, nI_1]
      exact l2_used_loop hS hP hq hz hx m (p + 1) (by omega) (fun t t1 t2 => hp t (by omega) t2)
/-- the pages chosen so far -/
def pl_S (P : Nat) (h g : am_H) (s p : Nat) (pl : List Nat) : Prop := am_fi [82] h g ∧ am_L g = am_L h ∧ (∀ k q, pl[k]? = some q → am_I g 82 (1024 * s + k) = nI q) ∧ (∀ j, ¬ (1024 * s ≤ j ∧ j < 1024 * s + 1024) → am_I g 82 j = am_I h 82 j) ∧ pl.Nodup ∧ ∀ q ∈ pl, 2 ≤ q ∧ q < P ∧ q < p ∧ am_I h 90 q = 0
theorem l2_pick_loop {d P n s : Nat} {lv : Int32} {w6 w7 w8 : Value} {h : am_H} {Q : am_O → am_H → Prop} (hS : mo_Sk h) (hP : P ≤ 1024) (hs : s < 100) (hn : n ≤ 1024) (hx : ∀ g pl p, pl_S P h g s p pl → pl.length = n → am_Ex nm_pr d mt_Mo_writeRun (118, [.ref 72, .int lv, .int (nI n), .int (nI s), .int (nI p), .int (nI n), w6, w7, w8], [], g) Q) : ∀ (m p : Nat) (pl : List Nat) (g : am_H), m + pl.length = n → 2 ≤ p → p ≤ P → pl_S P h g s p pl → m + fz (am_I h 90) p ≤ fz (am_I h 90) P →
    am_Ex nm_pr d mt_Mo_writeRun (72, [.ref 72, .int lv, .int (nI n), .int (nI s), .int (nI p), .int (nI pl.length), w6, w7, w8], [], g) Q
  | 0, p, pl, g, hm, h2, hpP, A, hf => by
    have e : pl.length = n := by omega
    have l1 : ¬ nI pl.length < nI n := nI_nlt (by omega) (by omega)
    refine am_go [78, 118] 3 ?_
    simp only [am_wp, am_stp, am_en, am_as, am_pad, am_nth, am_set, am_st1, am_st2, am_kl, am_kill, am_mem, am_fv, am_tk, am_wt, am_bk, Option.toList, List.cons_append, List.nil_append, Nat.reduceAdd, Nat.reduceEqDiff, Nat.reduceLeDiff, reduceIte, Nat.reduceLT, or_self, true_or, or_true, if_true, if_false, and_self, and_true, true_and, not_false_eq_true, not_true_eq_false, fd_Mo_writeRun_72, fd_Mo_writeRun_74, fd_Mo_writeRun_75, l1]
    have := hx g pl p A e
    rw [← e] at this ⊢
    exact this
  | m + 1, p, pl, g, hm, h2, hpP, A, hf => by
    obtain ⟨F, FL, a1, a2, a3, a4⟩ := id A
    have l1 : nI pl.length < nI n := nI_lt (by omega) (by omega)
    have G := hS.fi F
    obtain ⟨q, t1, t2, t3, t4, t5⟩ := fz_least (f := am_I h 90) (m := p) P hpP (by omega)
    obtain ⟨k72, -, -, -, -, -, ⟨r20, k82, n82⟩, -⟩ := mo_sl_ G
    have e90 : am_I g 90 = am_I h 90 := F.2.2.2.2.2.2.1 90 (by simp)
    refine am_go [78, 118] 3 ?_
    simp only [am_wp, am_stp, am_en, am_as, am_pad, am_nth, am_set, am_st1, am_st2, am_kl, am_kill, am_mem, am_fv, am_tk, am_wt, am_bk, Option.toList, List.cons_append, List.nil_append, Nat.reduceAdd, Nat.reduceEqDiff, Nat.reduceLeDiff, reduceIte, Nat.reduceLT, or_self, true_or, or_true, if_true, if_false, and_self, and_true, true_and, not_false_eq_true, not_true_eq_false, fd_Mo_writeRun_72, fd_Mo_writeRun_74, fd_Mo_writeRun_75, l1]
    refine l2_used_loop (P := P) (q := q) G hP t2 (by rw [e90]; exact t4) ?_ (q - p) p (by omega) (fun t h1 h2' => by rw [e90]; exact t5 t h1 (by omega) h2')
    have e1 : 1024 * nI s = nI (1024 * s) := (Int32.ofNat_mul 1024 s).symm
    have i2 := am_inb (c := 1024 * s + pl.length) (N := 102400) (by omega) (by omega)
    have q2 : (nI (1024 * s + pl.length)).toNatClampNeg = 1024 * s + pl.length := nI_clamp (by omega)
    refine am_go [] 9 ?_
    simp only [am_wp, am_stp, am_en, am_as, am_pad, am_nth, am_set, am_st1, am_st2, am_kl, am_kill, am_mem, am_fv, am_tk, am_wt, am_bk, Option.toList, List.cons_append, List.nil_append, Nat.reduceAdd, Nat.reduceEqDiff, Nat.reduceLeDiff, reduceIte, Nat.reduceLT, or_self, true_or, or_true, if_true, if_false, and_self, and_true, true_and, not_false_eq_true, not_true_eq_false, fd_Mo_writeRun_94, fd_Mo_writeRun_95, fd_Mo_writeRun_98, fd_Mo_writeRun_101, fd_Mo_writeRun_102, fd_Mo_writeRun_103, fd_Mo_writeRun_105, fd_Mo_writeRun_106, fd_Mo_writeRun_108, k72, r20, e1, nI_add, k82, n82, i2, q2]
    refine am_go [72] 3 ?_
    simp only [am_wp, am_stp, am_en, am_as, am_pad, am_nth, am_set, am_st1, am_st2, am_kl, am_kill, am_mem, am_fv, am_tk, am_wt, am_bk, Option.toList, List.cons_append, List.nil_append, Nat.reduceAdd, Nat.reduceEqDiff, Nat.reduceLeDiff, reduceIte, Nat.reduceLT, or_self, true_or, or_true, if_true, if_false, and_self, and_true, true_and, not_false_eq_true, not_true_eq_false, fd_Mo_writeRun_109, fd_Mo_writeRun_112, fd_Mo_writeRun_115, nI_1]
    have hlen : (pl ++ [q]).length = pl.length + 1 := by simp
    have hfz : fz (am_I h 90) (q + 1) = fz (am_I h 90) p + 1 := by
      have hq0 : fz (am_I h 90) q = fz (am_I h 90) p := by
        have : ∀ x, p ≤ x → x ≤ q → fz (am_I h 90) x = fz (am_I h 90) p := by
          intro x
          induction x with
          | zero => intro h1 _; have : p = 0 := by omega
                    subst this; rfl
          | succ x ih =>
            intro h1 h2'
            by_cases ex : p = x + 1
            · rw [ex]
            · have := ih (by omega) (by omega)
              show fz (am_I h 90) x + (if 2 ≤ x ∧ am_I h 90 x = 0 then 1 else 0) = _
              rw [if_neg (fun z => t5 x (by omega) z.1 (by omega) z.2)]
              exact this
        exact this q t1 (Nat.le_refl _)
      show fz (am_I h 90) q + (if 2 ≤ q ∧ am_I h 90 q = 0 then 1 else 0) = _
      rw [if_pos ⟨t3, t4⟩, hq0]
    have A' : pl_S P h (am_sI g 82 (1024 * s + pl.length) (nI q)) s (q + 1) (pl ++ [q]) := by
      refine ⟨F.sI (by simp), FL, fun k x hk => ?_, fun j hj => ?_, ?_, fun x hx => ?_⟩
      · simp only [hx_nx_sI, hx_ce_sI, hx_sl_sI, hx_kd_sI, hx_ln_sI, hx_I_sI, hx_L_sI, hx_R_sI, hx_nx_sL, hx_ce_sL, hx_sl_sL, hx_kd_sL, hx_ln_sL, hx_I_sL, hx_L_sL, hx_R_sL, hx_nx_sR, hx_ce_sR, hx_sl_sR, hx_kd_sR, hx_ln_sR, hx_I_sR, hx_L_sR, hx_R_sR, hx_nx_al, hx_ce_al, hx_sl_al, hx_kd_al, hx_ln_al, hx_I_al, hx_L_al, hx_R_al, hx_nx_row, hx_ce_row, hx_sl_row, hx_kd_row, hx_ln_row, hx_I_row, hx_L_row, hx_R_row, hx_nx_mk, hx_kd_mk, hx_ln_mk, hx_I_mk, hx_L_mk, hx_R_mk, am_wp, am_stp, am_en, am_as, am_pad, am_nth, am_set, am_st1, am_st2, am_kl, am_kill, am_mem, am_fv, am_tk, am_wt, am_bk, Option.toList, List.cons_append, List.nil_append, Nat.reduceAdd, Nat.reduceEqDiff, Nat.reduceLeDiff, reduceIte, Nat.reduceLT, or_self, true_or, or_true, if_true, if_false, and_self, and_true, true_and, not_false_eq_true, not_true_eq_false]
        by_cases ek : k < pl.length
        · rw [List.getElem?_append_left ek] at hk
          rw [if_neg (by omega)]
          exact a1 k x hk
        · have ek2 : k = pl.length := by
            have := (List.getElem?_eq_some_iff.mp hk).1
            simp at this
            omega
          subst ek2
          simp at hk
          rw [if_pos rfl, hk]
      · simp only [hx_nx_sI, hx_ce_sI, hx_sl_sI, hx_kd_sI, hx_ln_sI, hx_I_sI, hx_L_sI, hx_R_sI, hx_nx_sL, hx_ce_sL, hx_sl_sL, hx_kd_sL, hx_ln_sL, hx_I_sL, hx_L_sL, hx_R_sL, hx_nx_sR, hx_ce_sR, hx_sl_sR, hx_kd_sR, hx_ln_sR, hx_I_sR, hx_L_sR, hx_R_sR, hx_nx_al, hx_ce_al, hx_sl_al, hx_kd_al, hx_ln_al, hx_I_al, hx_L_al, hx_R_al, hx_nx_row, hx_ce_row, hx_sl_row, hx_kd_row, hx_ln_row, hx_I_row, hx_L_row, hx_R_row, hx_nx_mk, hx_kd_mk, hx_ln_mk, hx_I_mk, hx_L_mk, hx_R_mk, am_wp, am_stp, am_en, am_as, am_pad, am_nth, am_set, am_st1, am_st2, am_kl, am_kill, am_mem, am_fv, am_tk, am_wt, am_bk, Option.toList, List.cons_append, List.nil_append, Nat.reduceAdd, Nat.reduceEqDiff, Nat.reduceLeDiff, reduceIte, Nat.reduceLT, or_self, true_or, or_true, if_true, if_false, and_self, and_true, true_and, not_false_eq_true, not_true_eq_false]
        rw [if_neg (by omega)]
        exact a2 j hj
      · refine List.nodup_append.mpr ⟨a3, by simp, fun x hx y hy => ?_⟩
        have ey : y = q := by simpa using hy
        have := (a4 x hx).2.2.1
        omega
      · rcases List.mem_append.mp hx with hx | hx
        · obtain ⟨y1, y2, y3, y4⟩ := a4 x hx
          exact ⟨y1, y2, by omega, y4⟩
        · have ex : x = q := by simpa using hx
          subst ex
          exact ⟨t3, t2, by omega, t4⟩
    have := l2_pick_loop hS hP hs hn hx m (q + 1) (pl ++ [q]) _ (by rw [hlen]; omega) (by omega) (by omega) A' (by omega)
    rw [hlen] at this
    exact this
/-! FILTERS: frames -/
theorem l2i_small {z : Int64} {x : Nat} (h : zN z = x) (hx : x < 2 ^ 31) : z.toInt32 = nI x := by
  apply Int32.toBitVec_inj.mp
  apply BitVec.eq_of_getLsbD_eq
  intro i hi
  rw [Int64.toBitVec_toInt32, BitVec.getLsbD_signExtend]
  have e2 : (nI x).toBitVec.getLsbD i = x.testBit i := by
    show (BitVec.ofNat 32 x).getLsbD i = _
    rw [BitVec.getLsbD_ofNat]
    simp [hi]
  rw [e2, ← h]
  simp [hi, show i < 64 by omega]
  rfl
theorem zN_and511 (x : Int64) : zN (x &&& 511) = zN x % 512 := by
  unfold zN
  rw [Int64.toBitVec_and, BitVec.toNat_and]
  show _ &&& (2 ^ 9 - 1) = _ % 2 ^ 9
  rw [Nat.and_two_pow_sub_one_eq_mod]
theorem l2_bit {d w : Nat} {z : Int64} {h : am_H} (hw : w < 3) : am_Rt nm_pr (d + 1) mi_Mo_bit [.long z, .int (nI w)] h (fun o h' => (∃ x, x < 512 ∧ o = .inl (some (.int (nI x)))) ∧ h' = h) := by
  refine am_in' mt_Mo_bit 3 rfl rfl rfl ?_
  have s55 : ((55 : Int32).toInt64.toUInt64 &&& Int64.toUInt64 63).toBitVec.toNat = 55 := by decide
  have hz := zN_lt z
  have hw3 : w = 0 ∨ w = 1 ∨ w = 2 := by omega
  rcases hw3 with rfl | rfl | rfl
  · have e0 : (nI 0 = 0) = True := eq_true rfl
    refine am_go [12] 8 ?_
    simp only [am_wp, am_stp, am_en, am_as, am_pad, am_nth, am_set, am_st1, am_st2, am_kl, am_kill, am_mem, am_fv, am_tk, am_wt, am_bk, Option.toList, List.cons_append, List.nil_append, Nat.reduceAdd, Nat.reduceEqDiff, Nat.reduceLeDiff, reduceIte, Nat.reduceLT, or_self, true_or, or_true, if_true, if_false, and_self, and_true, true_and, not_false_eq_true, not_true_eq_false, fd_Mo_bit_0, fd_Mo_bit_1, fd_Mo_bit_4, fd_Mo_bit_5, fd_Mo_bit_7, fd_Mo_bit_8, fd_Mo_bit_9, fd_Mo_bit_38, e0]
    have e1 : zN (z.toUInt64 >>> ((55 : Int32).toInt64.toUInt64 &&& Int64.toUInt64 63)).toInt64 = zN z / 2 ^ 55 := zN_sh s55 (by omega)
    have hl : zN z / 2 ^ 55 < 512 := by
      rw [Nat.div_lt_iff_lt_mul (by decide)]
      omega
    rw [l2i_small e1 (by omega)]
    exact ⟨_, hl, rfl⟩
  · have e0 : (nI 1 = 0) = False := by decide
    have e1 : (nI 1 = 1) = True := eq_true rfl
    refine am_go [4, 29] 13 ?_
    simp only [am_wp, am_stp, am_en, am_as, am_pad, am_nth, am_set, am_st1, am_st2, am_kl, am_kill, am_mem, am_fv, am_tk, am_wt, am_bk, Option.toList, List.cons_append, List.nil_append, Nat.reduceAdd, Nat.reduceEqDiff, Nat.reduceLeDiff, reduceIte, Nat.reduceLT, or_self, true_or, or_true, if_true, if_false, and_self, and_true, true_and, not_false_eq_true, not_true_eq_false, fd_Mo_bit_0, fd_Mo_bit_1, fd_Mo_bit_12, fd_Mo_bit_13, fd_Mo_bit_14, fd_Mo_bit_17, fd_Mo_bit_18, fd_Mo_bit_20, fd_Mo_bit_21, fd_Mo_bit_24, fd_Mo_bit_25, fd_Mo_bit_26, fd_Mo_bit_38, e0, e1]
    rw [l2i_small (zN_and511 _) (by have := Nat.mod_lt (zN (z.toUInt64 >>> ((46 : Int32).toInt64.toUInt64 &&& Int64.toUInt64 63)).toInt64) (show 512 > 0 by decide); omega)]
    exact ⟨_, Nat.mod_lt _ (by decide), rfl⟩
  · have e0 : (nI 2 = 0) = False := by decide
    have e1 : (nI 2 = 1) = False := by decide
    refine am_go [4, 17] 12 ?_
    simp only [am_wp, am_stp, am_en, am_as, am_pad, am_nth, am_set, am_st1, am_st2, am_kl, am_kill, am_mem, am_fv, am_tk, am_wt, am_bk, Option.toList, List.cons_append, List.nil_append, Nat.reduceAdd, Nat.reduceEqDiff, Nat.reduceLeDiff, reduceIte, Nat.reduceLT, or_self, true_or, or_true, if_true, if_false, and_self, and_true, true_and, not_false_eq_true, not_true_eq_false, fd_Mo_bit_0, fd_Mo_bit_1, fd_Mo_bit_12, fd_Mo_bit_13, fd_Mo_bit_14, fd_Mo_bit_29, fd_Mo_bit_30, fd_Mo_bit_32, fd_Mo_bit_33, fd_Mo_bit_36, fd_Mo_bit_37, fd_Mo_bit_38, e0, e1]
    rw [l2i_small (zN_and511 _) (by have := Nat.mod_lt (zN (z.toUInt64 >>> ((37 : Int32).toInt64.toUInt64 &&& Int64.toUInt64 63)).toInt64) (show 512 > 0 by decide); omega)]
    exact ⟨_, Nat.mod_lt _ (by decide), rfl⟩
theorem l2_Mo_hash {d : Nat} {z : Int64} {n : Int32} {h : am_H} : am_Rt nm_pr (d + 1) mi_Mo_hash [.long z, .int n] h (fun o h' => (∃ v, o = .inl (some (.long v))) ∧ h' = h) := by
  refine am_in' mt_Mo_hash 3 rfl rfl rfl ?_
  refine am_go [] 9 ?_
  simp only [am_wp, am_stp, am_en, am_as, am_pad, am_nth, am_set, am_st1, am_st2, am_kl, am_kill, am_mem, am_fv, am_tk, am_wt, am_bk, Option.toList, List.cons_append, List.nil_append, Nat.reduceAdd, Nat.reduceEqDiff, Nat.reduceLeDiff, reduceIte, Nat.reduceLT, or_self, true_or, or_true, if_true, if_false, and_self, and_true, true_and, not_false_eq_true, not_true_eq_false, fd_Mo_hash_0, fd_Mo_hash_1, fd_Mo_hash_4, fd_Mo_hash_5, fd_Mo_hash_6, fd_Mo_hash_7, fd_Mo_hash_8, fd_Mo_hash_11, fd_Mo_hash_12]
  exact ⟨_, rfl⟩
theorem div64 {x : Nat} (hx : x < 512) : nI x / 64 = nI (x / 64) := by
  have : ∀ x : Fin 512, nI x.1 / 64 = nI (x.1 / 64) := by decide +kernel
  exact this ⟨x, hx⟩
theorem l2_mark3_loop {d s : Nat} {z v : Int64} {h : am_H} (hS : mo_Sk h) (hs : s < 100) : ∀ (m w : Nat) (w7 : Value) (g : am_H), m + w = 3 → am_fi [85] h g →
    am_Ex nm_pr (d + 1) mt_Mo_mark3 (15, [.ref 72, .int (nI s), .long z, .retAddr 0, .long v, .retAddr 0, .int (nI w), w7], [], g) (fun o h' => o = .inl none ∧ am_fi [85] h h')
  | 0, w, w7, g, hm, F => by
    have e : w = 3 := by omega
    subst e
    have l1 : ¬ (nI 3 < 3) := by decide
    refine am_go [21] 4 ?_
    simp only [am_wp, am_stp, am_en, am_as, am_pad, am_nth, am_set, am_st1, am_st2, am_kl, am_kill, am_mem, am_fv, am_tk, am_wt, am_bk, Option.toList, List.cons_append, List.nil_append, Nat.reduceAdd, Nat.reduceEqDiff, Nat.reduceLeDiff, reduceIte, Nat.reduceLT, or_self, true_or, or_true, if_true, if_false, and_self, and_true, true_and, not_false_eq_true, not_true_eq_false, fd_Mo_mark3_15, fd_Mo_mark3_17, fd_Mo_mark3_18, fd_Mo_mark3_61, l1]
    exact F
  | m + 1, w, w7, g, hm, F => by
    have G := hS.fi F
    obtain ⟨k72, -, -, -, -, -, -, -, -, ⟨r23, k85, n85⟩, -⟩ := mo_sl_ G
    have l1 : nI w < 3 := nI_lt (b := 3) (by omega) (by decide)
    refine am_go [21, 61] 3 ?_
    simp only [am_wp, am_stp, am_en, am_as, am_pad, am_nth, am_set, am_st1, am_st2, am_kl, am_kill, am_mem, am_fv, am_tk, am_wt, am_bk, Option.toList, List.cons_append, List.nil_append, Nat.reduceAdd, Nat.reduceEqDiff, Nat.reduceLeDiff, reduceIte, Nat.reduceLT, or_self, true_or, or_true, if_true, if_false, and_self, and_true, true_and, not_false_eq_true, not_true_eq_false, fd_Mo_mark3_15, fd_Mo_mark3_17, fd_Mo_mark3_18, l1]
    refine am_go [] 3 ?_
    simp only [am_wp, am_stp, am_en, am_as, am_pad, am_nth, am_set, am_st1, am_st2, am_kl, am_kill, am_mem, am_fv, am_tk, am_wt, am_bk, Option.toList, List.cons_append, List.nil_append, Nat.reduceAdd, Nat.reduceEqDiff, Nat.reduceLeDiff, reduceIte, Nat.reduceLT, or_self, true_or, or_true, if_true, if_false, and_self, and_true, true_and, not_false_eq_true, not_true_eq_false, fd_Mo_mark3_21, fd_Mo_mark3_23, fd_Mo_mark3_25]
    refine am_call (l2_bit (d := d) (show w < 3 by omega)) (fun o g1 q => ?_)
    obtain ⟨⟨x, hx, rfl⟩, rfl⟩ := q
    have e8 : 8 * nI s = nI (8 * s) := (Int32.ofNat_mul 8 s).symm
    have n64 : ¬ (64 : Int32) = 0 := by decide
    have i2 := am_inb (c := 8 * s + x / 64) (N := 800) (by omega) (by omega)
    have q2 : (nI (8 * s + x / 64)).toNatClampNeg = 8 * s + x / 64 := nI_clamp (by omega)
    simp only [am_wp, am_stp, am_en, am_as, am_pad, am_nth, am_set, am_st1, am_st2, am_kl, am_kill, am_mem, am_fv, am_tk, am_wt, am_bk, Option.toList, List.cons_append, List.nil_append, Nat.reduceAdd, Nat.reduceEqDiff, Nat.reduceLeDiff, reduceIte, Nat.reduceLT, or_self, true_or, or_true, if_true, if_false, and_self, and_true, true_and, not_false_eq_true, not_true_eq_false]
    refine am_go [] 10 ?_
    simp only [am_wp, am_stp, am_en, am_as, am_pad, am_nth, am_set, am_st1, am_st2, am_kl, am_kill, am_mem, am_fv, am_tk, am_wt, am_bk, Option.toList, List.cons_append, List.nil_append, Nat.reduceAdd, Nat.reduceEqDiff, Nat.reduceLeDiff, reduceIte, Nat.reduceLT, or_self, true_or, or_true, if_true, if_false, and_self, and_true, true_and, not_false_eq_true, not_true_eq_false, fd_Mo_mark3_28, fd_Mo_mark3_30, fd_Mo_mark3_31, fd_Mo_mark3_34, fd_Mo_mark3_36, fd_Mo_mark3_37, fd_Mo_mark3_38, fd_Mo_mark3_40, fd_Mo_mark3_42, fd_Mo_mark3_43, k72, r23, e8, n64, div64 hx, nI_add]
    refine am_go [] 9 ?_
    simp only [am_wp, am_stp, am_en, am_as, am_pad, am_nth, am_set, am_st1, am_st2, am_kl, am_kill, am_mem, am_fv, am_tk, am_wt, am_bk, Option.toList, List.cons_append, List.nil_append, Nat.reduceAdd, Nat.reduceEqDiff, Nat.reduceLeDiff, reduceIte, Nat.reduceLT, or_self, true_or, or_true, if_true, if_false, and_self, and_true, true_and, not_false_eq_true, not_true_eq_false, fd_Mo_mark3_44, fd_Mo_mark3_45, fd_Mo_mark3_46, fd_Mo_mark3_47, fd_Mo_mark3_49, fd_Mo_mark3_51, fd_Mo_mark3_52, fd_Mo_mark3_53, fd_Mo_mark3_54, k85, n85, i2, q2, n64]
    refine am_go [15] 2 ?_
    simp only [am_wp, am_stp, am_en, am_as, am_pad, am_nth, am_set, am_st1, am_st2, am_kl, am_kill, am_mem, am_fv, am_tk, am_wt, am_bk, Option.toList, List.cons_append, List.nil_append, Nat.reduceAdd, Nat.reduceEqDiff, Nat.reduceLeDiff, reduceIte, Nat.reduceLT, or_self, true_or, or_true, if_true, if_false, and_self, and_true, true_and, not_false_eq_true, not_true_eq_false, fd_Mo_mark3_55, fd_Mo_mark3_58, nI_1]
    exact l2_mark3_loop hS hs m (w + 1) _ _ (by omega) (F.sL (by simp))
theorem l2_mark3 {d s : Nat} {z : Int64} {h : am_H} (hS : mo_Sk h) (hs : s < 100) : am_Rt nm_pr (d + 2) mi_Mo_mark3 [.ref 72, .int (nI s), .long z] h (fun o h' => o = .inl none ∧ am_fi [85] h h') := by
  obtain ⟨k72, -, ⟨r16, k78, n78⟩, -⟩ := mo_sl_ hS
  have i1 := am_inb (c := s) (N := 100) (by omega) (by omega)
  have q1 : (nI s).toNatClampNeg = s := nI_clamp (by omega)
  refine am_in' (d := d + 1) mt_Mo_mark3 8 rfl rfl rfl ?_
  refine am_go [] 6 ?_
  simp only [am_wp, am_stp, am_en, am_as, am_pad, am_nth, am_set, am_st1, am_st2, am_kl, am_kill, am_mem, am_fv, am_tk, am_wt, am_bk, Option.toList, List.cons_append, List.nil_append, Nat.reduceAdd, Nat.reduceEqDiff, Nat.reduceLeDiff, reduceIte, Nat.reduceLT, or_self, true_or, or_true, if_true, if_false, and_self, and_true, true_and, not_false_eq_true, not_true_eq_false, fd_Mo_mark3_0, fd_Mo_mark3_1, fd_Mo_mark3_2, fd_Mo_mark3_5, fd_Mo_mark3_6, fd_Mo_mark3_7, k72, r16, k78, n78, i1, q1]
  refine am_call (l2_Mo_hash (d := d)) (fun o g q => ?_)
  obtain ⟨⟨v, rfl⟩, rfl⟩ := q
  simp only [am_wp, am_stp, am_en, am_as, am_pad, am_nth, am_set, am_st1, am_st2, am_kl, am_kill, am_mem, am_fv, am_tk, am_wt, am_bk, Option.toList, List.cons_append, List.nil_append, Nat.reduceAdd, Nat.reduceEqDiff, Nat.reduceLeDiff, reduceIte, Nat.reduceLT, or_self, true_or, or_true, if_true, if_false, and_self, and_true, true_and, not_false_eq_true, not_true_eq_false]
  refine am_go [15] 3 ?_
  simp only [am_wp, am_stp, am_en, am_as, am_pad, am_nth, am_set, am_st1, am_st2, am_kl, am_kill, am_mem, am_fv, am_tk, am_wt, am_bk, Option.toList, List.cons_append, List.nil_append, Nat.reduceAdd, Nat.reduceEqDiff, Nat.reduceLeDiff, reduceIte, Nat.reduceLT, or_self, true_or, or_true, if_true, if_false, and_self, and_true, true_and, not_false_eq_true, not_true_eq_false, fd_Mo_mark3_10, fd_Mo_mark3_12, fd_Mo_mark3_13]
  exact l2_mark3_loop hS hs 3 0 _ g rfl am_fi.refl
theorem l2_clearFilter_loop {d s : Nat} {h : am_H} (hS : mo_Sk h) (hs : s < 100) : ∀ (m k : Nat) (g : am_H), m + k = 8 → am_fi [85] h g →
    am_Ex nm_pr d mt_Mo_clearFilter (2, [.ref 72, .int (nI s), .int (nI k)], [], g) (fun o h' => o = .inl none ∧ am_fi [85] h h')
  | 0, k, g, hm, F => by
    have e : k = 8 := by omega
    subst e
    have l1 : ¬ (nI 8 < 8) := by decide
    refine am_go [8] 4 ?_
    simp only [am_wp, am_stp, am_en, am_as, am_pad, am_nth, am_set, am_st1, am_st2, am_kl, am_kill, am_mem, am_fv, am_tk, am_wt, am_bk, Option.toList, List.cons_append, List.nil_append, Nat.reduceAdd, Nat.reduceEqDiff, Nat.reduceLeDiff, reduceIte, Nat.reduceLT, or_self, true_or, or_true, if_true, if_false, and_self, and_true, true_and, not_false_eq_true, not_true_eq_false, fd_Mo_clearFilter_2, fd_Mo_clearFilter_3, fd_Mo_clearFilter_5, fd_Mo_clearFilter_26, l1]
    exact F
  | m + 1, k, g, hm, F => by
    have G := hS.fi F
    obtain ⟨k72, -, -, -, -, -, -, -, -, ⟨r23, k85, n85⟩, -⟩ := mo_sl_ G
    have l1 : nI k < 8 := nI_lt (b := 8) (by omega) (by decide)
    have e8 : 8 * nI s = nI (8 * s) := (Int32.ofNat_mul 8 s).symm
    have i2 := am_inb (c := 8 * s + k) (N := 800) (by omega) (by omega)
    have q2 : (nI (8 * s + k)).toNatClampNeg = 8 * s + k := nI_clamp (by omega)
    refine am_go [8, 26] 3 ?_
    simp only [am_wp, am_stp, am_en, am_as, am_pad, am_nth, am_set, am_st1, am_st2, am_kl, am_kill, am_mem, am_fv, am_tk, am_wt, am_bk, Option.toList, List.cons_append, List.nil_append, Nat.reduceAdd, Nat.reduceEqDiff, Nat.reduceLeDiff, reduceIte, Nat.reduceLT, or_self, true_or, or_true, if_true, if_false, and_self, and_true, true_and, not_false_eq_true, not_true_eq_false, fd_Mo_clearFilter_2, fd_Mo_clearFilter_3, fd_Mo_clearFilter_5, l1]
    refine am_go [2] 11 ?_
    simp only [am_wp, am_stp, am_en, am_as, am_pad, am_nth, am_set, am_st1, am_st2, am_kl, am_kill, am_mem, am_fv, am_tk, am_wt, am_bk, Option.toList, List.cons_append, List.nil_append, Nat.reduceAdd, Nat.reduceEqDiff, Nat.reduceLeDiff, reduceIte, Nat.reduceLT, or_self, true_or, or_true, if_true, if_false, and_self, and_true, true_and, not_false_eq_true, not_true_eq_false, fd_Mo_clearFilter_8, fd_Mo_clearFilter_9, fd_Mo_clearFilter_12, fd_Mo_clearFilter_14, fd_Mo_clearFilter_15, fd_Mo_clearFilter_16, fd_Mo_clearFilter_17, fd_Mo_clearFilter_18, fd_Mo_clearFilter_19, fd_Mo_clearFilter_20, fd_Mo_clearFilter_23, k72, r23, e8, nI_add, k85, n85, i2, q2, nI_1]
    exact l2_clearFilter_loop hS hs m (k + 1) _ (by omega) (F.sL (by simp))
theorem l2_clearFilter {d s : Nat} {h : am_H} (hS : mo_Sk h) (hs : s < 100) : am_Rt nm_pr (d + 1) mi_Mo_clearFilter [.ref 72, .int (nI s)] h (fun o h' => o = .inl none ∧ am_fi [85] h h') := by
  refine am_in' mt_Mo_clearFilter 3 rfl rfl rfl ?_
  refine am_go [2] 2 ?_
  simp only [am_wp, am_stp, am_en, am_as, am_pad, am_nth, am_set, am_st1, am_st2, am_kl, am_kill, am_mem, am_fv, am_tk, am_wt, am_bk, Option.toList, List.cons_append, List.nil_append, Nat.reduceAdd, Nat.reduceEqDiff, Nat.reduceLeDiff, reduceIte, Nat.reduceLT, or_self, true_or, or_true, if_true, if_false, and_self, and_true, true_and, not_false_eq_true, not_true_eq_false, fd_Mo_clearFilter_0, fd_Mo_clearFilter_1]
  exact l2_clearFilter_loop hS hs 8 0 h rfl am_fi.refl
