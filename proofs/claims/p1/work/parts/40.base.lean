theorem am_in' {pr : Nat → am_M} {d m : Nat} {as : List Value} {h : am_H} {Q : am_O → am_H → Prop} (M : am_M) (n : Nat) (hM : pr m = M) (hn : M.2.1 = n) (hok : am_ok as n = true) (hx : am_Ex pr d M (0, am_en as n, [], h) Q) : am_Rt pr (d + 1) m as h Q := by
  subst hM
  subst hn
  exact am_in hok hx
theorem am_call {pr : Nat → am_M} {d m : Nat} {as : List Value} {h : am_H} {Q Q' : am_O → am_H → Prop} (hR : am_Rt pr d m as h Q) (hq : ∀ o h', Q o h' → Q' o h') : am_Rt pr d m as h Q' := am_Rt_mono (Nat.le_refl _) hq hR
section HX
variable {h : am_H} {a a' j j' k n s : Nat}
theorem hx_nx_sI {v : Int32} : am_nx (am_sI h a j v) = am_nx h := rfl
theorem hx_ce_sI {v : Int32} : am_ce (am_sI h a j v) = am_ce h := rfl
theorem hx_sl_sI {v : Int32} : am_sl (am_sI h a j v) = am_sl h := rfl
theorem hx_kd_sI {v : Int32} : am_kd (am_sI h a j v) = am_kd h := rfl
theorem hx_ln_sI {v : Int32} : am_ln (am_sI h a j v) = am_ln h := rfl
theorem hx_I_sI {v : Int32} : am_I (am_sI h a j v) a' j' = if a' = a then (if j' = j then v else am_I h a' j') else am_I h a' j' := rfl
theorem hx_L_sI {v : Int32} : am_L (am_sI h a j v) = am_L h := rfl
theorem hx_R_sI {v : Int32} : am_R (am_sI h a j v) = am_R h := rfl
theorem hx_nx_sL {v : Int64} : am_nx (am_sL h a j v) = am_nx h := rfl
theorem hx_ce_sL {v : Int64} : am_ce (am_sL h a j v) = am_ce h := rfl
theorem hx_sl_sL {v : Int64} : am_sl (am_sL h a j v) = am_sl h := rfl
theorem hx_kd_sL {v : Int64} : am_kd (am_sL h a j v) = am_kd h := rfl
theorem hx_ln_sL {v : Int64} : am_ln (am_sL h a j v) = am_ln h := rfl
theorem hx_I_sL {v : Int64} : am_I (am_sL h a j v) = am_I h := rfl
theorem hx_L_sL {v : Int64} : am_L (am_sL h a j v) a' j' = if a' = a then (if j' = j then v else am_L h a' j') else am_L h a' j' := rfl
theorem hx_R_sL {v : Int64} : am_R (am_sL h a j v) = am_R h := rfl
theorem hx_nx_sR {v : Nat} : am_nx (am_sR h a j v) = am_nx h := rfl
theorem hx_ce_sR {v : Nat} : am_ce (am_sR h a j v) = am_ce h := rfl
theorem hx_sl_sR {v : Nat} : am_sl (am_sR h a j v) = am_sl h := rfl
theorem hx_kd_sR {v : Nat} : am_kd (am_sR h a j v) = am_kd h := rfl
theorem hx_ln_sR {v : Nat} : am_ln (am_sR h a j v) = am_ln h := rfl
theorem hx_I_sR {v : Nat} : am_I (am_sR h a j v) = am_I h := rfl
theorem hx_L_sR {v : Nat} : am_L (am_sR h a j v) = am_L h := rfl
theorem hx_R_sR {v : Nat} : am_R (am_sR h a j v) a' j' = if a' = a then (if j' = j then v else am_R h a' j') else am_R h a' j' := rfl
theorem hx_nx_al : am_nx (am_al h k n s) = am_nx h + 1 := rfl
theorem hx_ce_al : am_ce (am_al h k n s) = am_ce h + 1 := rfl
theorem hx_sl_al : am_sl (am_al h k n s) = am_sl h + s := rfl
theorem hx_kd_al : am_kd (am_al h k n s) a' = if a' = am_nx h then k else am_kd h a' := rfl
theorem hx_ln_al : am_ln (am_al h k n s) a' = if a' = am_nx h then n else am_ln h a' := rfl
theorem hx_I_al : am_I (am_al h k n s) a' j' = if a' = am_nx h then 0 else am_I h a' j' := rfl
theorem hx_L_al : am_L (am_al h k n s) a' j' = if a' = am_nx h then 0 else am_L h a' j' := rfl
theorem hx_R_al : am_R (am_al h k n s) a' j' = if a' = am_nx h then 0 else am_R h a' j' := rfl
end HX
/-- only ints and longs of the objects S have changed -/
def am_fi (S : List Nat) (h h' : am_H) : Prop := am_nx h' = am_nx h ∧ am_ce h' = am_ce h ∧ am_sl h' = am_sl h ∧ am_kd h' = am_kd h ∧ am_ln h' = am_ln h ∧ am_R h' = am_R h ∧ (∀ a, a ∉ S → am_I h' a = am_I h a) ∧ (∀ a, a ∉ S → am_L h' a = am_L h a)
theorem am_fi.refl {S : List Nat} {h : am_H} : am_fi S h h := ⟨rfl, rfl, rfl, rfl, rfl, rfl, fun _ _ => rfl, fun _ _ => rfl⟩
theorem am_fi.trans {S : List Nat} {h h1 h2 : am_H} (a : am_fi S h h1) (b : am_fi S h1 h2) : am_fi S h h2 := by
  obtain ⟨a1, a2, a3, a4, a5, a6, a7, a8⟩ := a
  obtain ⟨b1, b2, b3, b4, b5, b6, b7, b8⟩ := b
  exact ⟨b1.trans a1, b2.trans a2, b3.trans a3, b4.trans a4, b5.trans a5, b6.trans a6, fun q hq => (b7 q hq).trans (a7 q hq), fun q hq => (b8 q hq).trans (a8 q hq)⟩
theorem am_fi.sub {S S' : List Nat} {h h1 : am_H} (a : am_fi S h h1) (hs : ∀ q ∈ S, q ∈ S') : am_fi S' h h1 := by
  obtain ⟨a1, a2, a3, a4, a5, a6, a7, a8⟩ := a
  exact ⟨a1, a2, a3, a4, a5, a6, fun q hq => a7 q (fun h => hq (hs q h)), fun q hq => a8 q (fun h => hq (hs q h))⟩
theorem am_fi.sI {S : List Nat} {h h1 : am_H} {q j : Nat} {v : Int32} (a : am_fi S h h1) (hq : q ∈ S) : am_fi S h (am_sI h1 q j v) := by
  obtain ⟨a1, a2, a3, a4, a5, a6, a7, a8⟩ := a
  refine ⟨a1, a2, a3, a4, a5, a6, fun z hz => ?_, a8⟩
  have hne : z ≠ q := fun h => hz (h ▸ hq)
  funext j'
  rw [hx_I_sI, if_neg hne]
  exact congrFun (a7 z hz) j'
theorem am_fi.sL {S : List Nat} {h h1 : am_H} {q j : Nat} {v : Int64} (a : am_fi S h h1) (hq : q ∈ S) : am_fi S h (am_sL h1 q j v) := by
  obtain ⟨a1, a2, a3, a4, a5, a6, a7, a8⟩ := a
  refine ⟨a1, a2, a3, a4, a5, a6, a7, fun z hz => ?_⟩
  have hne : z ≠ q := fun h => hz (h ▸ hq)
  funext j'
  rw [hx_L_sL, if_neg hne]
  exact congrFun (a8 z hz) j'
theorem am_b8_b8 (x : Int32) : am_b8 (am_b8 x) = am_b8 x := by unfold am_b8; simp
theorem am_inb {c N : Nat} (h : c < N) (hc : c < 2 ^ 31) : (nI c < 0 ∨ N ≤ c) = False := by
  refine eq_false (fun q => ?_)
  rcases q with q | q
  · exact nI_pos hc q
  · omega
theorem am_inb' {c N : Nat} (h : c < N) (hc : c < 2 ^ 31) : (nI c < 0 ∨ N ≤ (nI c).toNatClampNeg) = False := by
  rw [nI_clamp hc]
  exact am_inb h hc
