theorem am_in' {pr : Nat → am_M} {d m : Nat} {as : List Value} {h : am_H} {Q : am_O → am_H → Prop} (M : am_M) (n : Nat) (hM : pr m = M) (hn : M.2.1 = n) (hok : am_ok as n = true) (hx : am_Ex pr d M (0, am_en as n, [], h) Q) : am_Rt pr (d + 1) m as h Q := by
  subst hM
  subst hn
  exact am_in hok hx
theorem am_call {pr : Nat → am_M} {d m : Nat} {as : List Value} {h : am_H} {Q Q' : am_O → am_H → Prop} (hR : am_Rt pr d m as h Q) (hq : ∀ o h', Q o h' → Q' o h') : am_Rt pr d m as h Q' := am_Rt_mono (Nat.le_refl _) hq hR
section HX
variable {h : am_H} {a a' j j' k n s : Nat}
theorem hx_nx_sI {v : Int32} : am_nx (am_sI h a j v) = am_nx h := rfl
theorem hx_ce_sI {v : Int32} : am_ce (am_sI h a j v) = am_ce h := rfl
theorem hx_sl_sI {v : Int32} : am_sl (am_sI h a j v) = am_sl h := rfl
theorem hx_kd_sI {v : Int32} : am_kd (am_sI h a j v) = am_kd h := rfl
theorem hx_ln_sI {v : Int32} : am_ln (am_sI h a j v) = am_ln h := rfl
theorem hx_I_sI {v : Int32} : am_I (am_sI h a j v) a' j' = if a' = a then (if j' = j then v else am_I h a' j') else am_I h a' j' := rfl
theorem hx_L_sI {v : Int32} : am_L (am_sI h a j v) = am_L h := rfl
theorem hx_R_sI {v : Int32} : am_R (am_sI h a j v) = am_R h := rfl
theorem hx_nx_sL {v : Int64} : am_nx (am_sL h a j v) = am_nx h := rfl
theorem hx_ce_sL {v : Int64} : am_ce (am_sL h a j v) = am_ce h := rfl
theorem hx_sl_sL {v : Int64} : am_sl (am_sL h a j v) = am_sl h := rfl
theorem hx_kd_sL {v : Int64} : am_kd (am_sL h a j v) = am_kd h := rfl
theorem hx_ln_sL {v : Int64} : am_ln (am_sL h a j v) = am_ln h := rfl
theorem hx_I_sL {v : Int64} : am_I (am_sL h a j v) = am_I h := rfl
theorem hx_L_sL {v : Int64} : am_L (am_sL h a j v) a' j' = if a' = a then (if j' = j then v else am_L h a' j') else am_L h a' j' := rfl
theorem hx_R_sL {v : Int64} : am_R (am_sL h a j v) = am_R h := rfl
theorem hx_nx_sR {v : Nat} : am_nx (am_sR h a j v) = am_nx h := rfl
theorem hx_ce_sR {v : Nat} : am_ce (am_sR h a j v) = am_ce h := rfl
theorem hx_sl_sR {v : Nat} : am_sl (am_sR h a j v) = am_sl h := rfl
theorem hx_kd_sR {v : Nat} : am_kd (am_sR h a j v) = am_kd h := rfl
theorem hx_ln_sR {v : Nat} : am_ln (am_sR h a j v) = am_ln h := rfl
theorem hx_I_sR {v : Nat} : am_I (am_sR h a j v) = am_I h := rfl
theorem hx_L_sR {v : Nat} : am_L (am_sR h a j v) = am_L h := rfl
theorem hx_R_sR {v : Nat} : am_R (am_sR h a j v) a' j' = if a' = a then (if j' = j then v else am_R h a' j') else am_R h a' j' := rfl
theorem hx_nx_al : am_nx (am_al h k n s) = am_nx h + 1 := rfl
theorem hx_ce_al : am_ce (am_al h k n s) = am_ce h + 1 := rfl
theorem hx_sl_al : am_sl (am_al h k n s) = am_sl h + s := rfl
theorem hx_kd_al : am_kd (am_al h k n s) a' = if a' = am_nx h then k else am_kd h a' := rfl
theorem hx_ln_al : am_ln (am_al h k n s) a' = if a' = am_nx h then n else am_ln h a' := rfl
theorem hx_I_al : am_I (am_al h k n s) a' j' = if a' = am_nx h then 0 else am_I h a' j' := rfl
theorem hx_L_al : am_L (am_al h k n s) a' j' = if a' = am_nx h then 0 else am_L h a' j' := rfl
theorem hx_R_al : am_R (am_al h k n s) a' j' = if a' = am_nx h then 0 else am_R h a' j' := rfl
end HX
/-- only ints and longs of the objects S have changed -/
def am_fi (S : List Nat) (h h' : am_H) : Prop := am_nx h' = am_nx h ∧ am_ce h' = am_ce h ∧ am_sl h' = am_sl h ∧ am_kd h' = am_kd h ∧ am_ln h' = am_ln h ∧ am_R h' = am_R h ∧ (∀ a, a ∉ S → am_I h' a = am_I h a) ∧ (∀ a, a ∉ S → am_L h' a = am_L h a)
theorem am_fi.refl {S : List Nat} {h : am_H} : am_fi S h h := ⟨rfl, rfl, rfl, rfl, rfl, rfl, fun _ _ => rfl, fun _ _ => rfl⟩
theorem am_fi.trans {S : List Nat} {h h1 h2 : am_H} (a : am_fi S h h1) (b : am_fi S h1 h2) : am_fi S h h2 := by
  obtain ⟨a1, a2, a3, a4, a5, a6, a7, a8⟩ := a
  obtain ⟨b1, b2, b3, b4, b5, b6, b7, b8⟩ := b
  exact ⟨b1.trans a1, b2.trans a2, b3.trans a3, b4.trans a4, b5.trans a5, b6.trans a6, fun q hq => (b7 q hq).trans (a7 q hq), fun q hq => (b8 q hq).trans (a8 q hq)⟩
theorem am_fi.sub {S S' : List Nat} {h h1 : am_H} (a : am_fi S h h1) (hs : ∀ q ∈ S, q ∈ S') : am_fi S' h h1 := by
  obtain ⟨a1, a2, a3, a4, a5, a6, a7, a8⟩ := a
  exact ⟨a1, a2, a3, a4, a5, a6, fun q hq => a7 q (fun h => hq (hs q h)), fun q hq => a8 q (fun h => hq (hs q h))⟩
theorem am_fi.sI {S : List Nat} {h h1 : am_H} {q j : Nat} {v : Int32} (a : am_fi S h h1) (hq : q ∈ S) : am_fi S h (am_sI h1 q j v) := by
  obtain ⟨a1, a2, a3, a4, a5, a6, a7, a8⟩ := a
  refine ⟨a1, a2, a3, a4, a5, a6, fun z hz => ?_, a8⟩
  have hne : z ≠ q := fun h => hz (h ▸ hq)
  funext j'
  rw [hx_I_sI, if_neg hne]
  exact congrFun (a7 z hz) j'
theorem am_fi.sL {S : List Nat} {h h1 : am_H} {q j : Nat} {v : Int64} (a : am_fi S h h1) (hq : q ∈ S) : am_fi S h (am_sL h1 q j v) := by
  obtain ⟨a1, a2, a3, a4, a5, a6, a7, a8⟩ := a
  refine ⟨a1, a2, a3, a4, a5, a6, a7, fun z hz => ?_⟩
  have hne : z ≠ q := fun h => hz (h ▸ hq)
  funext j'
  rw [hx_L_sL, if_neg hne]
  exact congrFun (a8 z hz) j'
theorem am_b8_b8 (x : Int32) : am_b8 (am_b8 x) = am_b8 x := by unfold am_b8; simp
theorem am_inb {c N : Nat} (h : c < N) (hc : c < 2 ^ 31) : (nI c < 0 ∨ N ≤ c) = False := by
  refine eq_false (fun q => ?_)
  rcases q with q | q
  · exact nI_pos hc q
  · omega
theorem am_inb' {c N : Nat} (h : c < N) (hc : c < 2 ^ 31) : (nI c < 0 ∨ N ≤ (nI c).toNatClampNeg) = False := by
  rw [nI_clamp hc]
  exact am_inb h hc
theorem am_u_id {α : Type} {f : Nat → Nat → α} {a j : Nat} {v : α} (e : f a j = v) : am_u f a j v = f := by
  funext a' j'
  unfold am_u
  by_cases e1 : a' = a
  · subst e1
    rw [if_pos rfl]
    by_cases e2 : j' = j
    · subst e2; rw [if_pos rfl]; exact e.symm
    · rw [if_neg e2]
  · rw [if_neg e1]
theorem hx_sI_id {h : am_H} {a j : Nat} {v : Int32} (e : am_I h a j = v) : am_sI h a j v = h := by
  unfold am_sI
  rw [am_u_id e]
theorem hx_sL_id {h : am_H} {a j : Nat} {v : Int64} (e : am_L h a j = v) : am_sL h a j v = h := by
  unfold am_sL
  rw [am_u_id e]
theorem hx_sR_id {h : am_H} {a j v : Nat} (e : am_R h a j = v) : am_sR h a j v = h := by
  unfold am_sR
  rw [am_u_id e]
/-- a cell that is all nought -/
def am_zz (h : am_H) (a : Nat) : Prop := (∀ j, am_I h a j = 0) ∧ (∀ j, am_L h a j = 0)
theorem am_zz.al {h : am_H} {k n s : Nat} : am_zz (am_al h k n s) (am_nx h) := ⟨fun j => by rw [hx_I_al, if_pos rfl], fun j => by rw [hx_L_al, if_pos rfl]⟩
theorem am_zz.al' {h : am_H} {a k n s : Nat} (z : am_zz h a) : am_zz (am_al h k n s) a := ⟨fun j => by rw [hx_I_al]; split; rfl; exact z.1 j, fun j => by rw [hx_L_al]; split; rfl; exact z.2 j⟩
theorem am_zz.sR {h : am_H} {a b j v : Nat} (z : am_zz h a) : am_zz (am_sR h b j v) a := z
/-- a whole array of references -/
def am_row (h : am_H) (a : Nat) (f : Nat → Nat) : am_H := (am_nx h, am_ce h, am_sl h, am_kd h, am_ln h, am_I h, am_L h, fun a' => if a' = a then f else am_R h a')
section HXR
variable {h : am_H} {a a' j' : Nat} {f : Nat → Nat}
theorem hx_nx_row : am_nx (am_row h a f) = am_nx h := rfl
theorem hx_ce_row : am_ce (am_row h a f) = am_ce h := rfl
theorem hx_sl_row : am_sl (am_row h a f) = am_sl h := rfl
theorem hx_kd_row : am_kd (am_row h a f) = am_kd h := rfl
theorem hx_ln_row : am_ln (am_row h a f) = am_ln h := rfl
theorem hx_I_row : am_I (am_row h a f) = am_I h := rfl
theorem hx_L_row : am_L (am_row h a f) = am_L h := rfl
theorem hx_R_row : am_R (am_row h a f) a' j' = if a' = a then f j' else am_R h a' j' := by
  show (if a' = a then f else am_R h a') j' = _
  by_cases e : a' = a
  · rw [if_pos e, if_pos e]
  · rw [if_neg e, if_neg e]
theorem am_row_ext {h h1 : am_H} {a : Nat} {f g : Nat → Nat} (e1 : am_nx h1 = am_nx h) (e2 : am_ce h1 = am_ce h) (e3 : am_sl h1 = am_sl h) (e4 : am_kd h1 = am_kd h) (e5 : am_ln h1 = am_ln h) (e6 : am_I h1 = am_I h) (e7 : am_L h1 = am_L h) (e8 : ∀ b, b ≠ a → am_R h1 b = am_R h b) (e9 : f = g) : am_row h1 a f = am_row h a g := by
  unfold am_row
  rw [e1, e2, e3, e4, e5, e6, e7, e9]
  have e : (fun a' => if a' = a then g else am_R h1 a') = (fun a' => if a' = a then g else am_R h a') := by
    funext b
    by_cases e : b = a
    · rw [if_pos e, if_pos e]
    · rw [if_neg e, if_neg e, e8 b e]
  rw [e]
theorem am_row_sR {h : am_H} {a j v : Nat} {f g : Nat → Nat} (e : f = g) : am_row (am_sR h a j v) a f = am_row h a g := by
  refine am_row_ext rfl rfl rfl rfl rfl rfl rfl (fun b hb => ?_) e
  funext i
  rw [hx_R_sR, if_neg hb]
theorem am_row_id {h : am_H} {a : Nat} {f : Nat → Nat} (e : f = am_R h a) : am_row h a f = h := by
  unfold am_row
  have e2 : (fun a' => if a' = a then f else am_R h a') = am_R h := by
    funext b
    by_cases q : b = a
    · subst q; rw [if_pos rfl]; exact e
    · rw [if_neg q]
  rw [e2]
end HXR
/-- a new cell, kept in field j of t -/
def am_mk (h : am_H) (k n s t j : Nat) : am_H := am_sR (am_al h k n s) t j (am_nx h)
theorem am_zz.mk {h : am_H} {a k n s t j : Nat} (z : am_zz h a) : am_zz (am_mk h k n s t j) a := z.al' (k := k) (n := n) (s := s)
theorem am_zz.mkn {h : am_H} {k n s t j : Nat} : am_zz (am_mk h k n s t j) (am_nx h) := am_zz.al (k := k) (n := n) (s := s)
theorem hx_nx_mk {h : am_H} {k n s t j : Nat} : am_nx (am_mk h k n s t j) = am_nx h + 1 := rfl
theorem hx_kd_mk {h : am_H} {a k n s t j : Nat} : am_kd (am_mk h k n s t j) a = if a = am_nx h then k else am_kd h a := rfl
theorem hx_ln_mk {h : am_H} {a k n s t j : Nat} : am_ln (am_mk h k n s t j) a = if a = am_nx h then n else am_ln h a := rfl
theorem hx_I_mk {h : am_H} {a k n s t j i : Nat} : am_I (am_mk h k n s t j) a i = if a = am_nx h then 0 else am_I h a i := rfl
theorem hx_L_mk {h : am_H} {a k n s t j i : Nat} : am_L (am_mk h k n s t j) a i = if a = am_nx h then 0 else am_L h a i := rfl
theorem hx_R_mk {h : am_H} {a k n s t j i : Nat} : am_R (am_mk h k n s t j) a i = if a = t then (if i = j then am_nx h else if a = am_nx h then 0 else am_R h a i) else if a = am_nx h then 0 else am_R h a i := rfl
/-- the cells below n, but those of S, are as they were -/
def am_xt (S : List Nat) (n : Nat) (h h' : am_H) : Prop := ∀ a, a < n → a ∉ S → am_kd h' a = am_kd h a ∧ am_ln h' a = am_ln h a ∧ am_I h' a = am_I h a ∧ am_L h' a = am_L h a ∧ am_R h' a = am_R h a
theorem am_xt.refl {S : List Nat} {n : Nat} {h : am_H} : am_xt S n h h := fun _ _ _ => ⟨rfl, rfl, rfl, rfl, rfl⟩
theorem am_xt.trans {S : List Nat} {n n' : Nat} {h h1 h2 : am_H} (a : am_xt S n h h1) (b : am_xt S n' h1 h2) (hn : n ≤ n') : am_xt S n h h2 := fun q hq hS => by
  obtain ⟨a1, a2, a3, a4, a5⟩ := a q hq hS
  obtain ⟨b1, b2, b3, b4, b5⟩ := b q (by omega) hS
  exact ⟨b1.trans a1, b2.trans a2, b3.trans a3, b4.trans a4, b5.trans a5⟩
theorem am_xt.sub {S S' : List Nat} {n : Nat} {h h1 : am_H} (a : am_xt S n h h1) (hs : ∀ q ∈ S, q ∈ S') : am_xt S' n h h1 := fun q hq hS => a q hq (fun z => hS (hs q z))
theorem am_xt.al {S : List Nat} {n k l s : Nat} {h h1 : am_H} (a : am_xt S n h h1) (hn : n ≤ am_nx h1) : am_xt S n h (am_al h1 k l s) := fun q hq hS => by
  obtain ⟨a1, a2, a3, a4, a5⟩ := a q hq hS
  have hne : q ≠ am_nx h1 := by omega
  refine ⟨?_, ?_, ?_, ?_, ?_⟩
  · rw [hx_kd_al, if_neg hne]; exact a1
  · rw [hx_ln_al, if_neg hne]; exact a2
  · rw [← a3]; funext j; rw [hx_I_al, if_neg hne]
  · rw [← a4]; funext j; rw [hx_L_al, if_neg hne]
  · rw [← a5]; funext j; rw [hx_R_al, if_neg hne]
theorem am_xt.sR {S : List Nat} {n b j v : Nat} {h h1 : am_H} (a : am_xt S n h h1) (hn : b ∈ S ∨ n ≤ b) : am_xt S n h (am_sR h1 b j v) := fun q hq hS => by
  obtain ⟨a1, a2, a3, a4, a5⟩ := a q hq hS
  have hne : q ≠ b := fun e => by rcases hn with hn | hn; exact hS (e ▸ hn); omega
  refine ⟨a1, a2, a3, a4, ?_⟩
  rw [← a5]; funext i; rw [hx_R_sR, if_neg hne]
theorem am_xt.sI {S : List Nat} {n b j : Nat} {v : Int32} {h h1 : am_H} (a : am_xt S n h h1) (hn : b ∈ S ∨ n ≤ b) : am_xt S n h (am_sI h1 b j v) := fun q hq hS => by
  obtain ⟨a1, a2, a3, a4, a5⟩ := a q hq hS
  have hne : q ≠ b := fun e => by rcases hn with hn | hn; exact hS (e ▸ hn); omega
  refine ⟨a1, a2, ?_, a4, a5⟩
  rw [← a3]; funext i; rw [hx_I_sI, if_neg hne]
theorem am_xt.mk {S : List Nat} {n k l s t j : Nat} {h h1 : am_H} (a : am_xt S n h h1) (hn : n ≤ am_nx h1) (ht : t ∈ S ∨ n ≤ t) : am_xt S n h (am_mk h1 k l s t j) := (a.al hn).sR ht
theorem am_xt.row {S : List Nat} {n b : Nat} {f : Nat → Nat} {h h1 : am_H} (a : am_xt S n h h1) (hn : b ∈ S ∨ n ≤ b) : am_xt S n h (am_row h1 b f) := fun q hq hS => by
  obtain ⟨a1, a2, a3, a4, a5⟩ := a q hq hS
  have hne : q ≠ b := fun e => by rcases hn with hn | hn; exact hS (e ▸ hn); omega
  refine ⟨a1, a2, a3, a4, ?_⟩
  rw [← a5]; funext i; rw [hx_R_row, if_neg hne]
theorem am_xt.fi {S : List Nat} {n : Nat} {h h1 h2 : am_H} (a : am_xt S n h h1) (b : am_fi S h1 h2) : am_xt S n h h2 := fun q hq hS => by
  obtain ⟨a1, a2, a3, a4, a5⟩ := a q hq hS
  obtain ⟨-, -, -, b4, b5, b6, b7, b8⟩ := b
  exact ⟨by rw [b4]; exact a1, by rw [b5]; exact a2, by rw [b7 q hS]; exact a3, by rw [b8 q hS]; exact a4, by rw [b6]; exact a5⟩
