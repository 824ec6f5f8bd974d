theorem tr_1 : nm_pr mi_Table_placeOf = mt_Table_placeOf := rfl
theorem am_in' {pr : Nat → am_M} {d m : Nat} {as : List Value} {h : am_H} {Q : am_O → am_H → Prop} (M : am_M) (hM : pr m = M) (hx : am_Ex pr d M (0, am_en as M.2.1, [], h) Q) : am_Rt pr (d + 1) m as h Q := by
  subst hM
  exact am_in hx
set_option maxHeartbeats 4000000 in
theorem tr_2 (h : am_H) (Q : am_O → am_H → Prop) (key : Int64) (a : Nat) (p : Int32) (hk : am_kd h a = 10) :
   am_Rt nm_pr 1 mi_Table_holds [.ref a, .int p, .long key] h Q := by
  refine am_in' mt_Table_holds rfl ?_
  refine am_go [] 30 ?_
  simp only [am_wp, am_stp, fd_Table_holds_0, fd_Table_holds_1, fd_Table_holds_4, fd_Table_holds_5, fd_Table_holds_6, fd_Table_holds_9, fd_Table_holds_12, fd_Table_holds_13, fd_Table_holds_15, fd_Table_holds_18, fd_Table_holds_19, fd_Table_holds_22, fd_Table_holds_23, fd_Table_holds_24, fd_Table_holds_25, fd_Table_holds_26, fd_Table_holds_29, fd_Table_holds_30, fd_Table_holds_33, fd_Table_holds_34, am_en, am_as, am_pad, am_nth, am_mem, am_fv, Nat.reduceAdd, Nat.zero_add, hk, true_or, if_true, reduceIte]
  trace_state
  sorry
