/-! A THROW -/
def so_up : List String := ["java/lang/RuntimeException", "java/lang/Exception"]
/-- the words of a throw, but the link of the constructor -/
def so_ow3 (X : String) : List Cond := Bundle.throwableAtoms ++ Bundle.throwableSAtoms ++ Bundle.chainSAtoms X so_up ++
  [.instantiable X 6, .castable X X, .selects X Bundle.tFill0 Bundle.tFill0, .selects X Bundle.tFill Bundle.tFill,
   .lays X Bundle.tN "cause" "Ljava/lang/Throwable;", .lays X Bundle.tN "stackTrace" Bundle.steD, .lays X Bundle.tN "suppressedExceptions" Bundle.listD, .lays X Bundle.tN "detailMessage" "Ljava/lang/String;",
   .isRef (.static Bundle.tN "UNASSIGNED_STACK" Bundle.steD), .isRef (.static Bundle.tN "SUPPRESSED_SENTINEL" Bundle.listD),
   .fieldLink Bundle.tN 198 Bundle.tN "backtrace" "Ljava/lang/Object;", .lays Bundle.tN Bundle.tN "backtrace" "Ljava/lang/Object;", .lays X Bundle.tN "backtrace" "Ljava/lang/Object;"]
def so_ow4 (w : Cond) : Bool := decide (w ∈ so_zw) || (decide (w ∈ so_NS) && w.onTables) || (goodWord w && decide (w ∈ lw_tbl))
theorem so_ow5 : ((so_ow3 (so_ex 0)).all so_ow4 && so_ow4 (.initialized (so_ex 0))) = true := by decide +kernel
theorem so_ow6 : ((so_ow3 (so_ex 1)).all so_ow4 && so_ow4 (.initialized (so_ex 1))) = true := by decide +kernel
theorem so_ow7 : ((so_ow3 (so_ex 2)).all so_ow4 && so_ow4 (.initialized (so_ex 2))) = true := by decide +kernel
theorem so_ow8 {x : Nat} (hx : x < 3) : ((so_ow3 (so_ex x)).all so_ow4 && so_ow4 (.initialized (so_ex x))) = true := by
  match x, hx with
  | 0, _ => exact so_ow5
  | 1, _ => exact so_ow6
  | 2, _ => exact so_ow7
theorem so_ow9 {own : String} {ic : Nat} {X : String} {w : Cond} (h : w ∈ Bundle.ownAtoms own ic X so_up) : w ∈ so_ow3 X ∨ w = .methodLink own ic (Bundle.initS X) := by
  unfold Bundle.ownAtoms at h
  unfold so_ow3
  simp only [List.mem_append, List.mem_cons, List.not_mem_nil, or_false] at h ⊢
  rcases h with h | h
  · exact Or.inl (Or.inl h)
  · rcases h with h | h
    · exact Or.inr h
    · exact Or.inl (Or.inr h)
section SOT
variable {p : Program} {l : Launch} {e : Env} {R : Room} {s : State} {m : MethodId} {args : Array Value} {below : List Frame} {meth : Method} {c : Code}
variable {D : va_G} {cA : Nat → ClassId} {H0 : Heap} {b L : Nat} {xs : Nat → Int32} {μ : so_I} {h0 : am_H} {r : am_O × am_H}
/-- the same walk, as if it began where it stands -/
theorem so_reb {T : State} {locs : List Loc} {cells slots : Nat} (X : Stand p l e R s m args below meth c T locs cells slots) {R' : Room} (h1 : R'.frames ≤ R.frames) (h2 : R'.locals ≤ R.locals) (h3 : cells + R'.cells ≤ R.cells) (h4 : slots + R'.slots ≤ R.slots) :
    Stand p l e R' ((T.setVm s.vm).setFrames (.invoking m args :: below)) m args below meth c T [] 0 0 := by
  obtain ⟨g, hg⟩ := X.frames_eq
  have hcur : (T.setVm s.vm).cur < (T.setVm s.vm).threads.size := State.cur_lt_of_frames (s := T) hg
  have hF : ((T.setVm s.vm).setFrames (.invoking m args :: below)).frames = .invoking m args :: below := State.frames_setFrames _ hcur
  obtain ⟨t, ht, -⟩ := State.frames_cons hg
  have hlim : e.platform.stackLimits (T.setVm s.vm).me = e.platform.stackLimits s.me := X.limits
  have hbyt : (T.setVm s.vm).me.stackBytes = s.me.stackBytes := X.bytes
  refine ⟨X.admits, X.cas, X.clock, hF, ?_, X.hears, X.method, X.code, X.here, X.tail, X.warmed, ?_, ?_, ?_⟩
  · have hr := X.room
    have q1 := X.heapSize
    have q2 := X.used
    have hli : ((T.setVm s.vm).setFrames (.invoking m args :: below)).localsInUse = s.localsInUse := by
      rw [State.localsInUse_invoking hF (meth := meth) (c := c) X.method X.code, State.localsInUse_invoking X.frames X.method X.code]
    unfold State.hasRoom at hr ⊢
    rw [hF, hli, State.stackLimits_setFrames, State.stackBytes_setFrames, hlim, hbyt]
    rw [X.frames] at hr
    simp only [Bool.and_eq_true, decide_eq_true_eq, List.length_cons] at hr ⊢
    obtain ⟨⟨⟨⟨a1, a2, a3, a4, a5, a6⟩, a7⟩, a8⟩, a9⟩ := hr
    refine ⟨⟨⟨⟨by omega, by omega, by omega, by omega, by omega, a6⟩, ?_⟩, ?_⟩, X.book⟩
    · have q3 : T.heap.size + R'.cells ≤ e.platform.maxCells := by omega
      exact q3
    · have q3 : T.slotsUsed + R'.slots ≤ e.platform.maxSlots := by omega
      exact q3
  · rw [State.stackLimits_setFrames]
    rfl
  · rw [State.stackBytes_setFrames]
    rfl
  · obtain ⟨e1, e2⟩ := State.sameButNew.refl (T.setVm s.vm) ht
    exact ⟨by rw [State.setFrames_setFrames]; exact e1, e2⟩
end SOT
