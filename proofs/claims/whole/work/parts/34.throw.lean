/-! throws: the walk begins anew at the state where it stands, so that the end tells of that state -/
theorem jm_hears {s T : State} {m : MethodId} {below : List Frame} (hal : s.vm.Alike T.vm) (h : s.hears m below = true) : T.hears m below = true := by
  have hc : ∀ x : MethodId, T.code? x = s.code? x := fun x => by rw [State.code?_eq, State.code?_eq, hal.method?]
  have hm : T.vm.method? m = s.vm.method? m := hal.method? m
  revert h
  unfold State.hears
  cases below with
  | nil => simp only [hm]; exact id
  | cons x r =>
    cases x <;> simp only [hm, hc] <;> exact id
theorem jm_rebase {p : Program} {l : Launch} {e : Env} {R : Room} {s : State} {m : MethodId} {args : Array Value} {below : List Frame} {meth : Method} {c : ClassFile.Code} {T : State} {locs : List Loc} {cells slots : Nat}
    (X : Stand p l e R s m args below meth c T locs cells slots) (hc : cells ≤ R.cells) (hs : slots ≤ R.slots) :
    Stand p l e { R with cells := R.cells - cells, slots := R.slots - slots } (T.setFrames (.invoking m args :: below)) m args below meth c T [] 0 0 := by
  obtain ⟨g₀, hfr⟩ := X.frames_eq
  have hcur : T.cur < T.threads.size := State.cur_lt_of_frames hfr
  have hf1 : (T.setFrames (.invoking m args :: below)).frames = .invoking m args :: below := State.frames_setFrames _ hcur
  have hm1 : (T.setFrames (.invoking m args :: below)).vm.method? m = some meth := X.method'
  obtain ⟨t1, ht1, -⟩ := State.frames_cons hf1
  refine ⟨X.admits, X.cas, X.clock, hf1, ?_, jm_hears (s := s) X.warmed.alike X.hears, hm1, X.code, X.here, X.tail, State.WarmedH.refl _, (State.stackLimits_setFrames _ _ _).symm, (State.stackBytes_setFrames _ _).symm, ?_⟩
  · obtain ⟨r1, r2, r3, r4⟩ := State.hasRoom_stack X.room
    have r5 := State.hasRoom_real X.room
    have r6 := State.hasRoom_plain X.room
    obtain ⟨r7, r8⟩ := State.hasRoom_heap X.room
    rw [State.localsInUse_invoking X.frames X.method X.code] at r3 r4 r5
    rw [X.frames, List.length_cons] at r1 r2
    have hz := X.heapSize
    have hu := X.used
    refine State.hasRoom_of ?_ ?_ ?_ ?_ ?_ ?_ ?_
    · rw [State.stackBytes_setFrames, X.bytes]; exact r6
    · rw [hf1, List.length_cons]; exact r1
    · rw [State.localsInUse_invoking hf1 hm1 X.code]; exact r3
    · show T.heap.size + (R.cells - cells) ≤ _
      omega
    · show T.slotsUsed + (R.slots - slots) ≤ _
      omega
    · exact X.book
    · rw [State.localsInUse_invoking hf1 hm1 X.code]; exact r5
  · have h := (State.sameButNew.refl (T.setFrames (.invoking m args :: below)) ht1).setFrames T.frames (State.cur_lt_of_frames hf1)
    rw [State.setFrames_setFrames] at h
    obtain ⟨t0, ht0, -⟩ := State.frames_cons hfr
    rw [State.setFrames_self ht0] at h
    exact h
