/-! the words of a throw -/
def th_names : List String := ["java/lang/RuntimeException", "java/lang/Exception"]
def th_oth (E : String) : List Cond := [.laysStatic "java/lang/Throwable" "UNASSIGNED_STACK" "[Ljava/lang/StackTraceElement;", .laysStatic "java/lang/Throwable" "SUPPRESSED_SENTINEL" "Ljava/util/List;", .isRef (.static "java/lang/Throwable" "UNASSIGNED_STACK" "[Ljava/lang/StackTraceElement;"), .isRef (.static "java/lang/Throwable" "SUPPRESSED_SENTINEL" "Ljava/util/List;"), .castable E E,
  .declares ⟨"java/lang/RuntimeException", "<init>", "(Ljava/lang/String;)V"⟩, .declares ⟨"java/lang/Exception", "<init>", "(Ljava/lang/String;)V"⟩, .declares ⟨"java/lang/Throwable", "<init>", "(Ljava/lang/String;)V"⟩]
/-- a class of exceptions whose constructor hands its text on by the entry ix of its pool -/
def th_ok (E : String) (ic ix : Nat) (rx : ByteArray) : Prop := (Bundle.ownAtomsX "CellWorks" ic E ix rx th_names).all (fun w => decide (w ∈ jm_W) || decide (w ∈ th_oth E)) = true ∧ Bundle.fit E = true ∧ E ∈ jm_NC ∧ decode rx 0 = .ok (.aload_n 0, 1) ∧ decode rx 1 = .ok (.aload_n 1, 1) ∧ decode rx 2 = .ok (.invokespecial ix, 3) ∧ decode rx 5 = .ok (.return_, 1)
theorem th_ok1 : th_ok "java/lang/UnsupportedOperationException" 44 7 Bundle.six := ⟨by decide +kernel, by decide +kernel, by decide +kernel, by decide +kernel, by decide +kernel, by decide +kernel, by decide +kernel⟩
theorem th_ok2 : th_ok "java/lang/IllegalArgumentException" 55 7 Bundle.six := ⟨by decide +kernel, by decide +kernel, by decide +kernel, by decide +kernel, by decide +kernel, by decide +kernel, by decide +kernel⟩
def th_b13 : ByteArray := ⟨#[42, 43, 183, 0, 13, 177]⟩
theorem th_ok3 : th_ok "java/util/NoSuchElementException" 148 13 th_b13 := ⟨by decide +kernel, by decide +kernel, by decide +kernel, by decide +kernel, by decide +kernel, by decide +kernel, by decide +kernel⟩
theorem th_ok4 : th_ok "java/lang/IndexOutOfBoundsException" 125 7 Bundle.six := ⟨by decide +kernel, by decide +kernel, by decide +kernel, by decide +kernel, by decide +kernel, by decide +kernel, by decide +kernel⟩
theorem th_fitn : ∀ n ∈ th_names, Bundle.fit n = true := by decide +kernel
theorem th_stat {n d : String} {A : Nat → Prop} {U : State} (h : jm_St n d A U U.heap) (args : Array Value) : (Cond.laysStatic "java/lang/Throwable" n d).before args U = true ∧ (Cond.isRef (.static "java/lang/Throwable" n d)).before args U = true := by
  obtain ⟨c, k, i, f, a, cell, v, h1, h2, h3, h4, h5, h6, h7, h8, h9, h10, h11, -⟩ := h
  constructor
  · simp [Cond.before, Cond.holds, Cond.value, h1, h2, h3, h4, h5, h6, h7, h8, h9]
  · cases v <;> simp [Value.isRef] at h11 <;> simp [Cond.before, Cond.holds, Cond.value, Term.eval, State.fieldNamed?, h2, h3, h4, h5, h6, h10]
theorem jm_N.frames {G : jm_G} {T : State} {fs : List Frame} (h : jm_N G T T.heap) : jm_N G (T.setFrames fs) (T.setFrames fs).heap := by
  obtain ⟨h1, h2, h3, h4, h5, h6, h7⟩ := h
  exact ⟨fun q hq => va_Nw.same (u := T) rfl rfl (h1 q hq), ⟨va_AO.moved (u := T) (Vm.Alike.refl T.vm) h2.1, arrOfT_moved (u := T) (Vm.Alike.refl T.vm) h2.2⟩, fun q hq => va_Nw.same (u := T) rfl rfl (h3 q hq), fun x hx => va_Nw.same (u := T) rfl rfl (h4 x hx), jm_St.moved (u := T) (Vm.Alike.refl T.vm) h5, jm_St.moved (u := T) (Vm.Alike.refl T.vm) h6, fun q hq => (h7 q hq).imp fun _ h => vk_R.same (u := T) rfl h⟩
theorem th_words {G : jm_G} {E : String} {ic ix : Nat} {rx : ByteArray} {U : State} {args : Array Value} (hk : th_ok E ic ix rx) (hW : ∀ w ∈ jm_W, w.before args U = true) (hN : jm_N G U U.heap) : ∀ w ∈ Bundle.ownAtomsX "CellWorks" ic E ix rx th_names, w.before args U = true := by
  intro w hw
  have h := List.all_eq_true.mp hk.1 w hw
  rw [Bool.or_eq_true, decide_eq_true_eq, decide_eq_true_eq] at h
  rcases h with h | h
  · exact hW w h
  · obtain ⟨h1, h2, h3, h4, h5, h6, h7⟩ := hN
    have s5 := th_stat h5 args
    have s6 := th_stat h6 args
    unfold th_oth at h
    rcases List.mem_cons.mp h with rfl | h
    · exact s5.1
    rcases List.mem_cons.mp h with rfl | h
    · exact s6.1
    rcases List.mem_cons.mp h with rfl | h
    · exact s5.2
    rcases List.mem_cons.mp h with rfl | h
    · exact s6.2
    rcases List.mem_cons.mp h with rfl | h
    · exact va_Nw.use rfl (h3 E hk.2.2.1)
    rcases List.mem_cons.mp h with rfl | h
    · exact va_Nw.use rfl (h4 _ (by simp [jm_ND]))
    rcases List.mem_cons.mp h with rfl | h
    · exact va_Nw.use rfl (h4 _ (by simp [jm_ND]))
    rcases List.mem_cons.mp h with rfl | h
    · exact va_Nw.use rfl (h4 _ (by simp [jm_ND]))
    · cases h
