/-! a throw is caught by a class that may not have been resolved yet -/
theorem th_find {e : Env} {s : State} {f : JFrame} {a : Addr} {meth : Method} {code : ClassFile.Code} {x : ExceptionTableEntry} {c : ClassId} {vm' : Vm} {cell : Cell} {Q : Handler → Pre} {E : CtlPost} {d : Bool} {acts : List Action} (hm : s.vm.method? f.method = some meth) (hc : meth.code = some code) (htab : code.exceptionTable.toList = [x])
    (hx : covers x f.pc = true) (h0 : x.catchType ≠ 0) (hg : (resolveClass f.method.cls x.catchType).Gives e.toSetting s.vm (.ok c) vm') (hsz : vm'.classes.size ≤ s.vm.classes.size) (hcell : s.heap[a]? = some cell) (hobj : ∀ k, cell.vm ≠ .statics k) (hk : ∃ k, vm'.classes[cell.cls]? = some k) (hcl : ∃ k, vm'.classes[c]? = some k) (hfit : vm'.assignable cell.cls c = true) :
    wp (findHandler f a) Q E e d acts s ↔ Q (.found x.handlerPc) d acts (s.setVm vm') := by
  rw [W.findHandler_eq hm hc, htab]
  obtain ⟨ha, ht⟩ := hg.op (op := VmOp.resolveClass f.method.cls x.catchType) rfl
  simp only [covers] at hx
  simp [findHandler.go, hx, h0, ha, ht, hsz, hcell, hobj, hk, hcl, hfit, VmOp.dirties, VmOp.acts]
theorem th_step {e : Env} {s : State} {a : Addr} {f : JFrame} {r : List Frame} {pc : Nat} {vm' : Vm} (hfind : ∀ (Q : Handler → Pre) (E : CtlPost) (d : Bool) (acts : List Action), wp (findHandler f a) Q E e d acts s ↔ Q (.found pc) d acts (s.setVm vm')) :
    (stepThrowing e s a (.java f :: r)).Is ((s.setVm vm').setFrames (.java { f with pc := pc, stack := [.ref a] } :: r)) [] := by
  simp only [stepThrowing, searchFrame, vmDo]
  generalize hr : Sem.go _ e false [] s = res
  obtain ⟨as, rfl, ha⟩ := Sem.eq_ok_of hr (a := Handler.found pc) (s' := s.setVm vm') (acts' := []) (by simp [hfind _ _ _ _])
  exact ⟨rfl, ha⟩
theorem th_caught {tb : Tables} {e : Env} {s target : State} {g : JFrame} {c : ClassFile.Code} {below : List Frame} {a : Addr} {pc : Nat} {vm' : Vm} (h : At s g.method c below)
    (hfind : ∀ (Q : Handler → Pre) (E : CtlPost) (d : Bool) (acts : List Action), wp (findHandler g a) Q E e d acts ((s.setTop g).pushFrame (.throwing a)) ↔ Q (.found pc) d acts (((s.setTop g).pushFrame (.throwing a)).setVm vm'))
    (hrest : Steps tb e below ((s.setVm vm').setTop { g with pc := pc, stack := [.ref a] }) target) : Steps tb e below ((s.setTop g).pushFrame (.throwing a)) target := by
  obtain ⟨hgo, hw⟩ := h.throwing a
  refine Steps.head hgo hw ?_
  rw [stepThread_throwing (frames_entered h.top _), (th_step (s := (s.setTop g).pushFrame (.throwing a)) hfind).1]
  obtain ⟨g₀, hg⟩ := Option.isSome_iff_exists.mp h.top
  obtain ⟨r, hr⟩ := State.topJava?_eq_some.mp hg
  have hr' : (s.setVm vm').frames = .java g₀ :: r := hr
  rw [State.setTop_of_frames _ hr'] at hrest
  have e1 : (((s.setTop g).pushFrame (.throwing a)).setVm vm').setFrames (.java { g with pc := pc, stack := [.ref a] } :: r) = (s.setVm vm').setFrames (.java { g with pc := pc, stack := [.ref a] } :: r) := by
    show (((s.setTop g).pushFrame (.throwing a)).setFrames (.java { g with pc := pc, stack := [.ref a] } :: r)).setVm vm' = (s.setFrames (.java { g with pc := pc, stack := [.ref a] } :: r)).setVm vm'
    rw [State.pushFrame, State.setFrames_setFrames, State.setTop_of_frames _ hr, State.setFrames_setFrames]
  rw [hr]
  show Steps tb e below ((((s.setTop g).pushFrame (.throwing a)).setVm vm').setFrames (.java { g with pc := pc, stack := [.ref a] } :: r)) target
  rw [e1]
  exact hrest
/-- the contract of a call that throws: the exception is the newest cell -/
def jm_CT (l : Launch) (G : jm_G) (M : jm_M) (d : Nat) (args : List Value) (h : jm_H) (E : String) (h' : jm_H) : Prop :=
  h.1 ≤ h'.1 ∧ h.2.1 ≤ h'.2.1 ∧ MetFree l M.1 (headSpec (jm_ws M) (jm_rmN d (h'.1 - h.1) (h'.2.1 - h.2.1))) (jm_P G args h) (fun _ _ _ _ _ => True) (fun a st o t => jm_XQ G E h' (h'.1 - h.1) (h'.2.1 - h.2.1) a st o t)
theorem jm_ofT {l : Launch} {G : jm_G} {M : jm_M} {h h' : jm_H} {d : Nat} {args : List Value} {E : String} (hy : plainName M.1.cls = true) (htb0 : M.2.2.2.2 = []) (hlen : (lg_sl args).length ≤ M.2.2.1)
    (k : jm_X l G M h.1 h.2.1 (jm_zn G d h.1 h.2.1) (fun r h9 => r = .inr E ∧ h9 = h') 0 (lv_args 0 args) [] h) : jm_CT l G M d args h E h' := by
  obtain ⟨r, h9, a1, a2, a3, a4, ⟨rfl, rfl⟩, kv⟩ := k
  refine ⟨a1, a2, ?_⟩
  refine MetFree.of_bodyS (code := M.2.1) (maxLocals := M.2.2.1) (ret := M.2.2.2.1) hy ?_ ?_
  · intro args s m h hn
    obtain ⟨meth, c, h1, h2, h3, h4, h5, h6, -, -⟩ := Cond.code_spec hn (atoms_spec (ws := jm_ws M) h _ List.mem_cons_self)
    exact ⟨meth, c, h1, h2, h3, h4, h5, h6⟩
  · intro p e s m args' below meth c s₁ B hml hv _
    obtain ⟨rfl, hR, hK, hN⟩ := hv
    have hts := atoms_spec (ws := jm_ws M) B.pre
    have hl := lv_entry args (n := M.2.2.1) hlen
    rw [lg_entry_eq]
    generalize (lg_sl args ++ List.replicate (M.2.2.1 - (lg_sl args).length) Slot.unset).toArray = ls at hl ⊢
    have htab : c.exceptionTable.toList = M.2.2.2.2 := by
      rw [htb0]
      have := BodyLoose.noHandlers B (hts _ List.mem_cons_self)
      simpa using this
    have C : jm_Cx G M p s m args.toArray meth c := ⟨B.exec, B.bytes, hml, B.returns, B.notSynchronized, (name_of_methodNamed B.named B.method).1, findClass_of_methodNamed B.named, htab, fun w hw => hts w (List.mem_cons_of_mem _ hw), hK, hN⟩
    have e1 : h.1 = s.heap.size := hR.1
    have W9 := kv p e s m args.toArray below meth c s.heap [] ls C e1 (Nat.le_refl _) (Nat.le_refl _) hR va_S.rf hl
    rw [Nat.sub_self, Nat.sub_self] at W9
    have hh0 : s₁.heap = s.heap := by rw [B.state]; rfl
    obtain ⟨t, st, o, q1, q2, q3⟩ := W9 s₁ hh0 (Stand.of_body B)
    exact ⟨t, o, st, q1, q2, q3⟩
