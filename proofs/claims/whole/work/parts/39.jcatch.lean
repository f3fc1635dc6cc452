/-! calls that throw -/
theorem th_assign (vm : Vm) (c : ClassId) : vm.assignable c c = true := by
  show vm.assignableAux (255 + 1) c c = true
  rw [Vm.assignableAux, Bool.or_eq_true, beq_iff_eq]
  exact Or.inl rfl
/-- what a call that throws leaves -/
def th_post (G : jm_G) (E : String) (h1 : jm_H) (mc ms : Nat) (A : Pt) (_a : Array Value) (v : Addr) (B : Pt) : Prop := ∃ t : State, B.U.heap = t.heap ∧ B.U.vm = t.vm ∧ (∃ ce, t.heap[v]? = some ce ∧ ce.vm = .none ∧ A.U.vm.findClass E = some ce.cls) ∧ v + 1 = h1.1 ∧ jm_R G h1 t.heap ∧ (A.U.heap.size ≤ t.heap.size ∧ ∀ q : Nat, q < A.U.heap.size → ¬ jm_A G q → t.heap[q]? = A.U.heap[q]?) ∧ ∃ L, B.locs = A.locs ++ L ∧ (∀ z ∈ L, jm_A G z.base) ∧ B.cells = A.cells + mc ∧ B.slots = A.slots + ms
theorem th_back {l : Launch} {G : jm_G} {M2 : jm_M} {d n : Nat} {As : List Value} {h h1 : jm_H} {E : String} {p : Program} {e : Env} {R : Room} {s : State} {args : Array Value} {below : List Frame} (hM : MetFree l M2.1 (headSpec (jm_ws M2) (jm_rmN d (h1.1 - h.1) (h1.2.1 - h.2.1))) (jm_P G As h) (fun _ _ _ _ _ => True) (fun a st o t => jm_XQ G E h1 (h1.1 - h.1) (h1.2.1 - h.2.1) a st o t))
    (hts : ∀ w ∈ jm_W, w.before args s = true) (hcd : jm_cd M2 n) (hf : d + 1 ≤ R.frames) (hlo : 19 + M2.2.2.1 + jm_lo d ≤ R.locals) :
    Free.BackT l R p e below s args M2.1 3 8 (fun A a => A.cells + (h1.1 - h.1) ≤ R.cells ∧ A.slots + (h1.2.1 - h.2.1) ≤ R.slots ∧ jm_P G As h a A.U) (th_post G E h1 (h1.1 - h.1) (h1.2.1 - h.2.1)) := by
  have hgood : ∀ w ∈ jm_W, ∀ (a' : Array Value) (U : State), s.WarmedH U.vm → w.before a' U = true := fun w hw a' U hW => word_at hW (jm_W_good w hw) (hts w hw)
  obtain ⟨w1, w2, w3⟩ := hcd
  refine Free.BackT.of_free (bytes := M2.2.1) (maxL := M2.2.2.1) (ret := M2.2.2.2.1) (E := fun a st o t L k n => k = h1.1 - h.1 ∧ n = h1.2.1 - h.2.1 ∧ ∀ z ∈ L, jm_A G z.base) hM hf ?_ ?_ ?_ ?_ ?_ ?_
  · show 8 + (M2.2.2.1 + 11) + jm_lo d ≤ R.locals
    omega
  · intro m meth c A a X hp
    refine ⟨atoms_intro fun w hw => ?_, hgood _ w1 _ _ X.warmed, hgood _ w2 _ _ X.warmed, hp.1, hp.2.1⟩
    rcases List.mem_cons.mp hw with rfl | hw
    · exact hgood _ w1 _ _ X.warmed
    · exact hgood _ hw _ _ X.warmed
  · intro m meth c A a g mk X hp
    exact jm_blind _ _ _ _ hp.2.2
  · intros
    trivial
  · intro a st o t hq
    obtain ⟨q, ce, L, q1, q2, q3, q4, q5, q6, q7, q8, q9, q10⟩ := hq
    exact ⟨L, _, _, ⟨⟨q, q1⟩, q6, q7⟩, rfl, rfl, q8⟩
  · intro m meth c A a g mk v t L k n X hp hq hF hE
    obtain ⟨q, ce, L', q1, q2, q3, q4, q5, q6, q7, q8, q9, q10⟩ := hq
    cases q1
    obtain ⟨rfl, rfl, hL⟩ := hE
    exact ⟨t, rfl, rfl, ⟨ce, q3, q4, q5⟩, q2, q9, q10, L, rfl, hL, rfl, rfl⟩
theorem th_callV {p : Program} {l : Launch} {e : Env} {R : Room} {s : State} {m : MethodId} {args : Array Value} {below : List Frame} {meth : Method} {c : ClassFile.Code} {T : State} {locs : List Loc} {cells slots : Nat} (X : Stand p l e R s m args below meth c T locs cells slots) (hexec : p.tables.exec = Jvm.exec) {own C : String} {index : Nat} {y : MethodName} {bytes : ByteArray} {maxL : Nat} {ret : Option FieldType}
    (hown : s.vm.findClass own = some m.cls) (hlink : (Cond.methodLink own index y).before args s = true) (hinst : (Cond.instanceMethod y).before args s = true) (hsel : (Cond.selects C y y).before args s = true) (hcode : (Cond.code y bytes maxL ret).before args s = true) (hy : y.cls ≠ "java/lang/invoke/MethodHandle" ∧ y.cls ≠ "java/lang/invoke/VarHandle")
    {W : Nat} {Pre : Pt → Array Value → Prop} {Post : Pt → Array Value → Addr → Pt → Prop} (hK : Free.BackT l R p e below s args y 3 W Pre Post) {b : Addr} {cellB : Cell} (hcell : T.heap[b]? = some cellB) (hobj : cellB.vm.isStatics = false) (hcls : s.vm.findClass C = some cellB.cls)
    {g : JFrame} (hg : g.method = m) (hsize : g.locals.size = c.maxLocals) {argsL rest : List Value} (hlen : ∀ sig, parseMethodDescriptor y.desc = some sig → argsL.length = sig.parameters.length) (hstack : g.stack = argsL.reverse ++ .ref b :: rest) (hW : 2 * g.monitorRoom + (rest.map fun v => v.category).sum ≤ W) (hdg : decode c.code g.pc = .ok (.invokevirtual index, 3))
    (hpre : ∀ vm₁, s.WarmedH vm₁ → Pre ⟨T.setVm vm₁, locs, cells, slots⟩ (Value.ref b :: argsL).toArray) :
    ∃ (v : Addr) (vm₁ : Vm) (B : Pt), s.WarmedH vm₁ ∧ Stand p l e R s m args below meth c B.U B.locs B.cells B.slots ∧ Post ⟨T.setVm vm₁, locs, cells, slots⟩ (Value.ref b :: argsL).toArray v B ∧ Steps p.tables e below (T.setTop g) ((B.U.setTop { g with stack := rest }).pushFrame (.throwing v)) := by
  obtain ⟨mk, methM, hnamed, hmethM, hstM, habM⟩ := Cond.instanceMethod_spec hinst
  obtain ⟨methM', cM, hmethM', -, -, -, -, -, -, hsigM⟩ := Cond.code_spec hnamed hcode
  cases hmethM.symm.trans hmethM'
  obtain ⟨c2, r2, m2, q1, q2, q3, q4, kP, hkP, hkPi⟩ := Cond.selects_spec hsel
  cases hcls.symm.trans q1
  cases (State.methodFound?_of_named hnamed hy).symm.trans q2
  cases hnamed.symm.trans q3
  have hselP : selectMethod e.platform s.vm cellB.cls mk = .method mk := by rw [Launch.admits_selectMethod X.admits]; exact q4
  obtain ⟨vm₁, X₁, hstep₁⟩ := X.invokevirtual hexec hown hlink hnamed hmethM hstM hkP hkPi hy (a := b) (cell := cellB) hcell (fun z h => by rw [h] at hobj; cases hobj) hselP hmethM habM hkP hkPi (g := g) hg (argsL := argsL) (rest := rest) (hlen _ hsigM) hstack hdg
  obtain ⟨v, B, X', hpost, hsteps⟩ := hK m meth c ⟨T.setVm vm₁, locs, cells, slots⟩ { g with stack := rest } (.invokevirtual index) mk (Value.ref b :: argsL).toArray X₁ hg hsize hdg hW (X₁.named hnamed) (hpre vm₁ X₁.warmed)
  exact ⟨v, vm₁, B, X₁.warmed, X', hpost, hstep₁ _ fun acts => by rw [doInvoke_state]; exact hsteps⟩
section JT
variable {l : Launch} {G : jm_G} {M : jm_M} {n0 s0 : Nat} {Post : jm_r → jm_H → Prop} {pc : Nat} {lv : List (Nat × Value)} {st : List Value} {h : jm_H}
/-- the throw of a call goes on out of the frame -/
theorem jx_callVX {M2 : jm_M} {D d n idx b c nn N : Nat} {As rest : List Value} {h1 : jm_H} {T0 : u_T} {E : String} (htb0 : M.2.2.2.2 = []) (hcl : jm_cl[c]? = some (M2.1.cls, T0, N)) (hk : h.2.2.1 b = (jm_o c, nn)) (hw1 : Cond.methodLink M.1.cls idx M2.1 ∈ jm_W) (hw2 : Cond.instanceMethod M2.1 ∈ jm_W) (hw3 : Cond.selects M2.1.cls M2.1 M2.1 ∈ jm_W) (hd : decode M.2.1 pc = .ok (.invokevirtual idx, 3)) (hC : jm_CT l G M2 d (.ref b :: As) h E h1) (hcd : jm_cd M2 n) (hn : As.length = n) (hst : st = As.reverse ++ .ref b :: rest) (hW : (rest.map fun v => v.category).sum ≤ 8)
    (hf : d + 1 ≤ D) (hlo : 19 + M2.2.2.1 + jm_lo d ≤ jm_lo D) (hp : Post (.inr E) h1) : jm_X l G M n0 s0 (jm_zn G D n0 s0) Post pc lv st h := by
  subst hst
  obtain ⟨c1, c2, hM⟩ := hC
  refine ⟨.inr E, h1, c1, c2, Nat.le_refl _, Nat.le_refl _, hp, fun p e s m args below meth c9 H locs ls C n1 n2 n3 hR hS hv => ?_⟩
  obtain ⟨hx, hb, hml, hr, hlk, hnm, hown, htb, hts, hK, hN⟩ := C
  rw [htb0] at htb
  intro T hT X
  have hrecv : ∃ cellB : Cell, T.heap[b]? = some cellB ∧ cellB.vm.isStatics = false ∧ s.vm.findClass M2.1.cls = some cellB.cls := by
    obtain ⟨g1, r0, g2, cell, q1, q2, q3, -⟩ := hR.2.2.1 b c nn hk
    exact ⟨cell, by rw [hT]; exact q1, by rw [q3]; rfl, by rw [q2]; exact (hK.1 c _ hcl).2.1⟩
  obtain ⟨cellB, r1, r2, r3⟩ := hrecv
  have hpre : ∀ vm₁, s.WarmedH vm₁ → jm_P G (.ref b :: As) h (.ref b :: As).toArray (T.setVm vm₁) := fun vm₁ hW1 => ⟨rfl, by show jm_R G h T.heap; rw [hT]; exact hR, jm_K.moved hW1.alike hK, jm_N.warm (U := T.setVm vm₁) hW1 hT hS hN⟩
  have hlen : ∀ sig, parseMethodDescriptor M2.1.desc = some sig → As.length = sig.parameters.length := fun sig hs => by
    have := hcd.2.2.2.2
    rw [hs] at this
    rw [hn]
    exact (Option.some.inj this).symm
  obtain ⟨v, vm₁, B, hW1, X', ⟨t, t1, t2, ⟨ce, t3, t4, t5⟩, t6, t7, t8, L, t9, t10, t11, t12⟩, stp⟩ := th_callV X hx (own := M.1.cls) (C := M2.1.cls) (index := idx) (y := M2.1) hown (hts _ hw1) (hts _ hw2) (hts _ hw3) (hts _ hcd.1) ⟨hcd.2.2.1, hcd.2.2.2.1⟩ (th_back (n := n) hM hts hcd hf hlo) r1 r2 r3 (g := F0 m pc ls (As.reverse ++ .ref b :: rest)) rfl (by rw [hml]; exact hv.1) (argsL := As) (rest := rest) hlen rfl (by show 2 * 0 + _ ≤ 8; omega) (by rw [hb]; exact hd)
    (fun vm₁ hW1 => ⟨by show h.1 - n0 + (h1.1 - h.1) ≤ h1.1 - n0; omega, by show h.2.1 - s0 + (h1.2.1 - h.2.1) ≤ h1.2.1 - s0; omega, hpre vm₁ hW1⟩)
  obtain ⟨st2, hrun, hended, hWU, hsame⟩ := X'.leaveThrown v (g := F0 m pc ls rest) rfl rfl rfl (by rw [htb]; intro x hx; cases hx) hlk
  have hTH : T.heap.size = H.size := by rw [hT]
  refine ⟨_, stp.trans st2, .threw v, hrun, hended, v, ce, B.locs, rfl, t6, by show B.U.heap[v]? = _; rw [t1]; exact t3, t4, ?_, hWU, ?_, ?_, by show jm_R G h1 B.U.heap; rw [t1]; exact t7, ?_⟩
  · rw [← t5]; exact (hW1.alike.findClass _ _).symm
  · rw [t11, t12] at hsame
    refine hsame.weaken (fun y hy _ => hy) ?_ ?_
    · show h.1 - n0 + (h1.1 - h.1) ≤ h1.1 - n0
      omega
    · show h.2.1 - s0 + (h1.2.1 - h.2.1) ≤ h1.2.1 - s0
      omega
  · intro z hz
    rw [t9] at hz
    rcases List.mem_append.mp hz with h | h
    · exact hS.2.2 z h
    · exact t10 z h
  · have e8 : (T.setVm vm₁).heap = H := hT
    rw [show (Pt.U ⟨T.setVm vm₁, locs, h.1 - n0, h.2.1 - s0⟩).heap = H from hT] at t8
    refine ⟨?_, fun q q1 q2 => ?_⟩
    · show s.heap.size ≤ B.U.heap.size
      rw [t1]
      exact Nat.le_trans hS.1 t8.1
    · show B.U.heap[q]? = s.heap[q]?
      rw [t1, t8.2 q (Nat.lt_of_lt_of_le q1 hS.1) q2]
      exact hS.2.1 q q1 q2
/-- the throw of a call is caught in the frame -/
theorem jx_callVC {Z : jm_Z} {M2 : jm_M} {d n idx b c nn N sp ep hpc ct : Nat} {As rest : List Value} {h1 : jm_H} {T0 : u_T} {E : String} (htb0 : M.2.2.2.2 = [⟨sp, ep, hpc, ct⟩]) (hcv : (decide (sp ≤ pc) && decide (pc < ep)) = true) (hct : ct ≠ 0) (hwE : Cond.classLink M.1.cls ct E ∈ jm_W) (hcl : jm_cl[c]? = some (M2.1.cls, T0, N)) (hk : h.2.2.1 b = (jm_o c, nn)) (hw1 : Cond.methodLink M.1.cls idx M2.1 ∈ jm_W) (hw2 : Cond.instanceMethod M2.1 ∈ jm_W) (hw3 : Cond.selects M2.1.cls M2.1 M2.1 ∈ jm_W) (hd : decode M.2.1 pc = .ok (.invokevirtual idx, 3)) (hC : jm_CT l G M2 d (.ref b :: As) h E h1) (hcd : jm_cd M2 n) (hn : As.length = n) (hst : st = As.reverse ++ .ref b :: rest) (hW : (rest.map fun v => v.category).sum ≤ 8)
    (hf : d + 1 ≤ Z.1) (hlo : 19 + M2.2.2.1 + jm_lo d ≤ Z.2.1) (kk : jm_X l G M n0 s0 Z Post hpc lv [.ref (h1.1 - 1)] h1) : jm_X l G M n0 s0 Z Post pc lv st h := by
  subst hst
  obtain ⟨c1, c2, hM⟩ := hC
  obtain ⟨r, h', a1, a2, a3, a4, a5, vk⟩ := kk
  refine ⟨r, h', Nat.le_trans c1 a1, Nat.le_trans c2 a2, a3, a4, a5, fun p e s m args below meth c9 H locs ls C n1 n2 n3 hR hS hv => ?_⟩
  have W9 := fun H1 locs1 => vk p e s m args below meth c9 H1 locs1 ls C n1 (Nat.le_trans n2 c1) (Nat.le_trans n3 c2)
  obtain ⟨hx, hb, hml, hr, hlk, hnm, hown, htb, hts, hK, hN⟩ := C
  rw [htb0] at htb
  intro T hT X
  have hrecv : ∃ cellB : Cell, T.heap[b]? = some cellB ∧ cellB.vm.isStatics = false ∧ s.vm.findClass M2.1.cls = some cellB.cls := by
    obtain ⟨g1, r0, g2, cell, q1, q2, q3, -⟩ := hR.2.2.1 b c nn hk
    exact ⟨cell, by rw [hT]; exact q1, by rw [q3]; rfl, by rw [q2]; exact (hK.1 c _ hcl).2.1⟩
  obtain ⟨cellB, r1, r2, r3⟩ := hrecv
  have hpre : ∀ vm₁, s.WarmedH vm₁ → jm_P G (.ref b :: As) h (.ref b :: As).toArray (T.setVm vm₁) := fun vm₁ hW1 => ⟨rfl, by show jm_R G h T.heap; rw [hT]; exact hR, jm_K.moved hW1.alike hK, jm_N.warm (U := T.setVm vm₁) hW1 hT hS hN⟩
  have hlen : ∀ sig, parseMethodDescriptor M2.1.desc = some sig → As.length = sig.parameters.length := fun sig hs => by
    have := hcd.2.2.2.2
    rw [hs] at this
    rw [hn]
    exact (Option.some.inj this).symm
  obtain ⟨v, vm₁, B, hW1, X', ⟨t, t1, t2, ⟨ce, t3, t4, t5⟩, t6, t7, t8, L, t9, t10, t11, t12⟩, stp⟩ := th_callV X hx (own := M.1.cls) (C := M2.1.cls) (index := idx) (y := M2.1) hown (hts _ hw1) (hts _ hw2) (hts _ hw3) (hts _ hcd.1) ⟨hcd.2.2.1, hcd.2.2.2.1⟩ (th_back (n := n) hM hts hcd hf hlo) r1 r2 r3 (g := F0 m pc ls (As.reverse ++ .ref b :: rest)) rfl (by rw [hml]; exact hv.1) (argsL := As) (rest := rest) hlen rfl (by show 2 * 0 + _ ≤ 8; omega) (by rw [hb]; exact hd)
    (fun vm₁ hW1 => ⟨by show h.1 - n0 + (h1.1 - h.1) ≤ (Z.2.2 r h').1; omega, by show h.2.1 - s0 + (h1.2.1 - h.2.1) ≤ (Z.2.2 r h').2.1; omega, hpre vm₁ hW1⟩)
  have hma : e.platform.magicAccessors = ({} : Platform).magicAccessors := by rw [X.admits.platform]
  obtain ⟨cE, hfE, hl⟩ := Cond.classLink_spec hown (hts _ hwE) e.platform hma
  have hcE : ce.cls = cE := by
    have : s.vm.findClass E = some ce.cls := by rw [← t5]; exact (hW1.alike.findClass _ _).symm
    exact Option.some.inj (this.symm.trans hfE)
  obtain ⟨dk, _, _, ck, hdk, _, _, _, _, hck, _, hres⟩ := hl.here
  have hWv := X'.warmed.noted hdk hres (State.rightAt_cls hl)
  have hg := resolveClass_links e.toSetting (X'.warmed.classLinks hl)
  obtain ⟨k', hk', -⟩ := hWv.2.2 cE ck hck
  have hfind : ∀ (Q : Handler → Pre) (E : CtlPost) (d : Bool) (acts : List Action), wp (findHandler (F0 m pc ls rest) v) Q E e d acts ((B.U.setTop (F0 m pc ls rest)).pushFrame (.throwing v)) ↔ Q (.found hpc) d acts (((B.U.setTop (F0 m pc ls rest)).pushFrame (.throwing v)).setVm (B.U.vm.noted m.cls ct (.cls cE))) := fun Q E d acts =>
    th_find (x := ⟨sp, ep, hpc, ct⟩) (cell := ce) (by rw [Stand.throwing_vm]; exact X'.method') X'.code htb hcv hct (by rw [Stand.throwing_vm]; exact hg) (by rw [Stand.throwing_vm, Vm.size_noted]; exact Nat.le_refl _) (by rw [Stand.throwing_heap, t1]; exact t3) (fun k => by rw [t4]; simp) ⟨k', by rw [hcE]; exact hk'⟩ ⟨k', hk'⟩ (by rw [hcE]; exact th_assign _ _)
  have hvv : v = h1.1 - 1 := Nat.eq_sub_of_add_eq t6
  have hS1 : va_S (jm_A G) s.heap B.U.heap (locs ++ L) := by
    rw [show (Pt.U ⟨T.setVm vm₁, locs, h.1 - n0, h.2.1 - s0⟩).heap = H from hT] at t8
    rw [t1]
    refine ⟨Nat.le_trans hS.1 t8.1, fun q q1 q2 => by rw [t8.2 q (Nat.lt_of_lt_of_le q1 hS.1) q2]; exact hS.2.1 q q1 q2, fun z hz => ?_⟩
    rcases List.mem_append.mp hz with h | h
    · exact hS.2.2 z h
    · exact t10 z h
  have X2 := X'.noted hWv
  rw [t9, t11, t12] at X2
  have Wf := W9 B.U.heap (locs ++ L) (by rw [t1]; exact t7) hS1 hv
  have Wg := W.cs (cells := h.1 - n0 + (h1.1 - h.1)) (slots := h.2.1 - s0 + (h1.2.1 - h.2.1)) (cells' := h1.1 - n0) (slots' := h1.2.1 - s0) (by omega) (by omega) Wf
  obtain ⟨tt, st3, q3⟩ := Wg (B.U.setVm (B.U.vm.noted m.cls ct (.cls cE))) rfl X2
  refine ⟨tt, stp.trans (th_caught (g := F0 m pc ls rest) X'.here hfind ?_), q3⟩
  rw [← hvv] at st3
  exact st3
end JT
