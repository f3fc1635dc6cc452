/-! methods with a table of exceptions, and calls of them -/
abbrev jm_hh : Type := List (Nat × Nat × Nat × Nat)
def jm_tb (hh : jm_hh) : List ExceptionTableEntry := hh.map fun q => ⟨q.1, q.2.1, q.2.2.1, q.2.2.2⟩
theorem jm_tb_of {L : List ExceptionTableEntry} {hh : jm_hh} (h : L.map (fun h => (h.startPc, h.endPc, h.handlerPc, h.catchType)) = hh) : L = jm_tb hh := by
  subst h
  unfold jm_tb
  rw [List.map_map]
  exact (List.map_id L).symm
def jm_wsW (M : jm_M) (hh : jm_hh) : List Cond := Cond.codeWith M.1 M.2.1 M.2.2.1 M.2.2.2.1 hh :: jm_W
/-- the contract of a method with a table that returns -/
def jm_CW (l : Launch) (G : jm_G) (M : jm_M) (hh : jm_hh) (d : Nat) (args : List Value) (h : jm_H) (v : Option Value) (h' : jm_H) : Prop :=
  h.1 ≤ h'.1 ∧ h.2.1 ≤ h'.2.1 ∧ Met l M.1 (jm_wsW M hh) (jm_rmN d (h'.1 - h.1) (h'.2.1 - h.2.1)) (jm_P G args h) (jm_Q G v h') (h'.1 - h.1) (h'.2.1 - h.2.1) (jm_A G)
theorem jm_ofW {l : Launch} {G : jm_G} {M : jm_M} {h : jm_H} {d : Nat} {args : List Value} {hh : jm_hh} {Q : Option Value → jm_H → Prop} (hy : plainName M.1.cls = true) (htb0 : M.2.2.2.2 = jm_tb hh) (hlen : (lg_sl args).length ≤ M.2.2.1)
    (k : jm_X l G M h.1 h.2.1 (jm_zn G d h.1 h.2.1) (fun r h' => ∃ v, r = .inl v ∧ Q v h') 0 (lv_args 0 args) [] h) : ∃ v h', jm_CW l G M hh d args h v h' ∧ Q v h' := by
  obtain ⟨r, h', a1, a2, a3, a4, ⟨v, rfl, hq⟩, kv⟩ := k
  refine ⟨v, h', ⟨a1, a2, ?_⟩, hq⟩
  refine va_MetW (hh := hh) (cc := M.2.1) (maxL := M.2.2.1) (ret := M.2.2.2.1) hy rfl ?_
  intro p e s m args' below meth c s₁ B hml hv
  obtain ⟨rfl, hR, hK, hN⟩ := hv
  have hts := atoms_spec (ws := jm_wsW M hh) B.pre
  have hl := lv_entry args (n := M.2.2.1) hlen
  rw [lg_entry_eq]
  generalize (lg_sl args ++ List.replicate (M.2.2.1 - (lg_sl args).length) Slot.unset).toArray = ls at hl ⊢
  have htab : c.exceptionTable.toList = M.2.2.2.2 := by
    rw [htb0]
    obtain ⟨m9, meth9, c9, q1, q2, q3, -, -, q4, -⟩ := Cond.codeWith_spec (hts _ List.mem_cons_self)
    cases q1.symm.trans B.named
    cases q2.symm.trans B.method
    have hc : meth.code = some c := (Stand.of_body B).code
    cases q3.symm.trans hc
    exact jm_tb_of q4
  have C : jm_Cx G M p s m args.toArray meth c := ⟨B.exec, B.bytes, hml, B.returns, B.notSynchronized, (name_of_methodNamed B.named B.method).1, findClass_of_methodNamed B.named, htab, fun w hw => hts w (List.mem_cons_of_mem _ hw), hK, hN⟩
  have e1 : h.1 = s.heap.size := hR.1
  have W9 := kv p e s m args.toArray below meth c s.heap [] ls C e1 (Nat.le_refl _) (Nat.le_refl _) hR va_S.rf hl
  rw [Nat.sub_self, Nat.sub_self] at W9
  exact W9
theorem jx_callSW {l : Launch} {G : jm_G} {M : jm_M} {n0 s0 : Nat} {Z : jm_Z} {Post : jm_r → jm_H → Prop} {pc : Nat} {lv : List (Nat × Value)} {st : List Value} {h : jm_H} {M2 : jm_M} {hh : jm_hh} {d n idx : Nat} {As rest : List Value} {v0 : Option Value} {h1 : jm_H} (hw1 : Cond.methodLink M.1.cls idx M2.1 ∈ jm_W) (hw2 : Cond.static M2.1 ∈ jm_W) (hd : decode M.2.1 pc = .ok (.invokestatic idx, 3)) (hC : jm_CW l G M2 hh d As h v0 h1)
    (hc1 : Cond.codeWith M2.1 M2.2.1 M2.2.2.1 M2.2.2.2.1 hh ∈ jm_W) (hc2 : Cond.initialized M2.1.cls ∈ jm_W) (hc3 : M2.1.cls ≠ "java/lang/invoke/MethodHandle" ∧ M2.1.cls ≠ "java/lang/invoke/VarHandle" ∧ (parseMethodDescriptor M2.1.desc).map (fun d => d.parameters.length) = some n) (hn : As.length = n) (hst : st = As.reverse ++ rest) (hW : (rest.map fun v => v.category).sum ≤ 8)
    (hf : d + 1 ≤ Z.1) (hlo : 19 + M2.2.2.1 + jm_lo d ≤ Z.2.1) (kk : jm_X l G M n0 s0 Z Post (pc + 3) lv (v0.toList ++ rest) h1) : jm_X l G M n0 s0 Z Post pc lv st h := by
  subst hst
  obtain ⟨r, h', a1, a2, a3, a4, a5, v⟩ := kk
  obtain ⟨c1, c2, hM⟩ := hC
  refine ⟨r, h', Nat.le_trans c1 a1, Nat.le_trans c2 a2, a3, a4, a5, fun p e s m args below meth c9 H locs ls C n1 n2 n3 hR hS hv => ?_⟩
  have W9 := fun H1 locs1 => v p e s m args below meth c9 H1 locs1 ls C n1 (Nat.le_trans n2 c1) (Nat.le_trans n3 c2)
  obtain ⟨hx, hb, hml, hr, hlk, hnm, hown, htb, hts, hK, hN⟩ := C
  have hgood : ∀ w ∈ jm_W, ∀ (a' : Array Value) (U : State), s.WarmedH U.vm → w.before a' U = true := fun w hw a' U hW => word_at hW (jm_W_good w hw) (hts w hw)
  have hcell : h.1 - n0 + (h1.1 - h.1) ≤ (jm_rm Z r h').cells ∧ h.2.1 - s0 + (h1.2.1 - h.2.1) ≤ (jm_rm Z r h').slots := ⟨by show _ ≤ (Z.2.2 r h').1; omega, by show _ ≤ (Z.2.2 r h').2.1; omega⟩
  have hpre : ∀ U : State, U.heap = H → s.WarmedH U.vm → jm_P G As h As.toArray U := fun U hU hW1 => ⟨rfl, by rw [hU]; exact hR, jm_K.moved hW1.alike hK, jm_N.warm hW1 hU hS hN⟩
  have hlen : ∀ sig, parseMethodDescriptor M2.1.desc = some sig → As.length = sig.parameters.length := fun sig hs => by
    have := hc3.2.2
    rw [hs] at this
    rw [hn]
    exact (Option.some.inj this).symm
  have hBk : Back l (jm_rm Z r h') p e below s args M2.1 3 8 (PreOf (jm_rm Z r h') (h1.1 - h.1) (h1.2.1 - h.2.1) (jm_P G As h)) (PostOf (jm_Q G v0 h1) (h1.1 - h.1) (h1.2.1 - h.2.1) (jm_A G)) :=
    va_backW (hh := hh) (bytes := M2.2.1) (maxL := M2.2.2.1) (ret := M2.2.2.2.1) hM jm_blind rfl rfl hf (by show 8 + (M2.2.2.1 + 11) + jm_lo d ≤ Z.2.1; omega) (fun w hw a' U hW => by
      rcases List.mem_cons.mp hw with rfl | hw
      · exact hgood _ hc1 a' U hW
      · exact hgood w hw a' U hW) List.mem_cons_self (fun a' U hW => hgood _ hc2 a' U hW)
  have hrun : va_Run p l e (jm_rm Z r h') s m args below meth c9 H locs (h.1 - n0) (h.2.1 - s0) (h1.1 - h.1) (h1.2.1 - h.2.1) (F0 m pc ls (As.reverse ++ rest)) rest (jm_Q G v0 h1 As.toArray) (jm_A G) := by
    intro T hT X
    obtain ⟨mk, methM, cM, hnamed, hmethM, -, -, -, -, -, -, hsigM⟩ := Cond.codeWith_spec (hts _ hc1)
    have hstatic : methM.isStatic = true := Cond.static_spec hnamed hmethM (hts _ hw2)
    obtain ⟨kP, hkP, -⟩ := className_of_methodNamed hnamed
    have hinitP : kP.init = .initialized := Cond.initialized_spec (findClass_of_methodNamed hnamed) hkP (hts _ hc2)
    obtain ⟨vm₁, X₁, hstep₁⟩ := X.invokestatic hx hown (hts _ hw1) hnamed hmethM hstatic hkP hinitP ⟨hc3.1, hc3.2.1⟩ (g := F0 m pc ls (As.reverse ++ rest)) rfl (argsL := As) (rest := rest) (hlen _ hsigM) rfl (by rw [hb]; exact hd)
    obtain ⟨v, B, X', ⟨g', mk', t, L, e1, e2, hq, q1, q2, q3, q4⟩, hsteps⟩ := hBk m meth c9 ⟨T.setVm vm₁, locs, h.1 - n0, h.2.1 - s0⟩ (F0 m pc ls rest) (.invokestatic idx) mk As.toArray X₁ rfl (by rw [hml]; exact hv.1) (by rw [hb]; exact hd) (by show 2 * 0 + (rest.map fun v => v.category).sum ≤ 8; omega) (X₁.named hnamed) ⟨hcell.1, hcell.2, hpre (T.setVm vm₁) hT X₁.warmed⟩
    obtain ⟨U', l2, cc2, s2⟩ := B
    dsimp only [Pt.U, Pt.locs, Pt.cells, Pt.slots] at X' e1 e2 q1 q3 q4 hsteps
    subst q1; subst q3; subst q4
    exact ⟨v, (T.setVm vm₁).calling g' mk' As.toArray, t, U', L, hT, X', q2, e1, e2, hq, fun target h => hstep₁ _ fun acts => by rw [doInvoke_state]; exact hsteps.trans h⟩
  refine jm_back hrun hS fun H1 locs1 hR1 hS1 => ?_
  refine W.cs (cells' := h1.1 - n0) (slots' := h1.2.1 - s0) (by omega) (by omega) ?_
  exact W9 H1 locs1 hR1 hS1 hv
