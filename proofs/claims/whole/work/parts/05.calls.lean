
section JC
variable {l : Launch} {G : jm_G} {M : jm_M} {n0 s0 : Nat} {Z : jm_Z} {Post : jm_r → jm_H → Prop} {pc : Nat} {lv : List (Nat × Value)} {st : List Value} {h : jm_H}
def jm_lo (d : Nat) : Nat := 64 * d
def jm_P (G : jm_G) (args : List Value) (h : jm_H) : Array Value → State → Prop := fun a U => a = args.toArray ∧ jm_R G h U.heap ∧ jm_K G U ∧ jm_N G U U.heap
def jm_Q (G : jm_G) (v : Option Value) (h : jm_H) : Array Value → State → Outcome → State → Prop := fun _ st o t => o = .returned v ∧ jm_R G h t.heap ∧ va_F (jm_A G) st t
/-- a method that throws an exception of class E, and leaves the heap h -/
def jm_XQ (G : jm_G) (E : String) (h : jm_H) (mc ms : Nat) : Array Value → State → Outcome → State → Prop := fun _ st o t => ∃ (q : Addr) (ce : Cell) (L : List Loc), o = .threw q ∧ q + 1 = h.1 ∧ t.heap[q]? = some ce ∧ ce.vm = .none ∧ st.vm.findClass E = some ce.cls ∧ st.WarmedH t.vm ∧ st.sameButNew ({ t with vm := st.vm } : State) L mc ms ∧ (∀ z ∈ L, jm_A G z.base) ∧ jm_R G h t.heap ∧ va_F (jm_A G) st t
def jm_MX (G : jm_G) (E : String) (h : jm_H) (below : List Frame) (args : Array Value) (s : State) (mc ms : Nat) : State → Prop := fun t => ∃ o, t.status = .running ∧ Ended t below o ∧ jm_XQ G E h mc ms args s o t
def jm_en (G : jm_G) (n0 s0 : Nat) (r : jm_r) (h : jm_H) : jm_E := fun below args s => match r with
  | .inl v => MQ below (jm_Q G v h) args s (h.1 - n0) (h.2.1 - s0) (jm_A G)
  | .inr E => jm_MX G E h below args s (h.1 - n0) (h.2.1 - s0)
def jm_zn (G : jm_G) (d n0 s0 : Nat) : jm_Z := (d, jm_lo d, fun r h => (h.1 - n0, h.2.1 - s0, jm_en G n0 s0 r h))
def jm_ws (M : jm_M) : List Cond := Cond.code M.1 M.2.1 M.2.2.1 M.2.2.2.1 :: jm_W
def jm_rmN (d c s : Nat) : Room := { frames := d, cells := c, slots := s, locals := jm_lo d }
/-- the method's contract at these arguments and this heap: it answers v, and the heap is h' -/
def jm_C (l : Launch) (G : jm_G) (M : jm_M) (d : Nat) (args : List Value) (h : jm_H) (v : Option Value) (h' : jm_H) : Prop :=
  h.1 ≤ h'.1 ∧ h.2.1 ≤ h'.2.1 ∧ Met l M.1 (jm_ws M) (jm_rmN d (h'.1 - h.1) (h'.2.1 - h.2.1)) (jm_P G args h) (jm_Q G v h') (h'.1 - h.1) (h'.2.1 - h.2.1) (jm_A G)
def jm_CP (l : Launch) (G : jm_G) (M : jm_M) (d : Nat) (args : List Value) (h : jm_H) (Q : Option Value → jm_H → Prop) : Prop := ∃ (v : Option Value) (h' : jm_H), jm_C l G M d args h v h' ∧ Q v h'
theorem jm_F0 {s t : State} {H : Heap} {locs : List Loc} (hS : va_S (jm_A G) s.heap H locs) (ht : t.heap = H) : va_F (jm_A G) s t := hS.F ht
theorem jx_iret {d : Nat} {v0 : Int32} (hd : decode M.2.1 pc = .ok (.ireturn, 1)) (hr0 : M.2.2.2.1 = some .int) (hp : Post (.inl (some (.int v0))) h) : jm_X l G M n0 s0 (jm_zn G d n0 s0) Post pc lv [.int v0] h := by
  refine ⟨.inl (some (.int v0)), h, Nat.le_refl _, Nat.le_refl _, Nat.le_refl _, Nat.le_refl _, hp, fun p e s m args below meth c1 H locs ls C n1 n2 n3 hR hS hv => ?_⟩
  obtain ⟨hx, hb, hml, hr, hlk, hnm, hown, htb, hts, hK, hN⟩ := C
  exact W.iret hx hb (hr.trans hr0) (fun t ht hW => ⟨rfl, by rw [ht]; exact hR, jm_F0 hS ht⟩) hS.2.2 hd hlk
theorem jx_zret {d : Nat} {v0 : Int32} {ty : FieldType} (hd : decode M.2.1 pc = .ok (.ireturn, 1)) (hr0 : M.2.2.2.1 = some ty) (hn : narrow ty (.int v0) = .int v0) (hp : Post (.inl (some (.int v0))) h) : jm_X l G M n0 s0 (jm_zn G d n0 s0) Post pc lv [.int v0] h := by
  refine ⟨.inl (some (.int v0)), h, Nat.le_refl _, Nat.le_refl _, Nat.le_refl _, Nat.le_refl _, hp, fun p e s m args below meth c1 H locs ls C n1 n2 n3 hR hS hv => ?_⟩
  obtain ⟨hx, hb, hml, hr, hlk, hnm, hown, htb, hts, hK, hN⟩ := C
  exact W.zret hx hb (hr.trans hr0) hn (fun t ht hW => ⟨rfl, by rw [ht]; exact hR, jm_F0 hS ht⟩) hS.2.2 hd hlk
theorem jx_lret {d : Nat} {v0 : Int64} (hd : decode M.2.1 pc = .ok (.lreturn, 1)) (hr0 : M.2.2.2.1 = some .long) (hp : Post (.inl (some (.long v0))) h) : jm_X l G M n0 s0 (jm_zn G d n0 s0) Post pc lv [.long v0] h := by
  refine ⟨.inl (some (.long v0)), h, Nat.le_refl _, Nat.le_refl _, Nat.le_refl _, Nat.le_refl _, hp, fun p e s m args below meth c1 H locs ls C n1 n2 n3 hR hS hv => ?_⟩
  obtain ⟨hx, hb, hml, hr, hlk, hnm, hown, htb, hts, hK, hN⟩ := C
  exact W.lret hx hb (hr.trans hr0) (fun t ht hW => ⟨rfl, by rw [ht]; exact hR, jm_F0 hS ht⟩) hS.2.2 hd hlk
theorem jx_aret {d : Nat} {v0 : Value} {rt : FieldType} (hd : decode M.2.1 pc = .ok (.areturn, 1)) (hr0 : M.2.2.2.1 = some rt) (hrt : (∃ n, rt = .object n) ∨ ∃ t, rt = .array t) (hv0 : v0 = .null ∨ ∃ a, v0 = .ref a) (hp : Post (.inl (some v0)) h) : jm_X l G M n0 s0 (jm_zn G d n0 s0) Post pc lv [v0] h := by
  refine ⟨.inl (some v0), h, Nat.le_refl _, Nat.le_refl _, Nat.le_refl _, Nat.le_refl _, hp, fun p e s m args below meth c1 H locs ls C n1 n2 n3 hR hS hv => ?_⟩
  obtain ⟨hx, hb, hml, hr, hlk, hnm, hown, htb, hts, hK, hN⟩ := C
  exact W.aret hx hb (hr.trans hr0) hrt hv0 (fun t ht hW => ⟨rfl, by rw [ht]; exact hR, jm_F0 hS ht⟩) hS.2.2 hd hlk
theorem jx_vret {d : Nat} (hd : decode M.2.1 pc = .ok (.return_, 1)) (hr0 : M.2.2.2.1 = none) (hp : Post (.inl none) h) : jm_X l G M n0 s0 (jm_zn G d n0 s0) Post pc lv [] h := by
  refine ⟨.inl none, h, Nat.le_refl _, Nat.le_refl _, Nat.le_refl _, Nat.le_refl _, hp, fun p e s m args below meth c1 H locs ls C n1 n2 n3 hR hS hv => ?_⟩
  obtain ⟨hx, hb, hml, hr, hlk, hnm, hown, htb, hts, hK, hN⟩ := C
  exact W.vret hx hb (hr.trans hr0) (fun t ht hW => ⟨rfl, by rw [ht]; exact hR, jm_F0 hS ht⟩) hS.2.2 hd hlk
/-- a method without a table of exceptions that returns: its contract out of its body's walk -/
theorem jm_of {d : Nat} {args : List Value} {Q : Option Value → jm_H → Prop} (hy : plainName M.1.cls = true) (htb0 : M.2.2.2.2 = []) (hlen : (lg_sl args).length ≤ M.2.2.1)
    (k : jm_X l G M h.1 h.2.1 (jm_zn G d h.1 h.2.1) (fun r h' => ∃ v, r = .inl v ∧ Q v h') 0 (lv_args 0 args) [] h) : jm_CP l G M d args h Q := by
  obtain ⟨r, h', a1, a2, a3, a4, ⟨v, rfl, hq⟩, kv⟩ := k
  refine ⟨v, h', ⟨a1, a2, ?_⟩, hq⟩
  refine Met.ofW (cc := M.2.1) (maxL := M.2.2.1) (ret := M.2.2.2.1) hy rfl ?_
  intro p e s m args' below meth c s₁ B hml hv
  obtain ⟨rfl, hR, hK, hN⟩ := hv
  have hts := atoms_spec (ws := jm_ws M) B.pre
  have hl := lv_entry args (n := M.2.2.1) hlen
  rw [lg_entry_eq]
  generalize (lg_sl args ++ List.replicate (M.2.2.1 - (lg_sl args).length) Slot.unset).toArray = ls at hl ⊢
  have htab : c.exceptionTable.toList = M.2.2.2.2 := by
    rw [htb0]
    have := BodyLoose.noHandlers B (hts _ List.mem_cons_self)
    simpa using this
  have C : jm_Cx G M p s m args.toArray meth c := ⟨B.exec, B.bytes, hml, B.returns, B.notSynchronized, (name_of_methodNamed B.named B.method).1, findClass_of_methodNamed B.named, htab, fun w hw => hts w (List.mem_cons_of_mem _ hw), hK, hN⟩
  have e1 : h.1 = s.heap.size := hR.1
  have W9 := kv p e s m args.toArray below meth c s.heap [] ls C e1 (Nat.le_refl _) (Nat.le_refl _) hR va_S.rf hl
  rw [Nat.sub_self, Nat.sub_self] at W9
  exact W9
/-- what a call leaves, to the frame that goes on -/
theorem jm_back {p : Program} {e : Env} {R : Room} {s : State} {m : MethodId} {args a : Array Value} {below : List Frame} {meth : Method} {c : Code} {H : Heap} {locs : List Loc} {cells slots mc ms : Nat} {Q : State → Prop} {ls : Array Slot} {st0 rest : List Value} {v : Option Value} {h1 : jm_H}
    (hr : va_Run p l e R s m args below meth c H locs cells slots mc ms (F0 m pc ls st0) rest (jm_Q G v h1 a) (jm_A G)) (hS : va_S (jm_A G) s.heap H locs)
    (kk : ∀ (H1 : Heap) (locs1 : List Loc), jm_R G h1 H1 → va_S (jm_A G) s.heap H1 locs1 → W p l e R s m args below meth c H1 locs1 (cells + mc) (slots + ms) Q (F0 m (pc + 3) ls (v.toList ++ rest))) : W p l e R s m args below meth c H locs cells slots Q (F0 m pc ls st0) := by
  intro T hT X
  obtain ⟨v', st₀, t, T', L, h0, X', hL, e1, e2, ⟨hv, hR, hz, hk⟩, st⟩ := hr T hT X
  cases hv
  rw [h0] at hz hk
  obtain ⟨t2, a1, b1⟩ := kk T'.heap (locs ++ L) (by rw [e1]; exact hR)
    ⟨Nat.le_trans hS.1 (by rw [e1]; exact hz), fun q h1 h2 => by rw [e1, hk q (Nat.lt_of_lt_of_le h1 hS.1) h2]; exact hS.2.1 q h1 h2, fun q hq => by
      rcases List.mem_append.mp hq with h | h
      · exact hS.2.2 q h
      · exact hL q h⟩ T' rfl X'
  exact ⟨t2, st t2 a1, b1⟩
theorem jm_blind {args : List Value} : FrameBlind (jm_P G args h) := fun a U g mk q => ⟨q.1, q.2.1, jm_K.moved (u := U) (U := U.calling g mk a) (Vm.Alike.refl U.vm) q.2.2.1, jm_N.calling q.2.2.2⟩
theorem jm_good {M2 : jm_M} (x : Cond) (L : List Cond) (hw : Cond.code M2.1 M2.2.1 M2.2.2.1 M2.2.2.2.1 ∈ jm_W) (hL : ∀ w ∈ L, w ∈ jm_W) : GoodIn (x :: jm_W) (L ++ jm_ws M2) := fun w h => by
  have hw9 : w ∈ jm_W := by
    rcases List.mem_append.mp h with h | h
    · exact hL w h
    · rcases List.mem_cons.mp h with h | h
      · rw [h]; exact hw
      · exact h
  exact ⟨List.mem_cons_of_mem _ hw9, jm_W_good w hw9⟩
/-- the words of a call: of the callee's code, of its class -/
def jm_cd (M2 : jm_M) (n : Nat) : Prop := Cond.code M2.1 M2.2.1 M2.2.2.1 M2.2.2.2.1 ∈ jm_W ∧ Cond.initialized M2.1.cls ∈ jm_W ∧ (M2.1.cls ≠ "java/lang/invoke/MethodHandle" ∧ M2.1.cls ≠ "java/lang/invoke/VarHandle" ∧ (parseMethodDescriptor M2.1.desc).map (fun d => d.parameters.length) = some n)
theorem jm_room {d : Nat} {M2 : jm_M} {R : Room} {a b : Nat} (h1 : d + 1 ≤ R.frames) (h2 : 19 + M2.2.2.1 + jm_lo d ≤ R.locals) : (jm_rmN d a b).frames + 1 ≤ R.frames ∧ 8 + (M2.2.2.1 + 11) + (jm_rmN d a b).locals ≤ R.locals := ⟨h1, by show 8 + (M2.2.2.1 + 11) + jm_lo d ≤ _; omega⟩

theorem jx_callV {M2 : jm_M} {d n idx : Nat} {b : Nat} {As rest : List Value} {v0 : Option Value} {h1 : jm_H} {c nn : Nat} {T : u_T} {N : Nat} (hcl : jm_cl[c]? = some (M2.1.cls, T, N)) (hk : h.2.2.1 b = (jm_o c, nn)) (hw1 : Cond.methodLink M.1.cls idx M2.1 ∈ jm_W) (hw2 : Cond.instanceMethod M2.1 ∈ jm_W) (hw3 : Cond.selects M2.1.cls M2.1 M2.1 ∈ jm_W) (hd : decode M.2.1 pc = .ok (.invokevirtual idx, 3)) (hC : jm_C l G M2 d (.ref b :: As) h v0 h1) (hcd : jm_cd M2 n) (hn : As.length = n) (hst : st = As.reverse ++ .ref b :: rest) (hW : (rest.map fun v => v.category).sum ≤ 8)
    (hf : d + 1 ≤ Z.1) (hlo : 19 + M2.2.2.1 + jm_lo d ≤ Z.2.1) (kk : jm_X l G M n0 s0 Z Post (pc + 3) lv (v0.toList ++ rest) h1) : jm_X l G M n0 s0 Z Post pc lv st h := by
  subst hst
  obtain ⟨r, h', a1, a2, a3, a4, a5, v⟩ := kk
  obtain ⟨c1, c2, hM⟩ := hC
  obtain ⟨w1, w2, w3⟩ := hcd
  refine ⟨r, h', Nat.le_trans c1 a1, Nat.le_trans c2 a2, a3, a4, a5, fun p e s m args below meth c9 H locs ls C n1 n2 n3 hR hS hv => ?_⟩
  have W9 := fun H1 locs1 => v p e s m args below meth c9 H1 locs1 ls C n1 (Nat.le_trans n2 c1) (Nat.le_trans n3 c2)
  obtain ⟨hx, hb, hml, hr, hlk, hnm, hown, htb, hts, hK, hN⟩ := C
  have hts1 : ∀ w ∈ Cond.tt :: jm_W, w.before args s = true := fun w hw => (List.mem_cons.mp hw).elim (fun e => by rw [e]; rfl) (hts w)
  have hcell : h.1 - n0 + (h1.1 - h.1) ≤ (jm_rm Z r h').cells ∧ h.2.1 - s0 + (h1.2.1 - h.2.1) ≤ (jm_rm Z r h').slots := ⟨by show _ ≤ (Z.2.2 r h').1; omega, by show _ ≤ (Z.2.2 r h').2.1; omega⟩
  have hpre : ∀ U : State, U.heap = H → s.WarmedH U.vm → jm_P G (.ref b :: As) h (.ref b :: As).toArray U := fun U hU hW1 => ⟨rfl, by rw [hU]; exact hR, jm_K.moved hW1.alike hK, jm_N.warm hW1 hU hS hN⟩
  have cw := cwV (own := M.1.cls) (index := idx) (C := M2.1.cls) (y := M2.1) (R := jm_rm Z r h') (rm := jm_rmN d (h1.1 - h.1) (h1.2.1 - h.2.1)) n hts1 (jm_good Cond.tt [.methodLink M.1.cls idx M2.1, .instanceMethod M2.1, .selects M2.1.cls M2.1 M2.1, .initialized M2.1.cls] w1 (by simp [hw1, hw2, hw3, w2])) rfl rfl rfl ⟨rfl, w3⟩ (jm_room hf hlo)
  have hrecv : ∃ cellB : Cell, H[b]? = some cellB ∧ cellB.vm.isStatics = false ∧ s.vm.findClass M2.1.cls = some cellB.cls := by
    obtain ⟨g1, r0, g2, cell, q1, q2, q3, -⟩ := hR.2.2.1 b c nn hk
    exact ⟨cell, q1, by rw [q3]; rfl, by rw [q2]; exact (hK.1 c _ hcl).2.1⟩
  refine jm_back (va_runV (g := F0 m pc ls _) (As := As) (rest := rest) ⟨hx, hb, hml, hown, hts1⟩ hM cw ⟨jm_blind, hrecv, hpre⟩ rfl hn hv.1 rfl (by show 2 * 0 + _ ≤ 8; omega) hd hcell) hS fun H1 locs1 hR1 hS1 => ?_
  refine W.cs (cells' := h1.1 - n0) (slots' := h1.2.1 - s0) (by omega) (by omega) ?_
  exact W9 H1 locs1 hR1 hS1 hv
theorem jx_callS {M2 : jm_M} {d n idx : Nat} {As rest : List Value} {v0 : Option Value} {h1 : jm_H} (hw1 : Cond.methodLink M.1.cls idx M2.1 ∈ jm_W) (hw2 : Cond.static M2.1 ∈ jm_W) (hd : decode M.2.1 pc = .ok (.invokestatic idx, 3)) (hC : jm_C l G M2 d As h v0 h1) (hcd : jm_cd M2 n) (hn : As.length = n) (hst : st = As.reverse ++ rest) (hW : (rest.map fun v => v.category).sum ≤ 8)
    (hf : d + 1 ≤ Z.1) (hlo : 19 + M2.2.2.1 + jm_lo d ≤ Z.2.1) (kk : jm_X l G M n0 s0 Z Post (pc + 3) lv (v0.toList ++ rest) h1) : jm_X l G M n0 s0 Z Post pc lv st h := by
  subst hst
  obtain ⟨r, h', a1, a2, a3, a4, a5, v⟩ := kk
  obtain ⟨c1, c2, hM⟩ := hC
  obtain ⟨w1, w2, w3⟩ := hcd
  refine ⟨r, h', Nat.le_trans c1 a1, Nat.le_trans c2 a2, a3, a4, a5, fun p e s m args below meth c9 H locs ls C n1 n2 n3 hR hS hv => ?_⟩
  have W9 := fun H1 locs1 => v p e s m args below meth c9 H1 locs1 ls C n1 (Nat.le_trans n2 c1) (Nat.le_trans n3 c2)
  obtain ⟨hx, hb, hml, hr, hlk, hnm, hown, htb, hts, hK, hN⟩ := C
  have hts1 : ∀ w ∈ Cond.tt :: jm_W, w.before args s = true := fun w hw => (List.mem_cons.mp hw).elim (fun e => by rw [e]; rfl) (hts w)
  have hcell : h.1 - n0 + (h1.1 - h.1) ≤ (jm_rm Z r h').cells ∧ h.2.1 - s0 + (h1.2.1 - h.2.1) ≤ (jm_rm Z r h').slots := ⟨by show _ ≤ (Z.2.2 r h').1; omega, by show _ ≤ (Z.2.2 r h').2.1; omega⟩
  have hpre : ∀ U : State, U.heap = H → s.WarmedH U.vm → jm_P G As h As.toArray U := fun U hU hW1 => ⟨rfl, by rw [hU]; exact hR, jm_K.moved hW1.alike hK, jm_N.warm hW1 hU hS hN⟩
  have cw := va_cwS (own := M.1.cls) (index := idx) (y := M2.1) (R := jm_rm Z r h') (rm := jm_rmN d (h1.1 - h.1) (h1.2.1 - h.2.1)) n hts1 (jm_good Cond.tt [.methodLink M.1.cls idx M2.1, .static M2.1, .initialized M2.1.cls] w1 (by simp [hw1, hw2, w2])) rfl rfl rfl w3 (jm_room hf hlo)
  refine jm_back (va_runS (g := F0 m pc ls _) (As := As) (rest := rest) ⟨hx, hb, hml, hown, hts1⟩ hM cw ⟨jm_blind, hpre⟩ rfl hn hv.1 rfl (by show 2 * 0 + _ ≤ 8; omega) hd hcell) hS fun H1 locs1 hR1 hS1 => ?_
  refine W.cs (cells' := h1.1 - n0) (slots' := h1.2.1 - s0) (by omega) (by omega) ?_
  exact W9 H1 locs1 hR1 hS1 hv
theorem jx_callI {M2 : jm_M} {d n idx : Nat} {b : Nat} {As rest : List Value} {v0 : Option Value} {h1 : jm_H} (hrt : M2.2.2.2.1 = none) (hi0 : M2.1.name = "<init>") (hw1 : Cond.methodLink M.1.cls idx M2.1 ∈ jm_W) (hw2 : Cond.instanceMethod M2.1 ∈ jm_W) (hd : decode M.2.1 pc = .ok (.invokespecial idx, 3)) (hC : jm_C l G M2 d (.ref b :: As) h v0 h1) (hcd : jm_cd M2 n) (hn : As.length = n) (hst : st = As.reverse ++ .ref b :: rest) (hW : (rest.map fun v => v.category).sum ≤ 8)
    (hf : d + 1 ≤ Z.1) (hlo : 19 + M2.2.2.1 + jm_lo d ≤ Z.2.1) (kk : jm_X l G M n0 s0 Z Post (pc + 3) lv (v0.toList ++ rest) h1) : jm_X l G M n0 s0 Z Post pc lv st h := by
  subst hst
  obtain ⟨r, h', a1, a2, a3, a4, a5, v⟩ := kk
  obtain ⟨c1, c2, hM⟩ := hC
  obtain ⟨w1, w2, w3⟩ := hcd
  refine ⟨r, h', Nat.le_trans c1 a1, Nat.le_trans c2 a2, a3, a4, a5, fun p e s m args below meth c9 H locs ls C n1 n2 n3 hR hS hv => ?_⟩
  have W9 := fun H1 locs1 => v p e s m args below meth c9 H1 locs1 ls C n1 (Nat.le_trans n2 c1) (Nat.le_trans n3 c2)
  obtain ⟨hx, hb, hml, hr, hlk, hnm, hown, htb, hts, hK, hN⟩ := C
  have hts1 : ∀ w ∈ Cond.tt :: jm_W, w.before args s = true := fun w hw => (List.mem_cons.mp hw).elim (fun e => by rw [e]; rfl) (hts w)
  have hcell : h.1 - n0 + (h1.1 - h.1) ≤ (jm_rm Z r h').cells ∧ h.2.1 - s0 + (h1.2.1 - h.2.1) ≤ (jm_rm Z r h').slots := ⟨by show _ ≤ (Z.2.2 r h').1; omega, by show _ ≤ (Z.2.2 r h').2.1; omega⟩
  have hpre : ∀ U : State, U.heap = H → s.WarmedH U.vm → jm_P G (.ref b :: As) h (.ref b :: As).toArray U := fun U hU hW1 => ⟨rfl, by rw [hU]; exact hR, jm_K.moved hW1.alike hK, jm_N.warm hW1 hU hS hN⟩
  have cw := cwI (own := M.1.cls) (index := idx) (y := M2.1) (R := jm_rm Z r h') (rm := jm_rmN d (h1.1 - h.1) (h1.2.1 - h.2.1)) n hts1 (jm_good Cond.tt [] w1 (by simp)) (by show _ = Cond.code _ _ _ none :: jm_W; unfold jm_ws; rw [hrt]; rfl) rfl rfl (hts _ w2) (hts _ hw1) (hts _ hw2) hi0 w3 (jm_room hf hlo)
  refine jm_back (va_runI (g := F0 m pc ls _) (As := As) (rest := rest) ⟨hx, hb, hml, hown, hts1⟩ hM cw ⟨jm_blind, hpre⟩ rfl hn hv.1 rfl (by show 2 * 0 + _ ≤ 8; omega) hd hcell) hS fun H1 locs1 hR1 hS1 => ?_
  refine W.cs (cells' := h1.1 - n0) (slots' := h1.2.1 - s0) (by omega) (by omega) ?_
  exact W9 H1 locs1 hR1 hS1 hv
theorem jx_callIN {M2 : jm_M} {d n idx : Nat} {b : Nat} {As rest : List Value} {v0 : Option Value} {h1 : jm_H} (hrt : M2.2.2.2.1 = none) (hi0 : M2.1.name = "<init>") (hw1 : (M.1.cls, idx, M2.1) ∈ jm_NW) (hw2 : Cond.instanceMethod M2.1 ∈ jm_W) (hd : decode M.2.1 pc = .ok (.invokespecial idx, 3)) (hC : jm_C l G M2 d (.ref b :: As) h v0 h1) (hcd : jm_cd M2 n) (hn : As.length = n) (hst : st = As.reverse ++ .ref b :: rest) (hW : (rest.map fun v => v.category).sum ≤ 8)
    (hf : d + 1 ≤ Z.1) (hlo : 19 + M2.2.2.1 + jm_lo d ≤ Z.2.1) (kk : jm_X l G M n0 s0 Z Post (pc + 3) lv (v0.toList ++ rest) h1) : jm_X l G M n0 s0 Z Post pc lv st h := by
  subst hst
  obtain ⟨r, h', a1, a2, a3, a4, a5, v⟩ := kk
  obtain ⟨c1, c2, hM⟩ := hC
  obtain ⟨w1, w2, w3⟩ := hcd
  refine ⟨r, h', Nat.le_trans c1 a1, Nat.le_trans c2 a2, a3, a4, a5, fun p e s m args below meth c9 H locs ls C n1 n2 n3 hR hS hv => ?_⟩
  have W9 := fun H1 locs1 => v p e s m args below meth c9 H1 locs1 ls C n1 (Nat.le_trans n2 c1) (Nat.le_trans n3 c2)
  obtain ⟨hx, hb, hml, hr, hlk, hnm, hown, htb, hts, hK, hN⟩ := C
  have hts1 : ∀ w ∈ Cond.tt :: jm_W, w.before args s = true := fun w hw => (List.mem_cons.mp hw).elim (fun e => by rw [e]; rfl) (hts w)
  have hcell : h.1 - n0 + (h1.1 - h.1) ≤ (jm_rm Z r h').cells ∧ h.2.1 - s0 + (h1.2.1 - h.2.1) ≤ (jm_rm Z r h').slots := ⟨by show _ ≤ (Z.2.2 r h').1; omega, by show _ ≤ (Z.2.2 r h').2.1; omega⟩
  have hpre : ∀ U : State, U.heap = H → s.WarmedH U.vm → jm_P G (.ref b :: As) h (.ref b :: As).toArray U := fun U hU hW1 => ⟨rfl, by rw [hU]; exact hR, jm_K.moved hW1.alike hK, jm_N.warm hW1 hU hS hN⟩
  have cw := va_cnB (own := M.1.cls) (host := "CellWorks") (index := idx) (y := M2.1) (R := jm_rm Z r h') (rm := jm_rmN d (h1.1 - h.1) (h1.2.1 - h.2.1)) n hts1 (jm_good Cond.tt [] w1 (by simp)) (by show _ = Cond.code _ _ _ none :: jm_W; unfold jm_ws; rw [hrt]; rfl) rfl rfl (jm_N.nest hN hw1) (hts _ w2) w3 (jm_room hf hlo)
  have cw := And.intro cw (And.intro hi0 (hts _ hw2))
  refine jm_back (va_runIN (g := F0 m pc ls _) (As := As) (rest := rest) ⟨hx, hb, hml, hown, hts1⟩ hM cw ⟨jm_blind, hpre⟩ rfl hn hv.1 rfl (by show 2 * 0 + _ ≤ 8; omega) hd hcell) hS fun H1 locs1 hR1 hS1 => ?_
  refine W.cs (cells' := h1.1 - n0) (slots' := h1.2.1 - s0) (by omega) (by omega) ?_
  exact W9 H1 locs1 hR1 hS1 hv
end JC
