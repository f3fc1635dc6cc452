/-! THE CLAIM OUT OF ONE WALK OF THE LAW'S BODY -/
def R_law : String := "CellWorksLaw"
def lw_P (b : Addr) (xs : List Int32) (args : Array Value) (s : State) : Prop := args = #[.ref b] ∧ s.IntsAt b xs ∧ xs.length ≤ 3072 ∧ (Jvm.Cond.and given_1 narrow_1).before args s = true
def lw_Q (_ : Array Value) (s : State) (o : Outcome) (t : State) : Prop := o = .returned (some (.int 1)) ∧ Framed s o t [] 601024 7293034
def lw_Z (below : List Frame) (a : Array Value) (s : State) : State → Prop := fun t => ∃ o, t.status = .running ∧ Ended t below o ∧ lw_Q a s o t
/-- what holds at the law's entry -/
def lw_At (p : Program) (s : State) (m : MethodId) (meth : Method) (c : Code) (b L : Nat) (xs : Nat → Int32) : Prop :=
  p.tables.exec = Jvm.exec ∧ c.code = code ∧ meth.sig.returnType = ret ∧ c.maxLocals = 8 ∧ s.vm.findClass R_law = some m.cls ∧ (∀ w ∈ lw_tbl, w.before #[Value.ref b] s = true) ∧ va_X b L xs s s.heap ∧ b < s.heap.size ∧ meth.locks = false ∧ (Jvm.Cond.and given_1 narrow_1).before #[Value.ref b] s = true ∧ meth.name = "law" ∧ c.exceptionTable.toList = []
theorem lw_room {s : State} {pl : Platform} {r r' : Room} (hf : r.frames ≤ r'.frames) (hl : r.locals ≤ r'.locals) (hc : r.cells ≤ r'.cells) (hs : r.slots ≤ r'.slots) (h : s.hasRoom pl r' = true) : s.hasRoom pl r = true := by
  simp only [State.hasRoom, Bool.and_eq_true, decide_eq_true_eq] at h ⊢
  obtain ⟨⟨⟨⟨h1, h2, h3, h4, h5, h6⟩, h7⟩, h8⟩, h9⟩ := h
  exact ⟨⟨⟨⟨by omega, by omega, by omega, by omega, by omega, h6⟩, by omega⟩, by omega⟩, h9⟩
theorem lw_fresh {s s' : State} {L : List Loc} {k n k' n' : Nat} (h : s.sameButNew s' L k n) (hL : ∀ q ∈ L, s.heap.size ≤ q.base) (hk : k ≤ k') (hn : n ≤ n') : s.sameButNew s' [] k' n' := by
  obtain ⟨h1, h2, h3, h4, h5, h6⟩ := h
  refine ⟨h1, h2, by omega, h4, by omega, fun a c hc => ?_⟩
  obtain ⟨c', e1, e2, e3, e4⟩ := h6 a c hc
  refine ⟨c', e1, e2, e3, fun i _ => e4 i fun hm => ?_⟩
  have q1 := hL _ hm
  have q2 := (Array.getElem?_eq_some_iff.mp hc).1
  exact absurd q2 (Nat.not_lt.mpr q1)
/-- the classes' numbers -/
theorem lw_K {s : State} {A : Array Value} (hts : ∀ w ∈ lw_tbl, w.before A s = true) (scls : ClassId) (base : Nat) : ∃ G : jm_G, G.2.2 = base ∧ G.2.1 5 = scls ∧ jm_K G s := by
  have hW : ∀ w ∈ jm_W, w.before A s = true := fun w h => hts w (jm_W_tbl w h)
  obtain ⟨c0, i0, k0⟩ := u_known (C := "CellWorks") (T := jT_CW) (N := 3) (n := 3) hW jl_CW (hW _ wk_CW)
  obtain ⟨c1, i1, k1⟩ := u_known (C := "CellWorks$Reader") (T := jT_Rd) (N := 7) (n := 7) hW jl_Rd (hW _ wk_Rd)
  obtain ⟨c2, i2, k2⟩ := u_known (C := "CellWorks$Tape") (T := jT_Tp) (N := 7) (n := 7) hW jl_Tp (hW _ wk_Tp)
  obtain ⟨c3, i3, k3⟩ := u_known (C := "CellWorks$Formula") (T := jT_Fm) (N := 7) (n := 7) hW jl_Fm (hW _ wk_Fm)
  obtain ⟨c4, i4, k4⟩ := u_known (C := "CellWorks$Cells") (T := jT_Cs) (N := 3) (n := 3) hW jl_Cs (hW _ wk_Cs)
  obtain ⟨c5, i5, k5⟩ := u_known (C := "CellWorks$Cell") (T := jT_Cl) (N := 5) (n := 5) hW jl_Cl (hW _ wk_Cl)
  obtain ⟨c6, i6, k6⟩ := u_known (C := "CellWorks$Builder") (T := jT_Bd) (N := 4) (n := 4) hW jl_Bd (hW _ wk_Bd)
  obtain ⟨c7, i7, k7⟩ := u_known (C := "CellWorks$Work") (T := jT_Wk) (N := 4) (n := 4) hW jl_Wk (hW _ wk_Wk)
  obtain ⟨c8, i8, k8⟩ := u_known (C := "CellWorksModel") (T := jT_Md) (N := 45) (n := 45) hW jl_Md (hW _ wk_Md)
  obtain ⟨a0, A0, p0, f0, g0, q0⟩ := Cond.arrayClass_spec (hW _ wa_byte)
  obtain ⟨a1, A1, p1, f1, g1, q1⟩ := Cond.arrayClass_spec (hW _ wa_int)
  obtain ⟨a2, A2, p2, f2, g2, q2⟩ := Cond.arrayClass_spec (hW _ wa_long)
  obtain ⟨a3, A3, p3, f3, g3, q3⟩ := Cond.arrayClass_spec (hW _ wa_boolean)
  obtain ⟨p4, a4, A4, f4, -, g4, q4, r4⟩ := Cond.arrayOver_spec (hts _ wa_over)
  refine ⟨((fun k => match k with | 0 => c0 | 1 => c1 | 2 => c2 | 3 => c3 | 4 => c4 | 5 => c5 | 6 => c6 | 7 => c7 | _ => c8, fun k => match k with | 0 => i0 | 1 => i1 | 2 => i2 | 3 => i3 | 4 => i4 | 5 => i5 | 6 => i6 | 7 => i7 | _ => i8), (fun t => match t with | 0 => a0 | 1 => a1 | 2 => a2 | 3 => a3 | 4 => a4 | _ => scls), base), rfl, rfl, ?_, ?_⟩
  · intro c q hq
    match c, hq with
    | 0, hq => cases hq; exact k0
    | 1, hq => cases hq; exact k1
    | 2, hq => cases hq; exact k2
    | 3, hq => cases hq; exact k3
    | 4, hq => cases hq; exact k4
    | 5, hq => cases hq; exact k5
    | 6, hq => cases hq; exact k6
    | 7, hq => cases hq; exact k7
    | 8, hq => cases hq; exact k8
    | k + 9, hq => simp [jm_cl] at hq
  · intro t ht
    match t, ht with
    | 0, _ => exact ⟨fun n z => ⟨(fun k h => by cases h), A0, g0, p0, q0⟩, f0⟩
    | 1, _ => exact ⟨fun n z => ⟨(fun k h => by cases h), A1, g1, p1, q1⟩, f1⟩
    | 2, _ => exact ⟨fun n z => ⟨(fun k h => by cases h), A2, g2, p2, q2⟩, f2⟩
    | 3, _ => exact ⟨fun n z => ⟨(fun k h => by cases h), A3, g3, p3, q3⟩, f3⟩
    | 4, _ => exact ⟨fun n z => ⟨(fun k h => by cases h), A4, g4, p4, q4⟩, A4, p4, g4, q4, f4, r4⟩
    | t + 5, ht => exact absurd ht (by unfold jm_nt; omega)
/-- a static reference out of the tables' words -/
theorem lw_St {s : State} {A : Array Value} {n d : String} {F : Nat → Prop} (hl : (Cond.laysStatic "java/lang/Throwable" n d).before A s = true) (h : (Cond.isRef (.static "java/lang/Throwable" n d)).before A s = true) (hF : ∀ a : Nat, a < s.heap.size → ¬ F a) : jm_St n d F s s.heap := by
  obtain ⟨c, k, i, f, a, cell, hc, hi, hst, ha, hcell, hs, hcls, hlt, hty⟩ := Cond.laysStatic_spec hl
  cases hv : (Term.static "java/lang/Throwable" n d).eval A s none [] s with
  | none => simp [Cond.before, Cond.holds, Cond.value, hv] at h
  | some w =>
    obtain ⟨hst', a', cell', ha', hcell', -, hslot⟩ := Term.static_spec hi hv
    cases ha.symm.trans ha'
    cases hcell.symm.trans hcell'
    have hw : w.isRef = true := by
      simp only [Cond.before, Cond.holds, Cond.value, hv] at h
      cases w <;> first | rfl | simp at h
    exact ⟨c, k, i, f, a, cell, w, hc, hi, hst, ha, hcell, hs, hcls, hlt, hty, hslot, hw, hF a (Array.getElem?_eq_some_iff.mp hcell).1⟩
theorem lw_str {s : State} {A : Array Value} {own tx : String} {k : Nat} {cur : ClassId} (hc : s.vm.findClass own = some cur) (h : (Cond.stringRef own k tx).before A s = true) : ∃ a, vk_R own k tx a s := by
  obtain ⟨-, -, -, a, -, -, -, -, -, hev⟩ := Cond.stringRef_spec hc h
  exact ⟨a, vk_R.of h hev⟩
theorem lw_N {s : State} {b : Addr} {G : jm_G} (hts : ∀ w ∈ lw_tbl, w.before #[Value.ref b] s = true) (hg : (Jvm.Cond.and given_1 narrow_1).before #[Value.ref b] s = true) (hG : G.2.2 = s.heap.size) (h5 : ArrOfT s (G.2.1 5) .int) (hK : jm_K G s) : jm_N G s s.heap := by
  have hs := flat_of_before _ hg
  have hF : ∀ a : Nat, a < s.heap.size → ¬ jm_A G a := fun a ha h => by
    unfold jm_A at h
    omega
  refine ⟨fun q hq => ?_, ⟨va_AO.of (hts _ wa_over), h5⟩, fun q hq => ?_, fun x hx => ?_, ?_, ?_, fun q hq => ?_⟩
  · unfold jm_NW at hq
    rcases List.mem_cons.mp hq with rfl | hq
    · exact va_Nw.of rfl (hts _ (jm_in1 29 rfl))
    rcases List.mem_cons.mp hq with rfl | hq
    · exact va_Nw.of rfl (hts _ (jm_in1 35 rfl))
    rcases List.mem_cons.mp hq with rfl | hq
    · exact va_Nw.of rfl (hts _ (jm_in1 69 rfl))
    rcases List.mem_cons.mp hq with rfl | hq
    · exact va_Nw.of rfl (hts _ (jm_in1 138 rfl))
    rcases List.mem_cons.mp hq with rfl | hq
    · exact va_Nw.of rfl (hts _ (jm_in1 160 rfl))
    rcases List.mem_cons.mp hq with rfl | hq
    · exact va_Nw.of rfl (hts _ (jm_in1 166 rfl))
    cases List.mem_singleton.mp hq
    exact va_Nw.of rfl (hts _ (jm_in2 129 rfl))
  · unfold jm_NC at hq
    rcases List.mem_cons.mp hq with rfl | hq
    · exact va_Nw.of rfl (hts _ (jm_in3 21 rfl))
    rcases List.mem_cons.mp hq with rfl | hq
    · exact va_Nw.of rfl (hts _ (jm_in3 101 rfl))
    rcases List.mem_cons.mp hq with rfl | hq
    · exact va_Nw.of rfl (hts _ (jm_in3 135 rfl))
    cases List.mem_singleton.mp hq
    exact va_Nw.of rfl (hts _ (jm_in3 206 rfl))
  · unfold jm_ND at hx
    rcases List.mem_cons.mp hx with rfl | hx
    · exact va_Nw.of rfl (hts _ (jm_in3 22 rfl))
    rcases List.mem_cons.mp hx with rfl | hx
    · exact va_Nw.of rfl (hts _ (jm_in3 23 rfl))
    rcases List.mem_cons.mp hx with rfl | hx
    · exact va_Nw.of rfl (hts _ (jm_in3 24 rfl))
    rcases List.mem_cons.mp hx with rfl | hx
    · exact va_Nw.of rfl (hts _ (jm_in3 25 rfl))
    rcases List.mem_cons.mp hx with rfl | hx
    · exact va_Nw.of rfl (hts _ (jm_in3 26 rfl))
    cases List.mem_singleton.mp hx
    exact va_Nw.of rfl (hts _ (jm_in3 27 rfl))
  · exact lw_St (hts _ (jm_in3 46 rfl)) (hs _ (by decide +kernel)) hF
  · exact lw_St (hts _ (jm_in3 48 rfl)) (hs _ (by decide +kernel)) hF
  · unfold jm_NS at hq
    rcases List.mem_cons.mp hq with rfl | hq
    · exact lw_str (hK.1 0 _ rfl).2.1 (hts _ (jm_in3 61 rfl))
    rcases List.mem_cons.mp hq with rfl | hq
    · exact lw_str (hK.1 0 _ rfl).2.1 (hts _ (jm_in3 108 rfl))
    rcases List.mem_cons.mp hq with rfl | hq
    · exact lw_str (hK.1 0 _ rfl).2.1 (hts _ (jm_in3 142 rfl))
    rcases List.mem_cons.mp hq with rfl | hq
    · exact lw_str (hK.1 0 _ rfl).2.1 (hts _ (jm_in3 213 rfl))
    cases List.mem_singleton.mp hq
    exact lw_str (hK.1 0 _ rfl).2.1 (hts _ (jm_in3 232 rfl))
set_option maxHeartbeats 4000000 in
theorem whole_start {p : Program} {e : Env} {s : State} {m : MethodId} {below : List Frame} {meth : Method} {c : Code} (l : Launch) (hlt : l.stackTraces = false) {b L : Nat} {xs : Nat → Int32} (hL : L ≤ 3072) (C0 : lw_At p s m meth c b L xs) : W p l e room_1 s m #[Value.ref b] below meth c s.heap [] 0 0 (lw_Z below #[Value.ref b] s) (entryFrame m ([Value.ref b] : List Value).toArray 8) := by
  obtain ⟨hx, hb, hr, hml, hown, hts, hX, hbl, hlocks, hgv, hnm, htab⟩ := C0
  obtain ⟨scr, g1, g2, g3, g4, g5⟩ := hX
  obtain ⟨G, hG, hG5, hK⟩ := lw_K hts scr.cls s.heap.size
  have h5 : ArrOfT s (G.2.1 5) .int := fun n z => ⟨(fun k h => by cases h), by
    show ∃ k, s.vm.classes[G.2.1 5]? = some k ∧ ∃ comp, k.kind = .array comp .int
    rw [hG5]
    exact g2.2⟩
  have hN : jm_N G s s.heap := lw_N hts hgv hG h5 hK
  obtain ⟨h, hh⟩ : ∃ h : jm_H, h = (s.heap.size, 0, fun a => if a = b then (0, L + 1) else (0, 0), fun _ j => .int (xs j)) := ⟨_, rfl⟩
  have hsz : h.1 = s.heap.size := by rw [hh]
  have hkd : ∀ a, h.2.2.1 a = if a = b then (0, L + 1) else (0, 0) := fun a => by rw [hh]
  have hct : ∀ a j, h.2.2.2 a j = .int (xs j) := fun a j => by rw [hh]
  clear hh
  have hR : jm_R G h s.heap := by
    refine ⟨hsz, ⟨by rw [hG]; exact Nat.le_refl _, fun a n ha hk => ?_⟩, fun a c n hk => ?_, fun a t n hk => ?_⟩
    · rw [hkd] at hk
      by_cases q : a = b
      · rw [if_pos q] at hk
        have e : L = n := Nat.succ.inj (Prod.mk.inj hk).2
        subst e
        subst q
        exact ⟨scr, g1, hG5.symm, g2.1, g3, g4, fun j hj => by rw [hct]; exact g5 j hj⟩
      · rw [if_neg q] at hk
        exact absurd (Prod.mk.inj hk).2 (Nat.succ_ne_zero n).symm
    · rw [hkd] at hk
      exfalso
      by_cases q : a = b
      · rw [if_pos q] at hk
        have := (Prod.mk.inj hk).1
        unfold jm_o at this
        omega
      · rw [if_neg q] at hk
        have := (Prod.mk.inj hk).1
        unfold jm_o at this
        omega
    · rw [hkd] at hk
      exfalso
      by_cases q : a = b
      · rw [if_pos q] at hk
        have := (Prod.mk.inj hk).1
        unfold jm_a at this
        omega
      · rw [if_neg q] at hk
        have := (Prod.mk.inj hk).1
        unfold jm_a at this
        omega
  have C : jm_Cx G mm_Lw_law p s m #[Value.ref b] meth c := ⟨hx, hb, hml, hr, hlocks, hnm, hown, htab, fun w hw => hts w (jm_W_tbl w hw), hK, hN⟩
  obtain ⟨r, h', a1, a2, a3, a4, ⟨v, hr9, hv9, z1, z2⟩, kv⟩ := x_Lw_law l G 96 hlt (Nat.le_refl _) (h := h) (sc := b) (len := L) (S := xs) (by rw [hG]; exact hbl) (by rw [hsz]; exact hbl) (by rw [hkd]; exact if_pos rfl) (fun j _ => hct b j) hL
  subst hr9
  subst hv9
  have hl := lv_entry ([.ref b]) (n := 8) (Nat.le_of_ble_eq_true rfl)
  rw [lg_entry_eq]
  generalize (lg_sl ([.ref b]) ++ List.replicate (8 - (lg_sl ([.ref b])).length) Slot.unset).toArray = ls at hl ⊢
  have W9 := kv p e s m #[Value.ref b] below meth c s.heap [] ls C hsz (Nat.le_refl _) (Nat.le_refl _) hR va_S.rf hl
  rw [Nat.sub_self, Nat.sub_self] at W9
  intro T hT X
  have hrm : s.hasRoom e.platform (jm_rm (jm_zn G 96 h.1 h.2.1) (.inl (some (.int 1))) h') = true := lw_room (r' := room_1) (show 96 ≤ 2048 by decide) (show jm_lo 96 ≤ 84000 by decide) (show h'.1 - h.1 ≤ 601024 by omega) (show h'.2.1 - h.2.1 ≤ 7293034 by omega) X.room
  obtain ⟨t, st, o9, r1, r2, ⟨e1, r3, r4⟩, L9, ⟨f1, f2, f3⟩, f4⟩ := W9 T hT ⟨X.admits, X.cas, X.clock, X.frames, hrm, X.hears, X.method, X.code, X.here, X.tail, X.warmed, X.limits, X.bytes, X.same⟩
  refine ⟨t, st, o9, r1, r2, e1, f1, f2, lw_fresh f3 (fun q hq => ?_) (by omega) (by omega)⟩
  have := f4 q hq
  unfold jm_A at this
  omega
set_option maxHeartbeats 4000000 in
theorem lw_walk (l : Launch) (hlt : l.stackTraces = false) (b : Addr) (xs : List Int32) : MetFree l x (headSpec (Jvm.Cond.code x code maxLocals ret :: tables_1) room_1) (lw_P b xs) (fun _ _ _ _ _ => True) lw_Q := by
  refine MetFree.of_bodyS (code := code) (maxLocals := maxLocals) (ret := ret) (by decide) ?_ ?_
  · intro args s m h hn
    obtain ⟨meth, c, h1, h2, h3, h4, h5, h6, -, -⟩ := Cond.code_spec hn (atoms_spec (ws := Jvm.Cond.code x code maxLocals ret :: tables_1) h _ List.mem_cons_self)
    exact ⟨meth, c, h1, h2, h3, h4, h5, h6⟩
  · intro p e s m args below meth c s₁ B hml0 hP _
    obtain ⟨rfl, hx, hbd, hgv⟩ := hP
    obtain ⟨scr, harrAt, hlist, hof, hsmall⟩ := hx
    obtain ⟨hcb, hkn, -, -⟩ := State.arrayAt?_spec harrAt
    have hown : s.vm.findClass R_law = some m.cls := findClass_of_methodNamed B.named
    have hts0 : ∀ c ∈ (Jvm.Cond.code x code maxLocals ret :: tables_1), c.before #[Value.ref b] s = true := atoms_spec (ws := Jvm.Cond.code x code maxLocals ret :: tables_1) B.pre
    have hts : ∀ w ∈ lw_tbl, w.before #[Value.ref b] s = true := k2_hts_sels lw_privs (fun w hw => hts0 w (List.mem_cons_of_mem _ hw)) lw_privs_ok
    have hml : c.maxLocals = 8 := B.maxLocals_eq (hts0 _ List.mem_cons_self)
    have htab : c.exceptionTable.toList = [] := by
      have := BodyLoose.noHandlers B (hts0 _ List.mem_cons_self)
      simpa using this
    have hnm : meth.name = "law" := (name_of_methodNamed B.named B.method).1
    have X₀ : Stand p l e room_1 s m #[Value.ref b] below meth c s₁ [] 0 0 := Stand.of_body B
    have hh0 : s₁.heap = s.heap := by rw [B.state]; rfl
    have hsz : scr.slots.size = xs.length := by rw [← Array.length_toList, hlist, List.length_map]
    have hval : ∀ j : Nat, j < xs.length → scr.slots[j]? = some (.int (xs.getD j 0)) := fun j hj => by
      rw [← Array.getElem?_toList, hlist]
      simp [hj]
    have hbl : b < s.heap.size := (Array.getElem?_eq_some_iff.mp hcb).1
    have hX : va_X b xs.length (fun j => xs.getD j 0) s s.heap := ⟨scr, hcb, hof, hkn, hsz, hval⟩
    have K : W p l e room_1 s m #[Value.ref b] below meth c s₁.heap [] 0 0 (lw_Z below #[Value.ref b] s) (entryFrame m ([Value.ref b] : List Value).toArray 8) := by
      rw [hh0]
      exact whole_start l hlt hbd ⟨B.exec, B.bytes, B.returns, hml, hown, hts, hX, hbl, B.notSynchronized, hgv, hnm, htab⟩
    obtain ⟨t, a1, o, b1, b2, b3⟩ := K s₁ rfl X₀
    exact ⟨t, o, a1, b1, b2, b3⟩
theorem lw_pre_spec {args : Array Value} {s : State} (h : (Jvm.Cond.and given_1 narrow_1).before args s = true) (hr : rest_1_c.before args s = true) : ∃ (b : Addr) (xs : List Int32), lw_P b xs args s := by
  have hs := flat_of_before _ h
  have hq := flat_of_before _ hr
  have hc : (Cond.count 1).before args s = true := hs _ (by decide +kernel)
  have harr : (Cond.arrayOf (.arg 0) .int).before args s = true := hs _ (by decide +kernel)
  have hle : (Cond.le (.length (.arg 0)) (.int 3072)).before args s = true := hs _ (by decide +kernel)
  have hlen : (Cond.isInt (.length (.arg 0))).before args s = true := hq _ (by decide +kernel)
  have hall : (Cond.all (.arg 0) (.isInt (.elem (.arg 0) (.index 0)))).before args s = true := hq _ (by decide +kernel)
  obtain ⟨b, xs, hb, hx⟩ := State.ints_of_pre rfl harr hlen hall
  have hsm : xs.length < 2 ^ 31 := hx.choose_spec.2.2.2
  have hev : (Term.length (.arg 0)).eval args s none [] s = some (.int xs.length.toInt32) := hx.length_eval hb
  have hv := Cond.le_ints hev (show (Term.int 3072).eval args s none [] s = some (.int 3072) from rfl)
  have hd : xs.length.toInt32 ≤ 3072 := by
    simpa [Cond.before, Cond.holds, hv] using hle
  have hN : xs.length ≤ 3072 := (Int32.ofNat_le_ofNat hsm (by decide)).mp (show Int32.ofNat xs.length ≤ Int32.ofNat 3072 from hd)
  exact ⟨b, xs, Cond.one_arg hc (show args[0]? = some (.ref b) from hb), hx, hN, h⟩
theorem lw_comes (l : Launch) (hlt : l.stackTraces = false) : Comes l x (Jvm.Cond.code x code maxLocals ret :: tables_1) room_1 (fun tb e args s => Calls_1 tb e args s ∧ rest_1 tb e args s ∧ Pre_1 tb e args s)
    (fun _ _ args s o t => lw_Q args s o t) := by
  intro p e ha hc hk s m args below hf hfit hheap happ hpre
  obtain ⟨b, xs, hP⟩ := lw_pre_spec hpre.2.2 hpre.2.1
  obtain ⟨k, o, h1, h2, h3, hQ⟩ := lw_walk l hlt b xs p e ha hc hk s m args below hf ((Spec.applies_iff_loose hf).mp happ).1 hP trivial
  exact ⟨k, o, h1, h2, h3, hQ⟩
theorem lw_frame {s t : State} {o : Outcome} {args : Array Value} (h : Framed s o t [] 601024 7293034) :
    Framed s o t (fieldLocs frame_1_writes args s ++ arrayLocs frame_1_arrays args s ++ staticLocs frame_1_statics s) 601024 7293034 := h
theorem lw_limb (L : Cond) (hL : ∀ (args : Array Value) (s t : State), L.after args s (.returned (some (.int 1))) t = true) :
    ArmFor flags0 classFile x code maxLocals ret World_1 tables_1 room_1 Calls_1 rest_1 Pre_1
      (fun tb e a s o t => postC L tb e a s o t ∧ Framed s o t (fieldLocs frame_1_writes a s ++ arrayLocs frame_1_arrays a s ++ staticLocs frame_1_statics s) 601024 7293034) := by
  intro l hfl _ _ p e ha hc hk s m args below hf hfit hheap happ hpre
  have hlt : l.stackTraces = false := by
    unfold Launch.stackTraces
    rw [hfl]
    decide +kernel
  obtain ⟨k, o, h1, h2, h3, rfl, hF⟩ := lw_comes l hlt p e ha hc hk s m args below hf hfit hheap happ hpre
  exact ⟨k, _, h1, h2, h3, hL args s _, lw_frame hF⟩
theorem i_vc : Claimed_1_1 ∧ Claimed_1_2 := ⟨lw_limb limb_1_1 (fun args s t => by simp [limb_1_1, Cond.after, Cond.holds, Cond.value]), lw_limb limb_1_2 (fun args s t => Cond.after_iff.mpr (by
  first | (rw [show limb_1_2 = Cond.eq .result (.int 1) from rfl, Cond.eq_ints (x := 1) (y := 1) rfl rfl]; simp; done) | (simp [limb_1_2, Cond.value, Term.eval]; done)))⟩
